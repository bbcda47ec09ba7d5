theorem d_Mod_init_0 : decode b_Mod_init 0 = .ok (.aload_n 0, 1) := by decide +kernel
theorem d_Mod_init_1 : decode b_Mod_init 1 = .ok (.invokespecial 1, 3) := by decide +kernel
theorem d_Mod_init_4 : decode b_Mod_init 4 = .ok (.aload_n 0, 1) := by decide +kernel
theorem d_Mod_init_5 : decode b_Mod_init 5 = .ok (.sipush 240, 3) := by decide +kernel
theorem d_Mod_init_8 : decode b_Mod_init 8 = .ok (.newarray .int, 2) := by decide +kernel
theorem d_Mod_init_10 : decode b_Mod_init 10 = .ok (.putfield 7, 3) := by decide +kernel
theorem d_Mod_init_13 : decode b_Mod_init 13 = .ok (.aload_n 0, 1) := by decide +kernel
theorem d_Mod_init_14 : decode b_Mod_init 14 = .ok (.sipush 240, 3) := by decide +kernel
theorem d_Mod_init_17 : decode b_Mod_init 17 = .ok (.newarray .int, 2) := by decide +kernel
theorem d_Mod_init_19 : decode b_Mod_init 19 = .ok (.putfield 13, 3) := by decide +kernel
theorem d_Mod_init_22 : decode b_Mod_init 22 = .ok (.aload_n 0, 1) := by decide +kernel
theorem d_Mod_init_23 : decode b_Mod_init 23 = .ok (.bipush 18, 2) := by decide +kernel
theorem d_Mod_init_25 : decode b_Mod_init 25 = .ok (.newarray .int, 2) := by decide +kernel
theorem d_Mod_init_27 : decode b_Mod_init 27 = .ok (.putfield 16, 3) := by decide +kernel
theorem d_Mod_init_30 : decode b_Mod_init 30 = .ok (.aload_n 0, 1) := by decide +kernel
theorem d_Mod_init_31 : decode b_Mod_init 31 = .ok (.sipush 240, 3) := by decide +kernel
theorem d_Mod_init_34 : decode b_Mod_init 34 = .ok (.newarray .int, 2) := by decide +kernel
theorem d_Mod_init_36 : decode b_Mod_init 36 = .ok (.putfield 19, 3) := by decide +kernel
theorem d_Mod_init_39 : decode b_Mod_init 39 = .ok (.aload_n 0, 1) := by decide +kernel
theorem d_Mod_init_40 : decode b_Mod_init 40 = .ok (.bipush 18, 2) := by decide +kernel
theorem d_Mod_init_42 : decode b_Mod_init 42 = .ok (.newarray .int, 2) := by decide +kernel
theorem d_Mod_init_44 : decode b_Mod_init 44 = .ok (.putfield 22, 3) := by decide +kernel
theorem d_Mod_init_47 : decode b_Mod_init 47 = .ok (.aload_n 0, 1) := by decide +kernel
theorem d_Mod_init_48 : decode b_Mod_init 48 = .ok (.bipush 26, 2) := by decide +kernel
theorem d_Mod_init_50 : decode b_Mod_init 50 = .ok (.newarray .long, 2) := by decide +kernel
theorem d_Mod_init_52 : decode b_Mod_init 52 = .ok (.putfield 25, 3) := by decide +kernel
theorem d_Mod_init_55 : decode b_Mod_init 55 = .ok (.aload_n 0, 1) := by decide +kernel
theorem d_Mod_init_56 : decode b_Mod_init 56 = .ok (.bipush 26, 2) := by decide +kernel
theorem d_Mod_init_58 : decode b_Mod_init 58 = .ok (.newarray .long, 2) := by decide +kernel
theorem d_Mod_init_60 : decode b_Mod_init 60 = .ok (.putfield 29, 3) := by decide +kernel
theorem d_Mod_init_63 : decode b_Mod_init 63 = .ok (.aload_n 0, 1) := by decide +kernel
theorem d_Mod_init_64 : decode b_Mod_init 64 = .ok (.bipush 26, 2) := by decide +kernel
theorem d_Mod_init_66 : decode b_Mod_init 66 = .ok (.newarray .boolean, 2) := by decide +kernel
theorem d_Mod_init_68 : decode b_Mod_init 68 = .ok (.putfield 32, 3) := by decide +kernel
theorem d_Mod_init_71 : decode b_Mod_init 71 = .ok (.aload_n 0, 1) := by decide +kernel
theorem d_Mod_init_72 : decode b_Mod_init 72 = .ok (.bipush 8, 2) := by decide +kernel
theorem d_Mod_init_74 : decode b_Mod_init 74 = .ok (.newarray .long, 2) := by decide +kernel
theorem d_Mod_init_76 : decode b_Mod_init 76 = .ok (.putfield 36, 3) := by decide +kernel
theorem d_Mod_init_79 : decode b_Mod_init 79 = .ok (.aload_n 0, 1) := by decide +kernel
theorem d_Mod_init_80 : decode b_Mod_init 80 = .ok (.bipush 8, 2) := by decide +kernel
theorem d_Mod_init_82 : decode b_Mod_init 82 = .ok (.newarray .long, 2) := by decide +kernel
theorem d_Mod_init_84 : decode b_Mod_init 84 = .ok (.putfield 39, 3) := by decide +kernel
theorem d_Mod_init_87 : decode b_Mod_init 87 = .ok (.aload_n 0, 1) := by decide +kernel
theorem d_Mod_init_88 : decode b_Mod_init 88 = .ok (.bipush 16, 2) := by decide +kernel
theorem d_Mod_init_90 : decode b_Mod_init 90 = .ok (.newarray .long, 2) := by decide +kernel
theorem d_Mod_init_92 : decode b_Mod_init 92 = .ok (.putfield 42, 3) := by decide +kernel
theorem d_Mod_init_95 : decode b_Mod_init 95 = .ok (.aload_n 0, 1) := by decide +kernel
theorem d_Mod_init_96 : decode b_Mod_init 96 = .ok (.bipush 16, 2) := by decide +kernel
theorem d_Mod_init_98 : decode b_Mod_init 98 = .ok (.newarray .long, 2) := by decide +kernel
theorem d_Mod_init_100 : decode b_Mod_init 100 = .ok (.putfield 45, 3) := by decide +kernel
theorem d_Mod_init_103 : decode b_Mod_init 103 = .ok (.aload_n 0, 1) := by decide +kernel
theorem d_Mod_init_104 : decode b_Mod_init 104 = .ok (.bipush 16, 2) := by decide +kernel
theorem d_Mod_init_106 : decode b_Mod_init 106 = .ok (.newarray .int, 2) := by decide +kernel
theorem d_Mod_init_108 : decode b_Mod_init 108 = .ok (.putfield 48, 3) := by decide +kernel
theorem d_Mod_init_111 : decode b_Mod_init 111 = .ok (.aload_n 0, 1) := by decide +kernel
theorem d_Mod_init_112 : decode b_Mod_init 112 = .ok (.bipush 16, 2) := by decide +kernel
theorem d_Mod_init_114 : decode b_Mod_init 114 = .ok (.newarray .int, 2) := by decide +kernel
theorem d_Mod_init_116 : decode b_Mod_init 116 = .ok (.putfield 51, 3) := by decide +kernel
theorem d_Mod_init_119 : decode b_Mod_init 119 = .ok (.aload_n 0, 1) := by decide +kernel
theorem d_Mod_init_120 : decode b_Mod_init 120 = .ok (.bipush 8, 2) := by decide +kernel
theorem d_Mod_init_122 : decode b_Mod_init 122 = .ok (.newarray .int, 2) := by decide +kernel
theorem d_Mod_init_124 : decode b_Mod_init 124 = .ok (.putfield 54, 3) := by decide +kernel
theorem d_Mod_init_127 : decode b_Mod_init 127 = .ok (.aload_n 0, 1) := by decide +kernel
theorem d_Mod_init_128 : decode b_Mod_init 128 = .ok (.bipush 8, 2) := by decide +kernel
theorem d_Mod_init_130 : decode b_Mod_init 130 = .ok (.newarray .int, 2) := by decide +kernel
theorem d_Mod_init_132 : decode b_Mod_init 132 = .ok (.putfield 57, 3) := by decide +kernel
theorem d_Mod_init_135 : decode b_Mod_init 135 = .ok (.aload_n 0, 1) := by decide +kernel
theorem d_Mod_init_136 : decode b_Mod_init 136 = .ok (.bipush 8, 2) := by decide +kernel
theorem d_Mod_init_138 : decode b_Mod_init 138 = .ok (.newarray .int, 2) := by decide +kernel
theorem d_Mod_init_140 : decode b_Mod_init 140 = .ok (.putfield 60, 3) := by decide +kernel
theorem d_Mod_init_143 : decode b_Mod_init 143 = .ok (.aload_n 0, 1) := by decide +kernel
theorem d_Mod_init_144 : decode b_Mod_init 144 = .ok (.bipush 8, 2) := by decide +kernel
theorem d_Mod_init_146 : decode b_Mod_init 146 = .ok (.newarray .long, 2) := by decide +kernel
theorem d_Mod_init_148 : decode b_Mod_init 148 = .ok (.putfield 63, 3) := by decide +kernel
theorem d_Mod_init_151 : decode b_Mod_init 151 = .ok (.aload_n 0, 1) := by decide +kernel
theorem d_Mod_init_152 : decode b_Mod_init 152 = .ok (.bipush 8, 2) := by decide +kernel
theorem d_Mod_init_154 : decode b_Mod_init 154 = .ok (.newarray .int, 2) := by decide +kernel
theorem d_Mod_init_156 : decode b_Mod_init 156 = .ok (.putfield 66, 3) := by decide +kernel
theorem d_Mod_init_159 : decode b_Mod_init 159 = .ok (.aload_n 0, 1) := by decide +kernel
theorem d_Mod_init_160 : decode b_Mod_init 160 = .ok (.bipush 8, 2) := by decide +kernel
theorem d_Mod_init_162 : decode b_Mod_init 162 = .ok (.newarray .long, 2) := by decide +kernel
theorem d_Mod_init_164 : decode b_Mod_init 164 = .ok (.putfield 69, 3) := by decide +kernel
theorem d_Mod_init_167 : decode b_Mod_init 167 = .ok (.aload_n 0, 1) := by decide +kernel
theorem d_Mod_init_168 : decode b_Mod_init 168 = .ok (.bipush 8, 2) := by decide +kernel
theorem d_Mod_init_170 : decode b_Mod_init 170 = .ok (.newarray .long, 2) := by decide +kernel
theorem d_Mod_init_172 : decode b_Mod_init 172 = .ok (.putfield 72, 3) := by decide +kernel
theorem d_Mod_init_175 : decode b_Mod_init 175 = .ok (.aload_n 0, 1) := by decide +kernel
theorem d_Mod_init_176 : decode b_Mod_init 176 = .ok (.bipush 8, 2) := by decide +kernel
theorem d_Mod_init_178 : decode b_Mod_init 178 = .ok (.newarray .long, 2) := by decide +kernel
theorem d_Mod_init_180 : decode b_Mod_init 180 = .ok (.putfield 75, 3) := by decide +kernel
theorem d_Mod_init_183 : decode b_Mod_init 183 = .ok (.return_, 1) := by decide +kernel
theorem d_Mod_thrown_0 : decode b_Mod_thrown 0 = .ok (.aload_n 0, 1) := by decide +kernel
theorem d_Mod_thrown_1 : decode b_Mod_thrown 1 = .ok (.getfield 78, 3) := by decide +kernel
theorem d_Mod_thrown_4 : decode b_Mod_thrown 4 = .ok (.ireturn, 1) := by decide +kernel
theorem d_Mod_unit_0 : decode b_Mod_unit 0 = .ok (.aload_n 0, 1) := by decide +kernel
theorem d_Mod_unit_1 : decode b_Mod_unit 1 = .ok (.iconst 0, 1) := by decide +kernel
theorem d_Mod_unit_2 : decode b_Mod_unit 2 = .ok (.putfield 78, 3) := by decide +kernel
theorem d_Mod_unit_5 : decode b_Mod_unit 5 = .ok (.iload_n 1, 1) := by decide +kernel
theorem d_Mod_unit_6 : decode b_Mod_unit 6 = .ok (.i2l, 1) := by decide +kernel
theorem d_Mod_unit_7 : decode b_Mod_unit 7 = .ok (.ldc2_w 82, 3) := by decide +kernel
theorem d_Mod_unit_10 : decode b_Mod_unit 10 = .ok (.ldc2_w 84, 3) := by decide +kernel
theorem d_Mod_unit_13 : decode b_Mod_unit 13 = .ok (.invokestatic 86, 3) := by decide +kernel
theorem d_Mod_unit_16 : decode b_Mod_unit 16 = .ok (.ifCond .eq 17, 3) := by decide +kernel
theorem d_Mod_unit_19 : decode b_Mod_unit 19 = .ok (.aload_n 0, 1) := by decide +kernel
theorem d_Mod_unit_20 : decode b_Mod_unit 20 = .ok (.getfield 90, 3) := by decide +kernel
theorem d_Mod_unit_23 : decode b_Mod_unit 23 = .ok (.sipush 240, 3) := by decide +kernel
theorem d_Mod_unit_26 : decode b_Mod_unit 26 = .ok (.if_icmp .ge 7, 3) := by decide +kernel
theorem d_Mod_unit_29 : decode b_Mod_unit 29 = .ok (.iconst 1, 1) := by decide +kernel
theorem d_Mod_unit_30 : decode b_Mod_unit 30 = .ok (.goto 4, 3) := by decide +kernel
theorem d_Mod_unit_33 : decode b_Mod_unit 33 = .ok (.iconst 0, 1) := by decide +kernel
theorem d_Mod_unit_34 : decode b_Mod_unit 34 = .ok (.istore_n 2, 1) := by decide +kernel
theorem d_Mod_unit_35 : decode b_Mod_unit 35 = .ok (.iload_n 2, 1) := by decide +kernel
theorem d_Mod_unit_36 : decode b_Mod_unit 36 = .ok (.ifCond .eq 23, 3) := by decide +kernel
theorem d_Mod_unit_39 : decode b_Mod_unit 39 = .ok (.aload_n 0, 1) := by decide +kernel
theorem d_Mod_unit_40 : decode b_Mod_unit 40 = .ok (.getfield 7, 3) := by decide +kernel
theorem d_Mod_unit_43 : decode b_Mod_unit 43 = .ok (.aload_n 0, 1) := by decide +kernel
theorem d_Mod_unit_44 : decode b_Mod_unit 44 = .ok (.getfield 90, 3) := by decide +kernel
theorem d_Mod_unit_47 : decode b_Mod_unit 47 = .ok (.iload_n 1, 1) := by decide +kernel
theorem d_Mod_unit_48 : decode b_Mod_unit 48 = .ok (.iastore, 1) := by decide +kernel
theorem d_Mod_unit_49 : decode b_Mod_unit 49 = .ok (.aload_n 0, 1) := by decide +kernel
theorem d_Mod_unit_50 : decode b_Mod_unit 50 = .ok (.dup, 1) := by decide +kernel
theorem d_Mod_unit_51 : decode b_Mod_unit 51 = .ok (.getfield 90, 3) := by decide +kernel
theorem d_Mod_unit_54 : decode b_Mod_unit 54 = .ok (.iconst 1, 1) := by decide +kernel
theorem d_Mod_unit_55 : decode b_Mod_unit 55 = .ok (.iadd, 1) := by decide +kernel
theorem d_Mod_unit_56 : decode b_Mod_unit 56 = .ok (.putfield 90, 3) := by decide +kernel
theorem d_Mod_unit_59 : decode b_Mod_unit 59 = .ok (.iload_n 2, 1) := by decide +kernel
theorem d_Mod_unit_60 : decode b_Mod_unit 60 = .ok (.ireturn, 1) := by decide +kernel
theorem d_Mod_isIn_0 : decode b_Mod_isIn 0 = .ok (.lload_n 0, 1) := by decide +kernel
theorem d_Mod_isIn_1 : decode b_Mod_isIn 1 = .ok (.lload_n 2, 1) := by decide +kernel
theorem d_Mod_isIn_2 : decode b_Mod_isIn 2 = .ok (.lcmp, 1) := by decide +kernel
theorem d_Mod_isIn_3 : decode b_Mod_isIn 3 = .ok (.ifCond .lt 14, 3) := by decide +kernel
theorem d_Mod_isIn_6 : decode b_Mod_isIn 6 = .ok (.lload_n 0, 1) := by decide +kernel
theorem d_Mod_isIn_7 : decode b_Mod_isIn 7 = .ok (.lload 4, 2) := by decide +kernel
theorem d_Mod_isIn_9 : decode b_Mod_isIn 9 = .ok (.lcmp, 1) := by decide +kernel
theorem d_Mod_isIn_10 : decode b_Mod_isIn 10 = .ok (.ifCond .gt 7, 3) := by decide +kernel
theorem d_Mod_isIn_13 : decode b_Mod_isIn 13 = .ok (.iconst 1, 1) := by decide +kernel
theorem d_Mod_isIn_14 : decode b_Mod_isIn 14 = .ok (.goto 4, 3) := by decide +kernel
theorem d_Mod_isIn_17 : decode b_Mod_isIn 17 = .ok (.iconst 0, 1) := by decide +kernel
theorem d_Mod_isIn_18 : decode b_Mod_isIn 18 = .ok (.ireturn, 1) := by decide +kernel
theorem d_Mod_read_0 : decode b_Mod_read 0 = .ok (.aload_n 0, 1) := by decide +kernel
theorem d_Mod_read_1 : decode b_Mod_read 1 = .ok (.iconst 0, 1) := by decide +kernel
theorem d_Mod_read_2 : decode b_Mod_read 2 = .ok (.putfield 78, 3) := by decide +kernel
theorem d_Mod_read_5 : decode b_Mod_read 5 = .ok (.aload_n 0, 1) := by decide +kernel
theorem d_Mod_read_6 : decode b_Mod_read 6 = .ok (.invokevirtual 107, 3) := by decide +kernel
theorem d_Mod_read_9 : decode b_Mod_read 9 = .ok (.istore_n 1, 1) := by decide +kernel
theorem d_Mod_read_10 : decode b_Mod_read 10 = .ok (.aload_n 0, 1) := by decide +kernel
theorem d_Mod_read_11 : decode b_Mod_read 11 = .ok (.iconst 0, 1) := by decide +kernel
theorem d_Mod_read_12 : decode b_Mod_read 12 = .ok (.putfield 90, 3) := by decide +kernel
theorem d_Mod_read_15 : decode b_Mod_read 15 = .ok (.iload_n 1, 1) := by decide +kernel
theorem d_Mod_read_16 : decode b_Mod_read 16 = .ok (.iconst (-1), 1) := by decide +kernel
theorem d_Mod_read_17 : decode b_Mod_read 17 = .ok (.if_icmp .eq 7, 3) := by decide +kernel
theorem d_Mod_read_20 : decode b_Mod_read 20 = .ok (.iconst (-1), 1) := by decide +kernel
theorem d_Mod_read_21 : decode b_Mod_read 21 = .ok (.iload_n 1, 1) := by decide +kernel
theorem d_Mod_read_22 : decode b_Mod_read 22 = .ok (.isub, 1) := by decide +kernel
theorem d_Mod_read_23 : decode b_Mod_read 23 = .ok (.ireturn, 1) := by decide +kernel
theorem d_Mod_read_24 : decode b_Mod_read 24 = .ok (.aload_n 0, 1) := by decide +kernel
theorem d_Mod_read_25 : decode b_Mod_read 25 = .ok (.aload_n 0, 1) := by decide +kernel
theorem d_Mod_read_26 : decode b_Mod_read 26 = .ok (.getfield 104, 3) := by decide +kernel
theorem d_Mod_read_29 : decode b_Mod_read 29 = .ok (.putfield 111, 3) := by decide +kernel
theorem d_Mod_read_32 : decode b_Mod_read 32 = .ok (.iconst 0, 1) := by decide +kernel
theorem d_Mod_read_33 : decode b_Mod_read 33 = .ok (.istore_n 2, 1) := by decide +kernel
theorem d_Mod_read_34 : decode b_Mod_read 34 = .ok (.iload_n 2, 1) := by decide +kernel
theorem d_Mod_read_35 : decode b_Mod_read 35 = .ok (.sipush 240, 3) := by decide +kernel
theorem d_Mod_read_38 : decode b_Mod_read 38 = .ok (.if_icmp .ge 21, 3) := by decide +kernel
theorem d_Mod_read_41 : decode b_Mod_read 41 = .ok (.aload_n 0, 1) := by decide +kernel
theorem d_Mod_read_42 : decode b_Mod_read 42 = .ok (.getfield 13, 3) := by decide +kernel
theorem d_Mod_read_45 : decode b_Mod_read 45 = .ok (.iload_n 2, 1) := by decide +kernel
theorem d_Mod_read_46 : decode b_Mod_read 46 = .ok (.aload_n 0, 1) := by decide +kernel
theorem d_Mod_read_47 : decode b_Mod_read 47 = .ok (.getfield 19, 3) := by decide +kernel
theorem d_Mod_read_50 : decode b_Mod_read 50 = .ok (.iload_n 2, 1) := by decide +kernel
theorem d_Mod_read_51 : decode b_Mod_read 51 = .ok (.iaload, 1) := by decide +kernel
theorem d_Mod_read_52 : decode b_Mod_read 52 = .ok (.iastore, 1) := by decide +kernel
theorem d_Mod_read_53 : decode b_Mod_read 53 = .ok (.iinc 2 1, 3) := by decide +kernel
theorem d_Mod_read_56 : decode b_Mod_read 56 = .ok (.goto (-22), 3) := by decide +kernel
theorem d_Mod_read_59 : decode b_Mod_read 59 = .ok (.iconst 0, 1) := by decide +kernel
theorem d_Mod_read_60 : decode b_Mod_read 60 = .ok (.istore_n 2, 1) := by decide +kernel
theorem d_Mod_read_61 : decode b_Mod_read 61 = .ok (.iload_n 2, 1) := by decide +kernel
theorem d_Mod_read_62 : decode b_Mod_read 62 = .ok (.aload_n 0, 1) := by decide +kernel
theorem d_Mod_read_63 : decode b_Mod_read 63 = .ok (.getfield 111, 3) := by decide +kernel
theorem d_Mod_read_66 : decode b_Mod_read 66 = .ok (.if_icmp .gt 21, 3) := by decide +kernel
theorem d_Mod_read_69 : decode b_Mod_read 69 = .ok (.aload_n 0, 1) := by decide +kernel
theorem d_Mod_read_70 : decode b_Mod_read 70 = .ok (.getfield 16, 3) := by decide +kernel
theorem d_Mod_read_73 : decode b_Mod_read 73 = .ok (.iload_n 2, 1) := by decide +kernel
theorem d_Mod_read_74 : decode b_Mod_read 74 = .ok (.aload_n 0, 1) := by decide +kernel
theorem d_Mod_read_75 : decode b_Mod_read 75 = .ok (.getfield 22, 3) := by decide +kernel
theorem d_Mod_read_78 : decode b_Mod_read 78 = .ok (.iload_n 2, 1) := by decide +kernel
theorem d_Mod_read_79 : decode b_Mod_read 79 = .ok (.iaload, 1) := by decide +kernel
theorem d_Mod_read_80 : decode b_Mod_read 80 = .ok (.iastore, 1) := by decide +kernel
theorem d_Mod_read_81 : decode b_Mod_read 81 = .ok (.iinc 2 1, 3) := by decide +kernel
theorem d_Mod_read_84 : decode b_Mod_read 84 = .ok (.goto (-23), 3) := by decide +kernel
theorem d_Mod_read_87 : decode b_Mod_read 87 = .ok (.aload_n 0, 1) := by decide +kernel
theorem d_Mod_read_88 : decode b_Mod_read 88 = .ok (.getfield 111, 3) := by decide +kernel
theorem d_Mod_read_91 : decode b_Mod_read 91 = .ok (.ireturn, 1) := by decide +kernel
theorem d_Mod_fault_0 : decode b_Mod_fault 0 = .ok (.iconst 0, 1) := by decide +kernel
theorem d_Mod_fault_1 : decode b_Mod_fault 1 = .ok (.istore_n 1, 1) := by decide +kernel
theorem d_Mod_fault_2 : decode b_Mod_fault 2 = .ok (.iconst 0, 1) := by decide +kernel
theorem d_Mod_fault_3 : decode b_Mod_fault 3 = .ok (.istore_n 2, 1) := by decide +kernel
theorem d_Mod_fault_4 : decode b_Mod_fault 4 = .ok (.iconst 0, 1) := by decide +kernel
theorem d_Mod_fault_5 : decode b_Mod_fault 5 = .ok (.istore_n 3, 1) := by decide +kernel
theorem d_Mod_fault_6 : decode b_Mod_fault 6 = .ok (.aload_n 0, 1) := by decide +kernel
theorem d_Mod_fault_7 : decode b_Mod_fault 7 = .ok (.getfield 22, 3) := by decide +kernel
theorem d_Mod_fault_10 : decode b_Mod_fault 10 = .ok (.iconst 0, 1) := by decide +kernel
theorem d_Mod_fault_11 : decode b_Mod_fault 11 = .ok (.iconst 0, 1) := by decide +kernel
theorem d_Mod_fault_12 : decode b_Mod_fault 12 = .ok (.iastore, 1) := by decide +kernel
theorem d_Mod_fault_13 : decode b_Mod_fault 13 = .ok (.iconst 0, 1) := by decide +kernel
theorem d_Mod_fault_14 : decode b_Mod_fault 14 = .ok (.istore 4, 2) := by decide +kernel
theorem d_Mod_fault_16 : decode b_Mod_fault 16 = .ok (.iload 4, 2) := by decide +kernel
theorem d_Mod_fault_18 : decode b_Mod_fault 18 = .ok (.aload_n 0, 1) := by decide +kernel
theorem d_Mod_fault_19 : decode b_Mod_fault 19 = .ok (.getfield 90, 3) := by decide +kernel
theorem d_Mod_fault_22 : decode b_Mod_fault 22 = .ok (.if_icmp .ge 325, 3) := by decide +kernel
theorem d_Mod_fault_25 : decode b_Mod_fault 25 = .ok (.aload_n 0, 1) := by decide +kernel
theorem d_Mod_fault_26 : decode b_Mod_fault 26 = .ok (.getfield 7, 3) := by decide +kernel
theorem d_Mod_fault_29 : decode b_Mod_fault 29 = .ok (.iload 4, 2) := by decide +kernel
theorem d_Mod_fault_31 : decode b_Mod_fault 31 = .ok (.iaload, 1) := by decide +kernel
theorem d_Mod_fault_32 : decode b_Mod_fault 32 = .ok (.istore 5, 2) := by decide +kernel
theorem d_Mod_fault_34 : decode b_Mod_fault 34 = .ok (.iload 5, 2) := by decide +kernel
theorem d_Mod_fault_36 : decode b_Mod_fault 36 = .ok (.bipush 32, 2) := by decide +kernel
theorem d_Mod_fault_38 : decode b_Mod_fault 38 = .ok (.if_icmp .ne 9, 3) := by decide +kernel
theorem d_Mod_fault_41 : decode b_Mod_fault 41 = .ok (.iinc 4 1, 3) := by decide +kernel
theorem d_Mod_fault_44 : decode b_Mod_fault 44 = .ok (.goto (-28), 3) := by decide +kernel
theorem d_Mod_fault_47 : decode b_Mod_fault 47 = .ok (.iload 5, 2) := by decide +kernel
theorem d_Mod_fault_49 : decode b_Mod_fault 49 = .ok (.invokestatic 93, 3) := by decide +kernel
theorem d_Mod_fault_52 : decode b_Mod_fault 52 = .ok (.ifCond .ne 24, 3) := by decide +kernel
theorem d_Mod_fault_55 : decode b_Mod_fault 55 = .ok (.iload 5, 2) := by decide +kernel
theorem d_Mod_fault_57 : decode b_Mod_fault 57 = .ok (.bipush 97, 2) := by decide +kernel
theorem d_Mod_fault_59 : decode b_Mod_fault 59 = .ok (.if_icmp .lt 21, 3) := by decide +kernel
theorem d_Mod_fault_62 : decode b_Mod_fault 62 = .ok (.iload 5, 2) := by decide +kernel
theorem d_Mod_fault_64 : decode b_Mod_fault 64 = .ok (.bipush 122, 2) := by decide +kernel
theorem d_Mod_fault_66 : decode b_Mod_fault 66 = .ok (.if_icmp .gt 14, 3) := by decide +kernel
theorem d_Mod_fault_69 : decode b_Mod_fault 69 = .ok (.iload 5, 2) := by decide +kernel
theorem d_Mod_fault_71 : decode b_Mod_fault 71 = .ok (.bipush 114, 2) := by decide +kernel
theorem d_Mod_fault_73 : decode b_Mod_fault 73 = .ok (.if_icmp .eq 7, 3) := by decide +kernel
theorem d_Mod_fault_76 : decode b_Mod_fault 76 = .ok (.iconst 1, 1) := by decide +kernel
theorem d_Mod_fault_77 : decode b_Mod_fault 77 = .ok (.goto 4, 3) := by decide +kernel
theorem d_Mod_fault_80 : decode b_Mod_fault 80 = .ok (.iconst 0, 1) := by decide +kernel
theorem d_Mod_fault_81 : decode b_Mod_fault 81 = .ok (.istore 6, 2) := by decide +kernel
theorem d_Mod_fault_83 : decode b_Mod_fault 83 = .ok (.iload_n 2, 1) := by decide +kernel
theorem d_Mod_fault_84 : decode b_Mod_fault 84 = .ok (.bipush 16, 2) := by decide +kernel
theorem d_Mod_fault_86 : decode b_Mod_fault 86 = .ok (.if_icmp .ge 64, 3) := by decide +kernel
theorem d_Mod_fault_89 : decode b_Mod_fault 89 = .ok (.iload 6, 2) := by decide +kernel
theorem d_Mod_fault_91 : decode b_Mod_fault 91 = .ok (.ifCond .eq 12, 3) := by decide +kernel
theorem d_Mod_fault_94 : decode b_Mod_fault 94 = .ok (.iload_n 3, 1) := by decide +kernel
theorem d_Mod_fault_95 : decode b_Mod_fault 95 = .ok (.bipush 6, 2) := by decide +kernel
theorem d_Mod_fault_97 : decode b_Mod_fault 97 = .ok (.if_icmp .ge 53, 3) := by decide +kernel
theorem d_Mod_fault_100 : decode b_Mod_fault 100 = .ok (.goto 46, 3) := by decide +kernel
theorem d_Mod_fault_103 : decode b_Mod_fault 103 = .ok (.iload 5, 2) := by decide +kernel
theorem d_Mod_fault_105 : decode b_Mod_fault 105 = .ok (.invokestatic 97, 3) := by decide +kernel
theorem d_Mod_fault_108 : decode b_Mod_fault 108 = .ok (.ifCond .eq 11, 3) := by decide +kernel
theorem d_Mod_fault_111 : decode b_Mod_fault 111 = .ok (.iload_n 3, 1) := by decide +kernel
theorem d_Mod_fault_112 : decode b_Mod_fault 112 = .ok (.iconst 1, 1) := by decide +kernel
theorem d_Mod_fault_113 : decode b_Mod_fault 113 = .ok (.if_icmp .le 37, 3) := by decide +kernel
theorem d_Mod_fault_116 : decode b_Mod_fault 116 = .ok (.goto 30, 3) := by decide +kernel
theorem d_Mod_fault_119 : decode b_Mod_fault 119 = .ok (.iload 5, 2) := by decide +kernel
theorem d_Mod_fault_121 : decode b_Mod_fault 121 = .ok (.bipush 114, 2) := by decide +kernel
theorem d_Mod_fault_123 : decode b_Mod_fault 123 = .ok (.if_icmp .ne 10, 3) := by decide +kernel
theorem d_Mod_fault_126 : decode b_Mod_fault 126 = .ok (.iload_n 3, 1) := by decide +kernel
theorem d_Mod_fault_127 : decode b_Mod_fault 127 = .ok (.ifCond .le 23, 3) := by decide +kernel
theorem d_Mod_fault_130 : decode b_Mod_fault 130 = .ok (.goto 16, 3) := by decide +kernel
theorem d_Mod_fault_133 : decode b_Mod_fault 133 = .ok (.iload 5, 2) := by decide +kernel
theorem d_Mod_fault_135 : decode b_Mod_fault 135 = .ok (.invokestatic 100, 3) := by decide +kernel
theorem d_Mod_fault_138 : decode b_Mod_fault 138 = .ok (.ifCond .eq 12, 3) := by decide +kernel
theorem d_Mod_fault_141 : decode b_Mod_fault 141 = .ok (.iload_n 3, 1) := by decide +kernel
theorem d_Mod_fault_142 : decode b_Mod_fault 142 = .ok (.iconst 1, 1) := by decide +kernel
theorem d_Mod_fault_143 : decode b_Mod_fault 143 = .ok (.if_icmp .ne 7, 3) := by decide +kernel
theorem d_Mod_fault_146 : decode b_Mod_fault 146 = .ok (.iconst 1, 1) := by decide +kernel
theorem d_Mod_fault_147 : decode b_Mod_fault 147 = .ok (.goto 4, 3) := by decide +kernel
theorem d_Mod_fault_150 : decode b_Mod_fault 150 = .ok (.iconst 0, 1) := by decide +kernel
theorem d_Mod_fault_151 : decode b_Mod_fault 151 = .ok (.istore 7, 2) := by decide +kernel
theorem d_Mod_fault_153 : decode b_Mod_fault 153 = .ok (.iload 7, 2) := by decide +kernel
theorem d_Mod_fault_155 : decode b_Mod_fault 155 = .ok (.ifCond .ne 6, 3) := by decide +kernel
theorem d_Mod_fault_158 : decode b_Mod_fault 158 = .ok (.iload 4, 2) := by decide +kernel
theorem d_Mod_fault_160 : decode b_Mod_fault 160 = .ok (.ireturn, 1) := by decide +kernel
theorem d_Mod_fault_161 : decode b_Mod_fault 161 = .ok (.iload 5, 2) := by decide +kernel
theorem d_Mod_fault_163 : decode b_Mod_fault 163 = .ok (.invokestatic 93, 3) := by decide +kernel
theorem d_Mod_fault_166 : decode b_Mod_fault 166 = .ok (.ifCond .eq 7, 3) := by decide +kernel
theorem d_Mod_fault_169 : decode b_Mod_fault 169 = .ok (.iconst 0, 1) := by decide +kernel
theorem d_Mod_fault_170 : decode b_Mod_fault 170 = .ok (.goto 19, 3) := by decide +kernel
theorem d_Mod_fault_173 : decode b_Mod_fault 173 = .ok (.iload 6, 2) := by decide +kernel
theorem d_Mod_fault_175 : decode b_Mod_fault 175 = .ok (.ifCond .eq 11, 3) := by decide +kernel
theorem d_Mod_fault_178 : decode b_Mod_fault 178 = .ok (.ldc 103, 2) := by decide +kernel
theorem d_Mod_fault_180 : decode b_Mod_fault 180 = .ok (.iload 5, 2) := by decide +kernel
theorem d_Mod_fault_182 : decode b_Mod_fault 182 = .ok (.iadd, 1) := by decide +kernel
theorem d_Mod_fault_183 : decode b_Mod_fault 183 = .ok (.goto 6, 3) := by decide +kernel
theorem d_Mod_fault_186 : decode b_Mod_fault 186 = .ok (.iload 5, 2) := by decide +kernel
theorem d_Mod_fault_188 : decode b_Mod_fault 188 = .ok (.ineg, 1) := by decide +kernel
theorem d_Mod_fault_189 : decode b_Mod_fault 189 = .ok (.istore 8, 2) := by decide +kernel
theorem d_Mod_fault_191 : decode b_Mod_fault 191 = .ok (.iconst 0, 1) := by decide +kernel
theorem d_Mod_fault_192 : decode b_Mod_fault 192 = .ok (.istore 9, 2) := by decide +kernel
theorem d_Mod_fault_194 : decode b_Mod_fault 194 = .ok (.iload 5, 2) := by decide +kernel
theorem d_Mod_fault_196 : decode b_Mod_fault 196 = .ok (.invokestatic 93, 3) := by decide +kernel
theorem d_Mod_fault_199 : decode b_Mod_fault 199 = .ok (.ifCond .eq 61, 3) := by decide +kernel
theorem d_Mod_fault_202 : decode b_Mod_fault 202 = .ok (.iload 4, 2) := by decide +kernel
theorem d_Mod_fault_204 : decode b_Mod_fault 204 = .ok (.aload_n 0, 1) := by decide +kernel
theorem d_Mod_fault_205 : decode b_Mod_fault 205 = .ok (.getfield 90, 3) := by decide +kernel
theorem d_Mod_fault_208 : decode b_Mod_fault 208 = .ok (.if_icmp .ge 52, 3) := by decide +kernel
theorem d_Mod_fault_211 : decode b_Mod_fault 211 = .ok (.aload_n 0, 1) := by decide +kernel
theorem d_Mod_fault_212 : decode b_Mod_fault 212 = .ok (.getfield 7, 3) := by decide +kernel
theorem d_Mod_fault_215 : decode b_Mod_fault 215 = .ok (.iload 4, 2) := by decide +kernel
theorem d_Mod_fault_217 : decode b_Mod_fault 217 = .ok (.iaload, 1) := by decide +kernel
theorem d_Mod_fault_218 : decode b_Mod_fault 218 = .ok (.invokestatic 93, 3) := by decide +kernel
theorem d_Mod_fault_221 : decode b_Mod_fault 221 = .ok (.ifCond .eq 39, 3) := by decide +kernel
theorem d_Mod_fault_224 : decode b_Mod_fault 224 = .ok (.iload 9, 2) := by decide +kernel
theorem d_Mod_fault_226 : decode b_Mod_fault 226 = .ok (.iconst 5, 1) := by decide +kernel
theorem d_Mod_fault_227 : decode b_Mod_fault 227 = .ok (.if_icmp .ne 6, 3) := by decide +kernel
theorem d_Mod_fault_230 : decode b_Mod_fault 230 = .ok (.iload 4, 2) := by decide +kernel
theorem d_Mod_fault_232 : decode b_Mod_fault 232 = .ok (.ireturn, 1) := by decide +kernel
theorem d_Mod_fault_233 : decode b_Mod_fault 233 = .ok (.bipush 10, 2) := by decide +kernel
theorem d_Mod_fault_235 : decode b_Mod_fault 235 = .ok (.iload 8, 2) := by decide +kernel
theorem d_Mod_fault_237 : decode b_Mod_fault 237 = .ok (.imul, 1) := by decide +kernel
theorem d_Mod_fault_238 : decode b_Mod_fault 238 = .ok (.aload_n 0, 1) := by decide +kernel
theorem d_Mod_fault_239 : decode b_Mod_fault 239 = .ok (.getfield 7, 3) := by decide +kernel
theorem d_Mod_fault_242 : decode b_Mod_fault 242 = .ok (.iload 4, 2) := by decide +kernel
theorem d_Mod_fault_244 : decode b_Mod_fault 244 = .ok (.iaload, 1) := by decide +kernel
theorem d_Mod_fault_245 : decode b_Mod_fault 245 = .ok (.iadd, 1) := by decide +kernel
theorem d_Mod_fault_246 : decode b_Mod_fault 246 = .ok (.bipush 48, 2) := by decide +kernel
theorem d_Mod_fault_248 : decode b_Mod_fault 248 = .ok (.isub, 1) := by decide +kernel
theorem d_Mod_fault_249 : decode b_Mod_fault 249 = .ok (.istore 8, 2) := by decide +kernel
theorem d_Mod_fault_251 : decode b_Mod_fault 251 = .ok (.iinc 9 1, 3) := by decide +kernel
theorem d_Mod_fault_254 : decode b_Mod_fault 254 = .ok (.iinc 4 1, 3) := by decide +kernel
theorem d_Mod_fault_257 : decode b_Mod_fault 257 = .ok (.goto (-63), 3) := by decide +kernel
theorem d_Mod_fault_260 : decode b_Mod_fault 260 = .ok (.iload 9, 2) := by decide +kernel
theorem d_Mod_fault_262 : decode b_Mod_fault 262 = .ok (.ifCond .le 8, 3) := by decide +kernel
theorem d_Mod_fault_265 : decode b_Mod_fault 265 = .ok (.iload 4, 2) := by decide +kernel
theorem d_Mod_fault_267 : decode b_Mod_fault 267 = .ok (.goto 7, 3) := by decide +kernel
theorem d_Mod_fault_270 : decode b_Mod_fault 270 = .ok (.iload 4, 2) := by decide +kernel
theorem d_Mod_fault_272 : decode b_Mod_fault 272 = .ok (.iconst 1, 1) := by decide +kernel
theorem d_Mod_fault_273 : decode b_Mod_fault 273 = .ok (.iadd, 1) := by decide +kernel
theorem d_Mod_fault_274 : decode b_Mod_fault 274 = .ok (.istore 4, 2) := by decide +kernel
theorem d_Mod_fault_276 : decode b_Mod_fault 276 = .ok (.aload_n 0, 1) := by decide +kernel
theorem d_Mod_fault_277 : decode b_Mod_fault 277 = .ok (.getfield 19, 3) := by decide +kernel
theorem d_Mod_fault_280 : decode b_Mod_fault 280 = .ok (.iload_n 1, 1) := by decide +kernel
theorem d_Mod_fault_281 : decode b_Mod_fault 281 = .ok (.iload 8, 2) := by decide +kernel
theorem d_Mod_fault_283 : decode b_Mod_fault 283 = .ok (.iastore, 1) := by decide +kernel
theorem d_Mod_fault_284 : decode b_Mod_fault 284 = .ok (.iinc 1 1, 3) := by decide +kernel
theorem d_Mod_fault_287 : decode b_Mod_fault 287 = .ok (.iload 6, 2) := by decide +kernel
theorem d_Mod_fault_289 : decode b_Mod_fault 289 = .ok (.ifCond .eq 9, 3) := by decide +kernel
theorem d_Mod_fault_292 : decode b_Mod_fault 292 = .ok (.iload_n 3, 1) := by decide +kernel
theorem d_Mod_fault_293 : decode b_Mod_fault 293 = .ok (.iconst 1, 1) := by decide +kernel
theorem d_Mod_fault_294 : decode b_Mod_fault 294 = .ok (.iadd, 1) := by decide +kernel
theorem d_Mod_fault_295 : decode b_Mod_fault 295 = .ok (.goto 30, 3) := by decide +kernel
theorem d_Mod_fault_298 : decode b_Mod_fault 298 = .ok (.iload 5, 2) := by decide +kernel
theorem d_Mod_fault_300 : decode b_Mod_fault 300 = .ok (.invokestatic 97, 3) := by decide +kernel
theorem d_Mod_fault_303 : decode b_Mod_fault 303 = .ok (.ifCond .eq 9, 3) := by decide +kernel
theorem d_Mod_fault_306 : decode b_Mod_fault 306 = .ok (.iload_n 3, 1) := by decide +kernel
theorem d_Mod_fault_307 : decode b_Mod_fault 307 = .ok (.iconst 1, 1) := by decide +kernel
theorem d_Mod_fault_308 : decode b_Mod_fault 308 = .ok (.isub, 1) := by decide +kernel
theorem d_Mod_fault_309 : decode b_Mod_fault 309 = .ok (.goto 16, 3) := by decide +kernel
theorem d_Mod_fault_312 : decode b_Mod_fault 312 = .ok (.iload 5, 2) := by decide +kernel
theorem d_Mod_fault_314 : decode b_Mod_fault 314 = .ok (.invokestatic 100, 3) := by decide +kernel
theorem d_Mod_fault_317 : decode b_Mod_fault 317 = .ok (.ifCond .eq 7, 3) := by decide +kernel
theorem d_Mod_fault_320 : decode b_Mod_fault 320 = .ok (.iconst 0, 1) := by decide +kernel
theorem d_Mod_fault_321 : decode b_Mod_fault 321 = .ok (.goto 4, 3) := by decide +kernel
theorem d_Mod_fault_324 : decode b_Mod_fault 324 = .ok (.iload_n 3, 1) := by decide +kernel
theorem d_Mod_fault_325 : decode b_Mod_fault 325 = .ok (.istore_n 3, 1) := by decide +kernel
theorem d_Mod_fault_326 : decode b_Mod_fault 326 = .ok (.iload 5, 2) := by decide +kernel
theorem d_Mod_fault_328 : decode b_Mod_fault 328 = .ok (.invokestatic 100, 3) := by decide +kernel
theorem d_Mod_fault_331 : decode b_Mod_fault 331 = .ok (.ifCond .eq 13, 3) := by decide +kernel
theorem d_Mod_fault_334 : decode b_Mod_fault 334 = .ok (.iinc 2 1, 3) := by decide +kernel
theorem d_Mod_fault_337 : decode b_Mod_fault 337 = .ok (.aload_n 0, 1) := by decide +kernel
theorem d_Mod_fault_338 : decode b_Mod_fault 338 = .ok (.getfield 22, 3) := by decide +kernel
theorem d_Mod_fault_341 : decode b_Mod_fault 341 = .ok (.iload_n 2, 1) := by decide +kernel
theorem d_Mod_fault_342 : decode b_Mod_fault 342 = .ok (.iload_n 1, 1) := by decide +kernel
theorem d_Mod_fault_343 : decode b_Mod_fault 343 = .ok (.iastore, 1) := by decide +kernel
theorem d_Mod_fault_344 : decode b_Mod_fault 344 = .ok (.goto (-328), 3) := by decide +kernel
theorem d_Mod_fault_347 : decode b_Mod_fault 347 = .ok (.aload_n 0, 1) := by decide +kernel
theorem d_Mod_fault_348 : decode b_Mod_fault 348 = .ok (.iload_n 2, 1) := by decide +kernel
theorem d_Mod_fault_349 : decode b_Mod_fault 349 = .ok (.putfield 104, 3) := by decide +kernel
theorem d_Mod_fault_352 : decode b_Mod_fault 352 = .ok (.iload_n 2, 1) := by decide +kernel
theorem d_Mod_fault_353 : decode b_Mod_fault 353 = .ok (.ifCond .eq 13, 3) := by decide +kernel
theorem d_Mod_fault_356 : decode b_Mod_fault 356 = .ok (.aload_n 0, 1) := by decide +kernel
theorem d_Mod_fault_357 : decode b_Mod_fault 357 = .ok (.getfield 22, 3) := by decide +kernel
theorem d_Mod_fault_360 : decode b_Mod_fault 360 = .ok (.iload_n 2, 1) := by decide +kernel
theorem d_Mod_fault_361 : decode b_Mod_fault 361 = .ok (.iaload, 1) := by decide +kernel
theorem d_Mod_fault_362 : decode b_Mod_fault 362 = .ok (.iload_n 1, 1) := by decide +kernel
theorem d_Mod_fault_363 : decode b_Mod_fault 363 = .ok (.if_icmp .eq 10, 3) := by decide +kernel
theorem d_Mod_fault_366 : decode b_Mod_fault 366 = .ok (.aload_n 0, 1) := by decide +kernel
theorem d_Mod_fault_367 : decode b_Mod_fault 367 = .ok (.getfield 90, 3) := by decide +kernel
theorem d_Mod_fault_370 : decode b_Mod_fault 370 = .ok (.goto 4, 3) := by decide +kernel
theorem d_Mod_fault_373 : decode b_Mod_fault 373 = .ok (.iconst (-1), 1) := by decide +kernel
theorem d_Mod_fault_374 : decode b_Mod_fault 374 = .ok (.ireturn, 1) := by decide +kernel
theorem d_Mod_isDigit_0 : decode b_Mod_isDigit 0 = .ok (.iload_n 0, 1) := by decide +kernel
theorem d_Mod_isDigit_1 : decode b_Mod_isDigit 1 = .ok (.bipush 48, 2) := by decide +kernel
theorem d_Mod_isDigit_3 : decode b_Mod_isDigit 3 = .ok (.if_icmp .lt 13, 3) := by decide +kernel
theorem d_Mod_isDigit_6 : decode b_Mod_isDigit 6 = .ok (.iload_n 0, 1) := by decide +kernel
theorem d_Mod_isDigit_7 : decode b_Mod_isDigit 7 = .ok (.bipush 57, 2) := by decide +kernel
theorem d_Mod_isDigit_9 : decode b_Mod_isDigit 9 = .ok (.if_icmp .gt 7, 3) := by decide +kernel
theorem d_Mod_isDigit_12 : decode b_Mod_isDigit 12 = .ok (.iconst 1, 1) := by decide +kernel
theorem d_Mod_isDigit_13 : decode b_Mod_isDigit 13 = .ok (.goto 4, 3) := by decide +kernel
theorem d_Mod_isDigit_16 : decode b_Mod_isDigit 16 = .ok (.iconst 0, 1) := by decide +kernel
theorem d_Mod_isDigit_17 : decode b_Mod_isDigit 17 = .ok (.ireturn, 1) := by decide +kernel
theorem d_Mod_isTwo_0 : decode b_Mod_isTwo 0 = .ok (.iload_n 0, 1) := by decide +kernel
theorem d_Mod_isTwo_1 : decode b_Mod_isTwo 1 = .ok (.bipush 43, 2) := by decide +kernel
theorem d_Mod_isTwo_3 : decode b_Mod_isTwo 3 = .ok (.if_icmp .eq 33, 3) := by decide +kernel
theorem d_Mod_isTwo_6 : decode b_Mod_isTwo 6 = .ok (.iload_n 0, 1) := by decide +kernel
theorem d_Mod_isTwo_7 : decode b_Mod_isTwo 7 = .ok (.bipush 45, 2) := by decide +kernel
theorem d_Mod_isTwo_9 : decode b_Mod_isTwo 9 = .ok (.if_icmp .eq 27, 3) := by decide +kernel
theorem d_Mod_isTwo_12 : decode b_Mod_isTwo 12 = .ok (.iload_n 0, 1) := by decide +kernel
theorem d_Mod_isTwo_13 : decode b_Mod_isTwo 13 = .ok (.bipush 42, 2) := by decide +kernel
theorem d_Mod_isTwo_15 : decode b_Mod_isTwo 15 = .ok (.if_icmp .eq 21, 3) := by decide +kernel
theorem d_Mod_isTwo_18 : decode b_Mod_isTwo 18 = .ok (.iload_n 0, 1) := by decide +kernel
theorem d_Mod_isTwo_19 : decode b_Mod_isTwo 19 = .ok (.bipush 47, 2) := by decide +kernel
theorem d_Mod_isTwo_21 : decode b_Mod_isTwo 21 = .ok (.if_icmp .eq 15, 3) := by decide +kernel
theorem d_Mod_isTwo_24 : decode b_Mod_isTwo 24 = .ok (.iload_n 0, 1) := by decide +kernel
theorem d_Mod_isTwo_25 : decode b_Mod_isTwo 25 = .ok (.bipush 60, 2) := by decide +kernel
theorem d_Mod_isTwo_27 : decode b_Mod_isTwo 27 = .ok (.if_icmp .eq 9, 3) := by decide +kernel
theorem d_Mod_isTwo_30 : decode b_Mod_isTwo 30 = .ok (.iload_n 0, 1) := by decide +kernel
theorem d_Mod_isTwo_31 : decode b_Mod_isTwo 31 = .ok (.bipush 62, 2) := by decide +kernel
theorem d_Mod_isTwo_33 : decode b_Mod_isTwo 33 = .ok (.if_icmp .ne 7, 3) := by decide +kernel
theorem d_Mod_isTwo_36 : decode b_Mod_isTwo 36 = .ok (.iconst 1, 1) := by decide +kernel
theorem d_Mod_isTwo_37 : decode b_Mod_isTwo 37 = .ok (.goto 4, 3) := by decide +kernel
theorem d_Mod_isTwo_40 : decode b_Mod_isTwo 40 = .ok (.iconst 0, 1) := by decide +kernel
theorem d_Mod_isTwo_41 : decode b_Mod_isTwo 41 = .ok (.ireturn, 1) := by decide +kernel
theorem d_Mod_isEnd_0 : decode b_Mod_isEnd 0 = .ok (.iload_n 0, 1) := by decide +kernel
theorem d_Mod_isEnd_1 : decode b_Mod_isEnd 1 = .ok (.bipush 59, 2) := by decide +kernel
theorem d_Mod_isEnd_3 : decode b_Mod_isEnd 3 = .ok (.if_icmp .eq 15, 3) := by decide +kernel
theorem d_Mod_isEnd_6 : decode b_Mod_isEnd 6 = .ok (.iload_n 0, 1) := by decide +kernel
theorem d_Mod_isEnd_7 : decode b_Mod_isEnd 7 = .ok (.bipush 37, 2) := by decide +kernel
theorem d_Mod_isEnd_9 : decode b_Mod_isEnd 9 = .ok (.if_icmp .eq 9, 3) := by decide +kernel
theorem d_Mod_isEnd_12 : decode b_Mod_isEnd 12 = .ok (.iload_n 0, 1) := by decide +kernel
theorem d_Mod_isEnd_13 : decode b_Mod_isEnd 13 = .ok (.bipush 61, 2) := by decide +kernel
theorem d_Mod_isEnd_15 : decode b_Mod_isEnd 15 = .ok (.if_icmp .ne 7, 3) := by decide +kernel
theorem d_Mod_isEnd_18 : decode b_Mod_isEnd 18 = .ok (.iconst 1, 1) := by decide +kernel
theorem d_Mod_isEnd_19 : decode b_Mod_isEnd 19 = .ok (.goto 4, 3) := by decide +kernel
theorem d_Mod_isEnd_22 : decode b_Mod_isEnd 22 = .ok (.iconst 0, 1) := by decide +kernel
theorem d_Mod_isEnd_23 : decode b_Mod_isEnd 23 = .ok (.ireturn, 1) := by decide +kernel
theorem d_Mod_fact_0 : decode b_Mod_fact 0 = .ok (.aload_n 0, 1) := by decide +kernel
theorem d_Mod_fact_1 : decode b_Mod_fact 1 = .ok (.aload_n 0, 1) := by decide +kernel
theorem d_Mod_fact_2 : decode b_Mod_fact 2 = .ok (.iload_n 1, 1) := by decide +kernel
theorem d_Mod_fact_3 : decode b_Mod_fact 3 = .ok (.iload_n 2, 1) := by decide +kernel
theorem d_Mod_fact_4 : decode b_Mod_fact 4 = .ok (.iload_n 3, 1) := by decide +kernel
theorem d_Mod_fact_5 : decode b_Mod_fact 5 = .ok (.invokevirtual 181, 3) := by decide +kernel
theorem d_Mod_fact_8 : decode b_Mod_fact 8 = .ok (.putfield 78, 3) := by decide +kernel
theorem d_Mod_fact_11 : decode b_Mod_fact 11 = .ok (.aload_n 0, 1) := by decide +kernel
theorem d_Mod_fact_12 : decode b_Mod_fact 12 = .ok (.getfield 78, 3) := by decide +kernel
theorem d_Mod_fact_15 : decode b_Mod_fact 15 = .ok (.ifCond .ne 13, 3) := by decide +kernel
theorem d_Mod_fact_18 : decode b_Mod_fact 18 = .ok (.aload_n 0, 1) := by decide +kernel
theorem d_Mod_fact_19 : decode b_Mod_fact 19 = .ok (.iload_n 1, 1) := by decide +kernel
theorem d_Mod_fact_20 : decode b_Mod_fact 20 = .ok (.bipush 97, 2) := by decide +kernel
theorem d_Mod_fact_22 : decode b_Mod_fact 22 = .ok (.isub, 1) := by decide +kernel
theorem d_Mod_fact_23 : decode b_Mod_fact 23 = .ok (.iload_n 2, 1) := by decide +kernel
theorem d_Mod_fact_24 : decode b_Mod_fact 24 = .ok (.iload_n 3, 1) := by decide +kernel
theorem d_Mod_fact_25 : decode b_Mod_fact 25 = .ok (.invokevirtual 185, 3) := by decide +kernel
theorem d_Mod_fact_28 : decode b_Mod_fact 28 = .ok (.return_, 1) := by decide +kernel
theorem d_Mod_factFault_0 : decode b_Mod_factFault 0 = .ok (.iload_n 1, 1) := by decide +kernel
theorem d_Mod_factFault_1 : decode b_Mod_factFault 1 = .ok (.invokestatic 172, 3) := by decide +kernel
theorem d_Mod_factFault_4 : decode b_Mod_factFault 4 = .ok (.ifCond .eq 7, 3) := by decide +kernel
theorem d_Mod_factFault_7 : decode b_Mod_factFault 7 = .ok (.iconst 1, 1) := by decide +kernel
theorem d_Mod_factFault_8 : decode b_Mod_factFault 8 = .ok (.goto 34, 3) := by decide +kernel
theorem d_Mod_factFault_11 : decode b_Mod_factFault 11 = .ok (.iload_n 3, 1) := by decide +kernel
theorem d_Mod_factFault_12 : decode b_Mod_factFault 12 = .ok (.i2l, 1) := by decide +kernel
theorem d_Mod_factFault_13 : decode b_Mod_factFault 13 = .ok (.lconst 1, 1) := by decide +kernel
theorem d_Mod_factFault_14 : decode b_Mod_factFault 14 = .ok (.ldc2_w 175, 3) := by decide +kernel
theorem d_Mod_factFault_17 : decode b_Mod_factFault 17 = .ok (.invokestatic 86, 3) := by decide +kernel
theorem d_Mod_factFault_20 : decode b_Mod_factFault 20 = .ok (.ifCond .eq 21, 3) := by decide +kernel
theorem d_Mod_factFault_23 : decode b_Mod_factFault 23 = .ok (.iload_n 2, 1) := by decide +kernel
theorem d_Mod_factFault_24 : decode b_Mod_factFault 24 = .ok (.i2l, 1) := by decide +kernel
theorem d_Mod_factFault_25 : decode b_Mod_factFault 25 = .ok (.ldc2_w 177, 3) := by decide +kernel
theorem d_Mod_factFault_28 : decode b_Mod_factFault 28 = .ok (.ldc2_w 179, 3) := by decide +kernel
theorem d_Mod_factFault_31 : decode b_Mod_factFault 31 = .ok (.invokestatic 86, 3) := by decide +kernel
theorem d_Mod_factFault_34 : decode b_Mod_factFault 34 = .ok (.ifCond .eq 7, 3) := by decide +kernel
theorem d_Mod_factFault_37 : decode b_Mod_factFault 37 = .ok (.iconst 0, 1) := by decide +kernel
theorem d_Mod_factFault_38 : decode b_Mod_factFault 38 = .ok (.goto 4, 3) := by decide +kernel
theorem d_Mod_factFault_41 : decode b_Mod_factFault 41 = .ok (.iconst 2, 1) := by decide +kernel
theorem d_Mod_factFault_42 : decode b_Mod_factFault 42 = .ok (.ireturn, 1) := by decide +kernel
theorem d_Mod_noFact_0 : decode b_Mod_noFact 0 = .ok (.iload_n 0, 1) := by decide +kernel
theorem d_Mod_noFact_1 : decode b_Mod_noFact 1 = .ok (.bipush 97, 2) := by decide +kernel
theorem d_Mod_noFact_3 : decode b_Mod_noFact 3 = .ok (.if_icmp .lt 15, 3) := by decide +kernel
theorem d_Mod_noFact_6 : decode b_Mod_noFact 6 = .ok (.iload_n 0, 1) := by decide +kernel
theorem d_Mod_noFact_7 : decode b_Mod_noFact 7 = .ok (.bipush 122, 2) := by decide +kernel
theorem d_Mod_noFact_9 : decode b_Mod_noFact 9 = .ok (.if_icmp .gt 9, 3) := by decide +kernel
theorem d_Mod_noFact_12 : decode b_Mod_noFact 12 = .ok (.iload_n 0, 1) := by decide +kernel
theorem d_Mod_noFact_13 : decode b_Mod_noFact 13 = .ok (.bipush 114, 2) := by decide +kernel
theorem d_Mod_noFact_15 : decode b_Mod_noFact 15 = .ok (.if_icmp .ne 7, 3) := by decide +kernel
theorem d_Mod_noFact_18 : decode b_Mod_noFact 18 = .ok (.iconst 1, 1) := by decide +kernel
theorem d_Mod_noFact_19 : decode b_Mod_noFact 19 = .ok (.goto 4, 3) := by decide +kernel
theorem d_Mod_noFact_22 : decode b_Mod_noFact 22 = .ok (.iconst 0, 1) := by decide +kernel
theorem d_Mod_noFact_23 : decode b_Mod_noFact 23 = .ok (.ireturn, 1) := by decide +kernel
theorem d_Mod_setFact_0 : decode b_Mod_setFact 0 = .ok (.aload_n 0, 1) := by decide +kernel
theorem d_Mod_setFact_1 : decode b_Mod_setFact 1 = .ok (.iload_n 2, 1) := by decide +kernel
theorem d_Mod_setFact_2 : decode b_Mod_setFact 2 = .ok (.i2l, 1) := by decide +kernel
theorem d_Mod_setFact_3 : decode b_Mod_setFact 3 = .ok (.iload_n 3, 1) := by decide +kernel
theorem d_Mod_setFact_4 : decode b_Mod_setFact 4 = .ok (.i2l, 1) := by decide +kernel
theorem d_Mod_setFact_5 : decode b_Mod_setFact 5 = .ok (.invokevirtual 126, 3) := by decide +kernel
theorem d_Mod_setFact_8 : decode b_Mod_setFact 8 = .ok (.istore 4, 2) := by decide +kernel
theorem d_Mod_setFact_10 : decode b_Mod_setFact 10 = .ok (.aload_n 0, 1) := by decide +kernel
theorem d_Mod_setFact_11 : decode b_Mod_setFact 11 = .ok (.getfield 32, 3) := by decide +kernel
theorem d_Mod_setFact_14 : decode b_Mod_setFact 14 = .ok (.iload_n 1, 1) := by decide +kernel
theorem d_Mod_setFact_15 : decode b_Mod_setFact 15 = .ok (.iload 4, 2) := by decide +kernel
theorem d_Mod_setFact_17 : decode b_Mod_setFact 17 = .ok (.bastore, 1) := by decide +kernel
theorem d_Mod_setFact_18 : decode b_Mod_setFact 18 = .ok (.aload_n 0, 1) := by decide +kernel
theorem d_Mod_setFact_19 : decode b_Mod_setFact 19 = .ok (.getfield 25, 3) := by decide +kernel
theorem d_Mod_setFact_22 : decode b_Mod_setFact 22 = .ok (.iload_n 1, 1) := by decide +kernel
theorem d_Mod_setFact_23 : decode b_Mod_setFact 23 = .ok (.aload_n 0, 1) := by decide +kernel
theorem d_Mod_setFact_24 : decode b_Mod_setFact 24 = .ok (.getfield 117, 3) := by decide +kernel
theorem d_Mod_setFact_27 : decode b_Mod_setFact 27 = .ok (.lastore, 1) := by decide +kernel
theorem d_Mod_setFact_28 : decode b_Mod_setFact 28 = .ok (.aload_n 0, 1) := by decide +kernel
theorem d_Mod_setFact_29 : decode b_Mod_setFact 29 = .ok (.getfield 29, 3) := by decide +kernel
theorem d_Mod_setFact_32 : decode b_Mod_setFact 32 = .ok (.iload_n 1, 1) := by decide +kernel
theorem d_Mod_setFact_33 : decode b_Mod_setFact 33 = .ok (.aload_n 0, 1) := by decide +kernel
theorem d_Mod_setFact_34 : decode b_Mod_setFact 34 = .ok (.getfield 121, 3) := by decide +kernel
theorem d_Mod_setFact_37 : decode b_Mod_setFact 37 = .ok (.lastore, 1) := by decide +kernel
theorem d_Mod_setFact_38 : decode b_Mod_setFact 38 = .ok (.return_, 1) := by decide +kernel
theorem d_Mod_make_0 : decode b_Mod_make 0 = .ok (.lload_n 1, 1) := by decide +kernel
theorem d_Mod_make_1 : decode b_Mod_make 1 = .ok (.invokestatic 114, 3) := by decide +kernel
theorem d_Mod_make_4 : decode b_Mod_make 4 = .ok (.lstore 5, 2) := by decide +kernel
theorem d_Mod_make_6 : decode b_Mod_make 6 = .ok (.lload_n 3, 1) := by decide +kernel
theorem d_Mod_make_7 : decode b_Mod_make 7 = .ok (.invokestatic 114, 3) := by decide +kernel
theorem d_Mod_make_10 : decode b_Mod_make 10 = .ok (.lstore 7, 2) := by decide +kernel
theorem d_Mod_make_12 : decode b_Mod_make 12 = .ok (.lload 7, 2) := by decide +kernel
theorem d_Mod_make_14 : decode b_Mod_make 14 = .ok (.lconst 0, 1) := by decide +kernel
theorem d_Mod_make_15 : decode b_Mod_make 15 = .ok (.lcmp, 1) := by decide +kernel
theorem d_Mod_make_16 : decode b_Mod_make 16 = .ok (.ifCond .eq 21, 3) := by decide +kernel
theorem d_Mod_make_19 : decode b_Mod_make 19 = .ok (.lload 5, 2) := by decide +kernel
theorem d_Mod_make_21 : decode b_Mod_make 21 = .ok (.lload 7, 2) := by decide +kernel
theorem d_Mod_make_23 : decode b_Mod_make 23 = .ok (.lrem, 1) := by decide +kernel
theorem d_Mod_make_24 : decode b_Mod_make 24 = .ok (.lstore 9, 2) := by decide +kernel
theorem d_Mod_make_26 : decode b_Mod_make 26 = .ok (.lload 7, 2) := by decide +kernel
theorem d_Mod_make_28 : decode b_Mod_make 28 = .ok (.lstore 5, 2) := by decide +kernel
theorem d_Mod_make_30 : decode b_Mod_make 30 = .ok (.lload 9, 2) := by decide +kernel
theorem d_Mod_make_32 : decode b_Mod_make 32 = .ok (.lstore 7, 2) := by decide +kernel
theorem d_Mod_make_34 : decode b_Mod_make 34 = .ok (.goto (-22), 3) := by decide +kernel
theorem d_Mod_make_37 : decode b_Mod_make 37 = .ok (.aload_n 0, 1) := by decide +kernel
theorem d_Mod_make_38 : decode b_Mod_make 38 = .ok (.lload_n 3, 1) := by decide +kernel
theorem d_Mod_make_39 : decode b_Mod_make 39 = .ok (.lconst 0, 1) := by decide +kernel
theorem d_Mod_make_40 : decode b_Mod_make 40 = .ok (.lcmp, 1) := by decide +kernel
theorem d_Mod_make_41 : decode b_Mod_make 41 = .ok (.ifCond .ge 11, 3) := by decide +kernel
theorem d_Mod_make_44 : decode b_Mod_make 44 = .ok (.lload_n 1, 1) := by decide +kernel
theorem d_Mod_make_45 : decode b_Mod_make 45 = .ok (.lload 5, 2) := by decide +kernel
theorem d_Mod_make_47 : decode b_Mod_make 47 = .ok (.ldiv, 1) := by decide +kernel
theorem d_Mod_make_48 : decode b_Mod_make 48 = .ok (.lneg, 1) := by decide +kernel
theorem d_Mod_make_49 : decode b_Mod_make 49 = .ok (.goto 7, 3) := by decide +kernel
theorem d_Mod_make_52 : decode b_Mod_make 52 = .ok (.lload_n 1, 1) := by decide +kernel
theorem d_Mod_make_53 : decode b_Mod_make 53 = .ok (.lload 5, 2) := by decide +kernel
theorem d_Mod_make_55 : decode b_Mod_make 55 = .ok (.ldiv, 1) := by decide +kernel
theorem d_Mod_make_56 : decode b_Mod_make 56 = .ok (.putfield 117, 3) := by decide +kernel
theorem d_Mod_make_59 : decode b_Mod_make 59 = .ok (.aload_n 0, 1) := by decide +kernel
theorem d_Mod_make_60 : decode b_Mod_make 60 = .ok (.lload_n 3, 1) := by decide +kernel
theorem d_Mod_make_61 : decode b_Mod_make 61 = .ok (.invokestatic 114, 3) := by decide +kernel
theorem d_Mod_make_64 : decode b_Mod_make 64 = .ok (.lload 5, 2) := by decide +kernel
theorem d_Mod_make_66 : decode b_Mod_make 66 = .ok (.ldiv, 1) := by decide +kernel
theorem d_Mod_make_67 : decode b_Mod_make 67 = .ok (.putfield 121, 3) := by decide +kernel
theorem d_Mod_make_70 : decode b_Mod_make 70 = .ok (.aload_n 0, 1) := by decide +kernel
theorem d_Mod_make_71 : decode b_Mod_make 71 = .ok (.getfield 117, 3) := by decide +kernel
theorem d_Mod_make_74 : decode b_Mod_make 74 = .ok (.invokestatic 114, 3) := by decide +kernel
theorem d_Mod_make_77 : decode b_Mod_make 77 = .ok (.ldc2_w 124, 3) := by decide +kernel
theorem d_Mod_make_80 : decode b_Mod_make 80 = .ok (.lcmp, 1) := by decide +kernel
theorem d_Mod_make_81 : decode b_Mod_make 81 = .ok (.ifCond .gt 18, 3) := by decide +kernel
theorem d_Mod_make_84 : decode b_Mod_make 84 = .ok (.aload_n 0, 1) := by decide +kernel
theorem d_Mod_make_85 : decode b_Mod_make 85 = .ok (.getfield 121, 3) := by decide +kernel
theorem d_Mod_make_88 : decode b_Mod_make 88 = .ok (.ldc2_w 124, 3) := by decide +kernel
theorem d_Mod_make_91 : decode b_Mod_make 91 = .ok (.lcmp, 1) := by decide +kernel
theorem d_Mod_make_92 : decode b_Mod_make 92 = .ok (.ifCond .gt 7, 3) := by decide +kernel
theorem d_Mod_make_95 : decode b_Mod_make 95 = .ok (.iconst 1, 1) := by decide +kernel
theorem d_Mod_make_96 : decode b_Mod_make 96 = .ok (.goto 4, 3) := by decide +kernel
theorem d_Mod_make_99 : decode b_Mod_make 99 = .ok (.iconst 0, 1) := by decide +kernel
theorem d_Mod_make_100 : decode b_Mod_make 100 = .ok (.ireturn, 1) := by decide +kernel
theorem d_Mod_size_0 : decode b_Mod_size 0 = .ok (.lload_n 0, 1) := by decide +kernel
theorem d_Mod_size_1 : decode b_Mod_size 1 = .ok (.lconst 0, 1) := by decide +kernel
theorem d_Mod_size_2 : decode b_Mod_size 2 = .ok (.lcmp, 1) := by decide +kernel
theorem d_Mod_size_3 : decode b_Mod_size 3 = .ok (.ifCond .ge 8, 3) := by decide +kernel
theorem d_Mod_size_6 : decode b_Mod_size 6 = .ok (.lload_n 0, 1) := by decide +kernel
theorem d_Mod_size_7 : decode b_Mod_size 7 = .ok (.lneg, 1) := by decide +kernel
theorem d_Mod_size_8 : decode b_Mod_size 8 = .ok (.goto 4, 3) := by decide +kernel
theorem d_Mod_size_11 : decode b_Mod_size 11 = .ok (.lload_n 0, 1) := by decide +kernel
theorem d_Mod_size_12 : decode b_Mod_size 12 = .ok (.lreturn, 1) := by decide +kernel
theorem d_Mod_forget_0 : decode b_Mod_forget 0 = .ok (.aload_n 0, 1) := by decide +kernel
theorem d_Mod_forget_1 : decode b_Mod_forget 1 = .ok (.iload_n 1, 1) := by decide +kernel
theorem d_Mod_forget_2 : decode b_Mod_forget 2 = .ok (.invokestatic 172, 3) := by decide +kernel
theorem d_Mod_forget_5 : decode b_Mod_forget 5 = .ok (.ifCond .eq 7, 3) := by decide +kernel
theorem d_Mod_forget_8 : decode b_Mod_forget 8 = .ok (.iconst 1, 1) := by decide +kernel
theorem d_Mod_forget_9 : decode b_Mod_forget 9 = .ok (.goto 4, 3) := by decide +kernel
theorem d_Mod_forget_12 : decode b_Mod_forget 12 = .ok (.iconst 0, 1) := by decide +kernel
theorem d_Mod_forget_13 : decode b_Mod_forget 13 = .ok (.putfield 78, 3) := by decide +kernel
theorem d_Mod_forget_16 : decode b_Mod_forget 16 = .ok (.aload_n 0, 1) := by decide +kernel
theorem d_Mod_forget_17 : decode b_Mod_forget 17 = .ok (.getfield 78, 3) := by decide +kernel
theorem d_Mod_forget_20 : decode b_Mod_forget 20 = .ok (.ifCond .le 5, 3) := by decide +kernel
theorem d_Mod_forget_23 : decode b_Mod_forget 23 = .ok (.iconst 0, 1) := by decide +kernel
theorem d_Mod_forget_24 : decode b_Mod_forget 24 = .ok (.ireturn, 1) := by decide +kernel
theorem d_Mod_forget_25 : decode b_Mod_forget 25 = .ok (.aload_n 0, 1) := by decide +kernel
theorem d_Mod_forget_26 : decode b_Mod_forget 26 = .ok (.getfield 32, 3) := by decide +kernel
theorem d_Mod_forget_29 : decode b_Mod_forget 29 = .ok (.iload_n 1, 1) := by decide +kernel
theorem d_Mod_forget_30 : decode b_Mod_forget 30 = .ok (.bipush 97, 2) := by decide +kernel
theorem d_Mod_forget_32 : decode b_Mod_forget 32 = .ok (.isub, 1) := by decide +kernel
theorem d_Mod_forget_33 : decode b_Mod_forget 33 = .ok (.baload, 1) := by decide +kernel
theorem d_Mod_forget_34 : decode b_Mod_forget 34 = .ok (.istore_n 2, 1) := by decide +kernel
theorem d_Mod_forget_35 : decode b_Mod_forget 35 = .ok (.aload_n 0, 1) := by decide +kernel
theorem d_Mod_forget_36 : decode b_Mod_forget 36 = .ok (.getfield 32, 3) := by decide +kernel
theorem d_Mod_forget_39 : decode b_Mod_forget 39 = .ok (.iload_n 1, 1) := by decide +kernel
theorem d_Mod_forget_40 : decode b_Mod_forget 40 = .ok (.bipush 97, 2) := by decide +kernel
theorem d_Mod_forget_42 : decode b_Mod_forget 42 = .ok (.isub, 1) := by decide +kernel
theorem d_Mod_forget_43 : decode b_Mod_forget 43 = .ok (.iconst 0, 1) := by decide +kernel
theorem d_Mod_forget_44 : decode b_Mod_forget 44 = .ok (.bastore, 1) := by decide +kernel
theorem d_Mod_forget_45 : decode b_Mod_forget 45 = .ok (.iload_n 2, 1) := by decide +kernel
theorem d_Mod_forget_46 : decode b_Mod_forget 46 = .ok (.ireturn, 1) := by decide +kernel
theorem d_Mod_run_0 : decode b_Mod_run 0 = .ok (.aload_n 0, 1) := by decide +kernel
theorem d_Mod_run_1 : decode b_Mod_run 1 = .ok (.iconst 0, 1) := by decide +kernel
theorem d_Mod_run_2 : decode b_Mod_run 2 = .ok (.putfield 78, 3) := by decide +kernel
theorem d_Mod_run_5 : decode b_Mod_run 5 = .ok (.aload_n 0, 1) := by decide +kernel
theorem d_Mod_run_6 : decode b_Mod_run 6 = .ok (.invokevirtual 169, 3) := by decide +kernel
theorem d_Mod_run_9 : decode b_Mod_run 9 = .ok (.iconst 0, 1) := by decide +kernel
theorem d_Mod_run_10 : decode b_Mod_run 10 = .ok (.istore_n 1, 1) := by decide +kernel
theorem d_Mod_run_11 : decode b_Mod_run 11 = .ok (.iconst 0, 1) := by decide +kernel
theorem d_Mod_run_12 : decode b_Mod_run 12 = .ok (.istore_n 2, 1) := by decide +kernel
theorem d_Mod_run_13 : decode b_Mod_run 13 = .ok (.iload_n 2, 1) := by decide +kernel
theorem d_Mod_run_14 : decode b_Mod_run 14 = .ok (.aload_n 0, 1) := by decide +kernel
theorem d_Mod_run_15 : decode b_Mod_run 15 = .ok (.getfield 111, 3) := by decide +kernel
theorem d_Mod_run_18 : decode b_Mod_run 18 = .ok (.if_icmp .ge 26, 3) := by decide +kernel
theorem d_Mod_run_21 : decode b_Mod_run 21 = .ok (.aload_n 0, 1) := by decide +kernel
theorem d_Mod_run_22 : decode b_Mod_run 22 = .ok (.getfield 48, 3) := by decide +kernel
theorem d_Mod_run_25 : decode b_Mod_run 25 = .ok (.iload_n 2, 1) := by decide +kernel
theorem d_Mod_run_26 : decode b_Mod_run 26 = .ok (.iaload, 1) := by decide +kernel
theorem d_Mod_run_27 : decode b_Mod_run 27 = .ok (.ifCond .le 9, 3) := by decide +kernel
theorem d_Mod_run_30 : decode b_Mod_run 30 = .ok (.iload_n 1, 1) := by decide +kernel
theorem d_Mod_run_31 : decode b_Mod_run 31 = .ok (.iconst 1, 1) := by decide +kernel
theorem d_Mod_run_32 : decode b_Mod_run 32 = .ok (.iadd, 1) := by decide +kernel
theorem d_Mod_run_33 : decode b_Mod_run 33 = .ok (.goto 4, 3) := by decide +kernel
theorem d_Mod_run_36 : decode b_Mod_run 36 = .ok (.iload_n 1, 1) := by decide +kernel
theorem d_Mod_run_37 : decode b_Mod_run 37 = .ok (.istore_n 1, 1) := by decide +kernel
theorem d_Mod_run_38 : decode b_Mod_run 38 = .ok (.iinc 2 1, 3) := by decide +kernel
theorem d_Mod_run_41 : decode b_Mod_run 41 = .ok (.goto (-28), 3) := by decide +kernel
theorem d_Mod_run_44 : decode b_Mod_run 44 = .ok (.iload_n 1, 1) := by decide +kernel
theorem d_Mod_run_45 : decode b_Mod_run 45 = .ok (.ireturn, 1) := by decide +kernel
theorem d_Mod_reckon_0 : decode b_Mod_reckon 0 = .ok (.aload_n 0, 1) := by decide +kernel
theorem d_Mod_reckon_1 : decode b_Mod_reckon 1 = .ok (.lconst 0, 1) := by decide +kernel
theorem d_Mod_reckon_2 : decode b_Mod_reckon 2 = .ok (.putfield 150, 3) := by decide +kernel
theorem d_Mod_reckon_5 : decode b_Mod_reckon 5 = .ok (.aload_n 0, 1) := by decide +kernel
theorem d_Mod_reckon_6 : decode b_Mod_reckon 6 = .ok (.lconst 1, 1) := by decide +kernel
theorem d_Mod_reckon_7 : decode b_Mod_reckon 7 = .ok (.putfield 153, 3) := by decide +kernel
theorem d_Mod_reckon_10 : decode b_Mod_reckon 10 = .ok (.iconst 0, 1) := by decide +kernel
theorem d_Mod_reckon_11 : decode b_Mod_reckon 11 = .ok (.istore_n 1, 1) := by decide +kernel
theorem d_Mod_reckon_12 : decode b_Mod_reckon 12 = .ok (.iload_n 1, 1) := by decide +kernel
theorem d_Mod_reckon_13 : decode b_Mod_reckon 13 = .ok (.aload_n 0, 1) := by decide +kernel
theorem d_Mod_reckon_14 : decode b_Mod_reckon 14 = .ok (.getfield 111, 3) := by decide +kernel
theorem d_Mod_reckon_17 : decode b_Mod_reckon 17 = .ok (.if_icmp .ge 151, 3) := by decide +kernel
theorem d_Mod_reckon_20 : decode b_Mod_reckon 20 = .ok (.aload_n 0, 1) := by decide +kernel
theorem d_Mod_reckon_21 : decode b_Mod_reckon 21 = .ok (.iconst 0, 1) := by decide +kernel
theorem d_Mod_reckon_22 : decode b_Mod_reckon 22 = .ok (.putfield 130, 3) := by decide +kernel
theorem d_Mod_reckon_25 : decode b_Mod_reckon 25 = .ok (.aload_n 0, 1) := by decide +kernel
theorem d_Mod_reckon_26 : decode b_Mod_reckon 26 = .ok (.getfield 48, 3) := by decide +kernel
theorem d_Mod_reckon_29 : decode b_Mod_reckon 29 = .ok (.iload_n 1, 1) := by decide +kernel
theorem d_Mod_reckon_30 : decode b_Mod_reckon 30 = .ok (.iconst 0, 1) := by decide +kernel
theorem d_Mod_reckon_31 : decode b_Mod_reckon 31 = .ok (.iastore, 1) := by decide +kernel
theorem d_Mod_reckon_32 : decode b_Mod_reckon 32 = .ok (.aload_n 0, 1) := by decide +kernel
theorem d_Mod_reckon_33 : decode b_Mod_reckon 33 = .ok (.getfield 51, 3) := by decide +kernel
theorem d_Mod_reckon_36 : decode b_Mod_reckon 36 = .ok (.iload_n 1, 1) := by decide +kernel
theorem d_Mod_reckon_37 : decode b_Mod_reckon 37 = .ok (.iconst (-1), 1) := by decide +kernel
theorem d_Mod_reckon_38 : decode b_Mod_reckon 38 = .ok (.iastore, 1) := by decide +kernel
theorem d_Mod_reckon_39 : decode b_Mod_reckon 39 = .ok (.aload_n 0, 1) := by decide +kernel
theorem d_Mod_reckon_40 : decode b_Mod_reckon 40 = .ok (.getfield 16, 3) := by decide +kernel
theorem d_Mod_reckon_43 : decode b_Mod_reckon 43 = .ok (.iload_n 1, 1) := by decide +kernel
theorem d_Mod_reckon_44 : decode b_Mod_reckon 44 = .ok (.iaload, 1) := by decide +kernel
theorem d_Mod_reckon_45 : decode b_Mod_reckon 45 = .ok (.istore_n 2, 1) := by decide +kernel
theorem d_Mod_reckon_46 : decode b_Mod_reckon 46 = .ok (.iload_n 2, 1) := by decide +kernel
theorem d_Mod_reckon_47 : decode b_Mod_reckon 47 = .ok (.aload_n 0, 1) := by decide +kernel
theorem d_Mod_reckon_48 : decode b_Mod_reckon 48 = .ok (.getfield 16, 3) := by decide +kernel
theorem d_Mod_reckon_51 : decode b_Mod_reckon 51 = .ok (.iload_n 1, 1) := by decide +kernel
theorem d_Mod_reckon_52 : decode b_Mod_reckon 52 = .ok (.iconst 1, 1) := by decide +kernel
theorem d_Mod_reckon_53 : decode b_Mod_reckon 53 = .ok (.iadd, 1) := by decide +kernel
theorem d_Mod_reckon_54 : decode b_Mod_reckon 54 = .ok (.iaload, 1) := by decide +kernel
theorem d_Mod_reckon_55 : decode b_Mod_reckon 55 = .ok (.if_icmp .ge 61, 3) := by decide +kernel
theorem d_Mod_reckon_58 : decode b_Mod_reckon 58 = .ok (.aload_n 0, 1) := by decide +kernel
theorem d_Mod_reckon_59 : decode b_Mod_reckon 59 = .ok (.getfield 48, 3) := by decide +kernel
theorem d_Mod_reckon_62 : decode b_Mod_reckon 62 = .ok (.iload_n 1, 1) := by decide +kernel
theorem d_Mod_reckon_63 : decode b_Mod_reckon 63 = .ok (.iaload, 1) := by decide +kernel
theorem d_Mod_reckon_64 : decode b_Mod_reckon 64 = .ok (.ifCond .ne 52, 3) := by decide +kernel
theorem d_Mod_reckon_67 : decode b_Mod_reckon 67 = .ok (.aload_n 0, 1) := by decide +kernel
theorem d_Mod_reckon_68 : decode b_Mod_reckon 68 = .ok (.getfield 48, 3) := by decide +kernel
theorem d_Mod_reckon_71 : decode b_Mod_reckon 71 = .ok (.iload_n 1, 1) := by decide +kernel
theorem d_Mod_reckon_72 : decode b_Mod_reckon 72 = .ok (.aload_n 0, 1) := by decide +kernel
theorem d_Mod_reckon_73 : decode b_Mod_reckon 73 = .ok (.aload_n 0, 1) := by decide +kernel
theorem d_Mod_reckon_74 : decode b_Mod_reckon 74 = .ok (.getfield 13, 3) := by decide +kernel
theorem d_Mod_reckon_77 : decode b_Mod_reckon 77 = .ok (.iload_n 2, 1) := by decide +kernel
theorem d_Mod_reckon_78 : decode b_Mod_reckon 78 = .ok (.iaload, 1) := by decide +kernel
theorem d_Mod_reckon_79 : decode b_Mod_reckon 79 = .ok (.invokevirtual 166, 3) := by decide +kernel
theorem d_Mod_reckon_82 : decode b_Mod_reckon 82 = .ok (.iastore, 1) := by decide +kernel
theorem d_Mod_reckon_83 : decode b_Mod_reckon 83 = .ok (.aload_n 0, 1) := by decide +kernel
theorem d_Mod_reckon_84 : decode b_Mod_reckon 84 = .ok (.getfield 51, 3) := by decide +kernel
theorem d_Mod_reckon_87 : decode b_Mod_reckon 87 = .ok (.iload_n 1, 1) := by decide +kernel
theorem d_Mod_reckon_88 : decode b_Mod_reckon 88 = .ok (.aload_n 0, 1) := by decide +kernel
theorem d_Mod_reckon_89 : decode b_Mod_reckon 89 = .ok (.getfield 48, 3) := by decide +kernel
theorem d_Mod_reckon_92 : decode b_Mod_reckon 92 = .ok (.iload_n 1, 1) := by decide +kernel
theorem d_Mod_reckon_93 : decode b_Mod_reckon 93 = .ok (.iaload, 1) := by decide +kernel
theorem d_Mod_reckon_94 : decode b_Mod_reckon 94 = .ok (.ifCond .le 14, 3) := by decide +kernel
theorem d_Mod_reckon_97 : decode b_Mod_reckon 97 = .ok (.iload_n 2, 1) := by decide +kernel
theorem d_Mod_reckon_98 : decode b_Mod_reckon 98 = .ok (.aload_n 0, 1) := by decide +kernel
theorem d_Mod_reckon_99 : decode b_Mod_reckon 99 = .ok (.getfield 16, 3) := by decide +kernel
theorem d_Mod_reckon_102 : decode b_Mod_reckon 102 = .ok (.iload_n 1, 1) := by decide +kernel
theorem d_Mod_reckon_103 : decode b_Mod_reckon 103 = .ok (.iaload, 1) := by decide +kernel
theorem d_Mod_reckon_104 : decode b_Mod_reckon 104 = .ok (.isub, 1) := by decide +kernel
theorem d_Mod_reckon_105 : decode b_Mod_reckon 105 = .ok (.goto 4, 3) := by decide +kernel
theorem d_Mod_reckon_108 : decode b_Mod_reckon 108 = .ok (.iconst (-1), 1) := by decide +kernel
theorem d_Mod_reckon_109 : decode b_Mod_reckon 109 = .ok (.iastore, 1) := by decide +kernel
theorem d_Mod_reckon_110 : decode b_Mod_reckon 110 = .ok (.iinc 2 1, 3) := by decide +kernel
theorem d_Mod_reckon_113 : decode b_Mod_reckon 113 = .ok (.goto (-67), 3) := by decide +kernel
theorem d_Mod_reckon_116 : decode b_Mod_reckon 116 = .ok (.aload_n 0, 1) := by decide +kernel
theorem d_Mod_reckon_117 : decode b_Mod_reckon 117 = .ok (.getfield 42, 3) := by decide +kernel
theorem d_Mod_reckon_120 : decode b_Mod_reckon 120 = .ok (.iload_n 1, 1) := by decide +kernel
theorem d_Mod_reckon_121 : decode b_Mod_reckon 121 = .ok (.aload_n 0, 1) := by decide +kernel
theorem d_Mod_reckon_122 : decode b_Mod_reckon 122 = .ok (.getfield 48, 3) := by decide +kernel
theorem d_Mod_reckon_125 : decode b_Mod_reckon 125 = .ok (.iload_n 1, 1) := by decide +kernel
theorem d_Mod_reckon_126 : decode b_Mod_reckon 126 = .ok (.iaload, 1) := by decide +kernel
theorem d_Mod_reckon_127 : decode b_Mod_reckon 127 = .ok (.ifCond .le 7, 3) := by decide +kernel
theorem d_Mod_reckon_130 : decode b_Mod_reckon 130 = .ok (.lconst 0, 1) := by decide +kernel
theorem d_Mod_reckon_131 : decode b_Mod_reckon 131 = .ok (.goto 7, 3) := by decide +kernel
theorem d_Mod_reckon_134 : decode b_Mod_reckon 134 = .ok (.aload_n 0, 1) := by decide +kernel
theorem d_Mod_reckon_135 : decode b_Mod_reckon 135 = .ok (.getfield 117, 3) := by decide +kernel
theorem d_Mod_reckon_138 : decode b_Mod_reckon 138 = .ok (.lastore, 1) := by decide +kernel
theorem d_Mod_reckon_139 : decode b_Mod_reckon 139 = .ok (.aload_n 0, 1) := by decide +kernel
theorem d_Mod_reckon_140 : decode b_Mod_reckon 140 = .ok (.getfield 45, 3) := by decide +kernel
theorem d_Mod_reckon_143 : decode b_Mod_reckon 143 = .ok (.iload_n 1, 1) := by decide +kernel
theorem d_Mod_reckon_144 : decode b_Mod_reckon 144 = .ok (.aload_n 0, 1) := by decide +kernel
theorem d_Mod_reckon_145 : decode b_Mod_reckon 145 = .ok (.getfield 48, 3) := by decide +kernel
theorem d_Mod_reckon_148 : decode b_Mod_reckon 148 = .ok (.iload_n 1, 1) := by decide +kernel
theorem d_Mod_reckon_149 : decode b_Mod_reckon 149 = .ok (.iaload, 1) := by decide +kernel
theorem d_Mod_reckon_150 : decode b_Mod_reckon 150 = .ok (.ifCond .le 7, 3) := by decide +kernel
theorem d_Mod_reckon_153 : decode b_Mod_reckon 153 = .ok (.lconst 1, 1) := by decide +kernel
theorem d_Mod_reckon_154 : decode b_Mod_reckon 154 = .ok (.goto 7, 3) := by decide +kernel
theorem d_Mod_reckon_157 : decode b_Mod_reckon 157 = .ok (.aload_n 0, 1) := by decide +kernel
theorem d_Mod_reckon_158 : decode b_Mod_reckon 158 = .ok (.getfield 121, 3) := by decide +kernel
theorem d_Mod_reckon_161 : decode b_Mod_reckon 161 = .ok (.lastore, 1) := by decide +kernel
theorem d_Mod_reckon_162 : decode b_Mod_reckon 162 = .ok (.iinc 1 1, 3) := by decide +kernel
theorem d_Mod_reckon_165 : decode b_Mod_reckon 165 = .ok (.goto (-153), 3) := by decide +kernel
theorem d_Mod_reckon_168 : decode b_Mod_reckon 168 = .ok (.return_, 1) := by decide +kernel
theorem d_Mod_step_0 : decode b_Mod_step 0 = .ok (.iload_n 1, 1) := by decide +kernel
theorem d_Mod_step_1 : decode b_Mod_step 1 = .ok (.ldc 103, 2) := by decide +kernel
theorem d_Mod_step_3 : decode b_Mod_step 3 = .ok (.if_icmp .lt 48, 3) := by decide +kernel
theorem d_Mod_step_6 : decode b_Mod_step 6 = .ok (.iload_n 1, 1) := by decide +kernel
theorem d_Mod_step_7 : decode b_Mod_step 7 = .ok (.ldc 103, 2) := by decide +kernel
theorem d_Mod_step_9 : decode b_Mod_step 9 = .ok (.isub, 1) := by decide +kernel
theorem d_Mod_step_10 : decode b_Mod_step 10 = .ok (.bipush 97, 2) := by decide +kernel
theorem d_Mod_step_12 : decode b_Mod_step 12 = .ok (.isub, 1) := by decide +kernel
theorem d_Mod_step_13 : decode b_Mod_step 13 = .ok (.istore_n 2, 1) := by decide +kernel
theorem d_Mod_step_14 : decode b_Mod_step 14 = .ok (.aload_n 0, 1) := by decide +kernel
theorem d_Mod_step_15 : decode b_Mod_step 15 = .ok (.getfield 32, 3) := by decide +kernel
theorem d_Mod_step_18 : decode b_Mod_step 18 = .ok (.iload_n 2, 1) := by decide +kernel
theorem d_Mod_step_19 : decode b_Mod_step 19 = .ok (.baload, 1) := by decide +kernel
theorem d_Mod_step_20 : decode b_Mod_step 20 = .ok (.ifCond .ne 5, 3) := by decide +kernel
theorem d_Mod_step_23 : decode b_Mod_step 23 = .ok (.iconst 1, 1) := by decide +kernel
theorem d_Mod_step_24 : decode b_Mod_step 24 = .ok (.ireturn, 1) := by decide +kernel
theorem d_Mod_step_25 : decode b_Mod_step 25 = .ok (.aload_n 0, 1) := by decide +kernel
theorem d_Mod_step_26 : decode b_Mod_step 26 = .ok (.aload_n 0, 1) := by decide +kernel
theorem d_Mod_step_27 : decode b_Mod_step 27 = .ok (.getfield 25, 3) := by decide +kernel
theorem d_Mod_step_30 : decode b_Mod_step 30 = .ok (.iload_n 2, 1) := by decide +kernel
theorem d_Mod_step_31 : decode b_Mod_step 31 = .ok (.laload, 1) := by decide +kernel
theorem d_Mod_step_32 : decode b_Mod_step 32 = .ok (.putfield 117, 3) := by decide +kernel
theorem d_Mod_step_35 : decode b_Mod_step 35 = .ok (.aload_n 0, 1) := by decide +kernel
theorem d_Mod_step_36 : decode b_Mod_step 36 = .ok (.aload_n 0, 1) := by decide +kernel
theorem d_Mod_step_37 : decode b_Mod_step 37 = .ok (.getfield 29, 3) := by decide +kernel
theorem d_Mod_step_40 : decode b_Mod_step 40 = .ok (.iload_n 2, 1) := by decide +kernel
theorem d_Mod_step_41 : decode b_Mod_step 41 = .ok (.laload, 1) := by decide +kernel
theorem d_Mod_step_42 : decode b_Mod_step 42 = .ok (.putfield 121, 3) := by decide +kernel
theorem d_Mod_step_45 : decode b_Mod_step 45 = .ok (.aload_n 0, 1) := by decide +kernel
theorem d_Mod_step_46 : decode b_Mod_step 46 = .ok (.invokevirtual 137, 3) := by decide +kernel
theorem d_Mod_step_49 : decode b_Mod_step 49 = .ok (.iconst 0, 1) := by decide +kernel
theorem d_Mod_step_50 : decode b_Mod_step 50 = .ok (.ireturn, 1) := by decide +kernel
theorem d_Mod_step_51 : decode b_Mod_step 51 = .ok (.iload_n 1, 1) := by decide +kernel
theorem d_Mod_step_52 : decode b_Mod_step 52 = .ok (.ifCond .lt 20, 3) := by decide +kernel
theorem d_Mod_step_55 : decode b_Mod_step 55 = .ok (.aload_n 0, 1) := by decide +kernel
theorem d_Mod_step_56 : decode b_Mod_step 56 = .ok (.iload_n 1, 1) := by decide +kernel
theorem d_Mod_step_57 : decode b_Mod_step 57 = .ok (.i2l, 1) := by decide +kernel
theorem d_Mod_step_58 : decode b_Mod_step 58 = .ok (.putfield 117, 3) := by decide +kernel
theorem d_Mod_step_61 : decode b_Mod_step 61 = .ok (.aload_n 0, 1) := by decide +kernel
theorem d_Mod_step_62 : decode b_Mod_step 62 = .ok (.lconst 1, 1) := by decide +kernel
theorem d_Mod_step_63 : decode b_Mod_step 63 = .ok (.putfield 121, 3) := by decide +kernel
theorem d_Mod_step_66 : decode b_Mod_step 66 = .ok (.aload_n 0, 1) := by decide +kernel
theorem d_Mod_step_67 : decode b_Mod_step 67 = .ok (.invokevirtual 137, 3) := by decide +kernel
theorem d_Mod_step_70 : decode b_Mod_step 70 = .ok (.iconst 0, 1) := by decide +kernel
theorem d_Mod_step_71 : decode b_Mod_step 71 = .ok (.ireturn, 1) := by decide +kernel
theorem d_Mod_step_72 : decode b_Mod_step 72 = .ok (.iload_n 1, 1) := by decide +kernel
theorem d_Mod_step_73 : decode b_Mod_step 73 = .ok (.ineg, 1) := by decide +kernel
theorem d_Mod_step_74 : decode b_Mod_step 74 = .ok (.invokestatic 97, 3) := by decide +kernel
theorem d_Mod_step_77 : decode b_Mod_step 77 = .ok (.ifCond .eq 12, 3) := by decide +kernel
theorem d_Mod_step_80 : decode b_Mod_step 80 = .ok (.aload_n 0, 1) := by decide +kernel
theorem d_Mod_step_81 : decode b_Mod_step 81 = .ok (.iload_n 1, 1) := by decide +kernel
theorem d_Mod_step_82 : decode b_Mod_step 82 = .ok (.ineg, 1) := by decide +kernel
theorem d_Mod_step_83 : decode b_Mod_step 83 = .ok (.invokevirtual 156, 3) := by decide +kernel
theorem d_Mod_step_86 : decode b_Mod_step 86 = .ok (.goto 23, 3) := by decide +kernel
theorem d_Mod_step_89 : decode b_Mod_step 89 = .ok (.iload_n 1, 1) := by decide +kernel
theorem d_Mod_step_90 : decode b_Mod_step 90 = .ok (.ineg, 1) := by decide +kernel
theorem d_Mod_step_91 : decode b_Mod_step 91 = .ok (.bipush 114, 2) := by decide +kernel
theorem d_Mod_step_93 : decode b_Mod_step 93 = .ok (.if_icmp .ne 10, 3) := by decide +kernel
theorem d_Mod_step_96 : decode b_Mod_step 96 = .ok (.aload_n 0, 1) := by decide +kernel
theorem d_Mod_step_97 : decode b_Mod_step 97 = .ok (.invokevirtual 160, 3) := by decide +kernel
theorem d_Mod_step_100 : decode b_Mod_step 100 = .ok (.goto 9, 3) := by decide +kernel
theorem d_Mod_step_103 : decode b_Mod_step 103 = .ok (.aload_n 0, 1) := by decide +kernel
theorem d_Mod_step_104 : decode b_Mod_step 104 = .ok (.iload_n 1, 1) := by decide +kernel
theorem d_Mod_step_105 : decode b_Mod_step 105 = .ok (.ineg, 1) := by decide +kernel
theorem d_Mod_step_106 : decode b_Mod_step 106 = .ok (.invokevirtual 163, 3) := by decide +kernel
theorem d_Mod_step_109 : decode b_Mod_step 109 = .ok (.ireturn, 1) := by decide +kernel
theorem d_Mod_lay_0 : decode b_Mod_lay 0 = .ok (.aload_n 0, 1) := by decide +kernel
theorem d_Mod_lay_1 : decode b_Mod_lay 1 = .ok (.getfield 36, 3) := by decide +kernel
theorem d_Mod_lay_4 : decode b_Mod_lay 4 = .ok (.aload_n 0, 1) := by decide +kernel
theorem d_Mod_lay_5 : decode b_Mod_lay 5 = .ok (.getfield 130, 3) := by decide +kernel
theorem d_Mod_lay_8 : decode b_Mod_lay 8 = .ok (.aload_n 0, 1) := by decide +kernel
theorem d_Mod_lay_9 : decode b_Mod_lay 9 = .ok (.getfield 117, 3) := by decide +kernel
theorem d_Mod_lay_12 : decode b_Mod_lay 12 = .ok (.lastore, 1) := by decide +kernel
theorem d_Mod_lay_13 : decode b_Mod_lay 13 = .ok (.aload_n 0, 1) := by decide +kernel
theorem d_Mod_lay_14 : decode b_Mod_lay 14 = .ok (.getfield 39, 3) := by decide +kernel
theorem d_Mod_lay_17 : decode b_Mod_lay 17 = .ok (.aload_n 0, 1) := by decide +kernel
theorem d_Mod_lay_18 : decode b_Mod_lay 18 = .ok (.getfield 130, 3) := by decide +kernel
theorem d_Mod_lay_21 : decode b_Mod_lay 21 = .ok (.aload_n 0, 1) := by decide +kernel
theorem d_Mod_lay_22 : decode b_Mod_lay 22 = .ok (.getfield 121, 3) := by decide +kernel
theorem d_Mod_lay_25 : decode b_Mod_lay 25 = .ok (.lastore, 1) := by decide +kernel
theorem d_Mod_lay_26 : decode b_Mod_lay 26 = .ok (.aload_n 0, 1) := by decide +kernel
theorem d_Mod_lay_27 : decode b_Mod_lay 27 = .ok (.dup, 1) := by decide +kernel
theorem d_Mod_lay_28 : decode b_Mod_lay 28 = .ok (.getfield 130, 3) := by decide +kernel
theorem d_Mod_lay_31 : decode b_Mod_lay 31 = .ok (.iconst 1, 1) := by decide +kernel
theorem d_Mod_lay_32 : decode b_Mod_lay 32 = .ok (.iadd, 1) := by decide +kernel
theorem d_Mod_lay_33 : decode b_Mod_lay 33 = .ok (.putfield 130, 3) := by decide +kernel
theorem d_Mod_lay_36 : decode b_Mod_lay 36 = .ok (.return_, 1) := by decide +kernel
theorem d_Mod_two_0 : decode b_Mod_two 0 = .ok (.aload_n 0, 1) := by decide +kernel
theorem d_Mod_two_1 : decode b_Mod_two 1 = .ok (.getfield 36, 3) := by decide +kernel
theorem d_Mod_two_4 : decode b_Mod_two 4 = .ok (.aload_n 0, 1) := by decide +kernel
theorem d_Mod_two_5 : decode b_Mod_two 5 = .ok (.getfield 130, 3) := by decide +kernel
theorem d_Mod_two_8 : decode b_Mod_two 8 = .ok (.iconst 2, 1) := by decide +kernel
theorem d_Mod_two_9 : decode b_Mod_two 9 = .ok (.isub, 1) := by decide +kernel
theorem d_Mod_two_10 : decode b_Mod_two 10 = .ok (.laload, 1) := by decide +kernel
theorem d_Mod_two_11 : decode b_Mod_two 11 = .ok (.lstore_n 2, 1) := by decide +kernel
theorem d_Mod_two_12 : decode b_Mod_two 12 = .ok (.aload_n 0, 1) := by decide +kernel
theorem d_Mod_two_13 : decode b_Mod_two 13 = .ok (.getfield 39, 3) := by decide +kernel
theorem d_Mod_two_16 : decode b_Mod_two 16 = .ok (.aload_n 0, 1) := by decide +kernel
theorem d_Mod_two_17 : decode b_Mod_two 17 = .ok (.getfield 130, 3) := by decide +kernel
theorem d_Mod_two_20 : decode b_Mod_two 20 = .ok (.iconst 2, 1) := by decide +kernel
theorem d_Mod_two_21 : decode b_Mod_two 21 = .ok (.isub, 1) := by decide +kernel
theorem d_Mod_two_22 : decode b_Mod_two 22 = .ok (.laload, 1) := by decide +kernel
theorem d_Mod_two_23 : decode b_Mod_two 23 = .ok (.lstore 4, 2) := by decide +kernel
theorem d_Mod_two_25 : decode b_Mod_two 25 = .ok (.aload_n 0, 1) := by decide +kernel
theorem d_Mod_two_26 : decode b_Mod_two 26 = .ok (.getfield 36, 3) := by decide +kernel
theorem d_Mod_two_29 : decode b_Mod_two 29 = .ok (.aload_n 0, 1) := by decide +kernel
theorem d_Mod_two_30 : decode b_Mod_two 30 = .ok (.getfield 130, 3) := by decide +kernel
theorem d_Mod_two_33 : decode b_Mod_two 33 = .ok (.iconst 1, 1) := by decide +kernel
theorem d_Mod_two_34 : decode b_Mod_two 34 = .ok (.isub, 1) := by decide +kernel
theorem d_Mod_two_35 : decode b_Mod_two 35 = .ok (.laload, 1) := by decide +kernel
theorem d_Mod_two_36 : decode b_Mod_two 36 = .ok (.lstore 6, 2) := by decide +kernel
theorem d_Mod_two_38 : decode b_Mod_two 38 = .ok (.aload_n 0, 1) := by decide +kernel
theorem d_Mod_two_39 : decode b_Mod_two 39 = .ok (.getfield 39, 3) := by decide +kernel
theorem d_Mod_two_42 : decode b_Mod_two 42 = .ok (.aload_n 0, 1) := by decide +kernel
theorem d_Mod_two_43 : decode b_Mod_two 43 = .ok (.getfield 130, 3) := by decide +kernel
theorem d_Mod_two_46 : decode b_Mod_two 46 = .ok (.iconst 1, 1) := by decide +kernel
theorem d_Mod_two_47 : decode b_Mod_two 47 = .ok (.isub, 1) := by decide +kernel
theorem d_Mod_two_48 : decode b_Mod_two 48 = .ok (.laload, 1) := by decide +kernel
theorem d_Mod_two_49 : decode b_Mod_two 49 = .ok (.lstore 8, 2) := by decide +kernel
theorem d_Mod_two_51 : decode b_Mod_two 51 = .ok (.iconst 1, 1) := by decide +kernel
theorem d_Mod_two_52 : decode b_Mod_two 52 = .ok (.istore 10, 2) := by decide +kernel
theorem d_Mod_two_54 : decode b_Mod_two 54 = .ok (.iload_n 1, 1) := by decide +kernel
theorem d_Mod_two_55 : decode b_Mod_two 55 = .ok (.bipush 47, 2) := by decide +kernel
theorem d_Mod_two_57 : decode b_Mod_two 57 = .ok (.if_icmp .ne 12, 3) := by decide +kernel
theorem d_Mod_two_60 : decode b_Mod_two 60 = .ok (.lload 6, 2) := by decide +kernel
theorem d_Mod_two_62 : decode b_Mod_two 62 = .ok (.lconst 0, 1) := by decide +kernel
theorem d_Mod_two_63 : decode b_Mod_two 63 = .ok (.lcmp, 1) := by decide +kernel
theorem d_Mod_two_64 : decode b_Mod_two 64 = .ok (.ifCond .ne 5, 3) := by decide +kernel
theorem d_Mod_two_67 : decode b_Mod_two 67 = .ok (.iconst 2, 1) := by decide +kernel
theorem d_Mod_two_68 : decode b_Mod_two 68 = .ok (.ireturn, 1) := by decide +kernel
theorem d_Mod_two_69 : decode b_Mod_two 69 = .ok (.iload_n 1, 1) := by decide +kernel
theorem d_Mod_two_70 : decode b_Mod_two 70 = .ok (.bipush 43, 2) := by decide +kernel
theorem d_Mod_two_72 : decode b_Mod_two 72 = .ok (.if_icmp .eq 9, 3) := by decide +kernel
theorem d_Mod_two_75 : decode b_Mod_two 75 = .ok (.iload_n 1, 1) := by decide +kernel
theorem d_Mod_two_76 : decode b_Mod_two 76 = .ok (.bipush 45, 2) := by decide +kernel
theorem d_Mod_two_78 : decode b_Mod_two 78 = .ok (.if_icmp .ne 31, 3) := by decide +kernel
theorem d_Mod_two_81 : decode b_Mod_two 81 = .ok (.aload_n 0, 1) := by decide +kernel
theorem d_Mod_two_82 : decode b_Mod_two 82 = .ok (.lload_n 2, 1) := by decide +kernel
theorem d_Mod_two_83 : decode b_Mod_two 83 = .ok (.lload 4, 2) := by decide +kernel
theorem d_Mod_two_85 : decode b_Mod_two 85 = .ok (.iload_n 1, 1) := by decide +kernel
theorem d_Mod_two_86 : decode b_Mod_two 86 = .ok (.bipush 43, 2) := by decide +kernel
theorem d_Mod_two_88 : decode b_Mod_two 88 = .ok (.if_icmp .ne 8, 3) := by decide +kernel
theorem d_Mod_two_91 : decode b_Mod_two 91 = .ok (.lload 6, 2) := by decide +kernel
theorem d_Mod_two_93 : decode b_Mod_two 93 = .ok (.goto 6, 3) := by decide +kernel
theorem d_Mod_two_96 : decode b_Mod_two 96 = .ok (.lload 6, 2) := by decide +kernel
theorem d_Mod_two_98 : decode b_Mod_two 98 = .ok (.lneg, 1) := by decide +kernel
theorem d_Mod_two_99 : decode b_Mod_two 99 = .ok (.lload 8, 2) := by decide +kernel
theorem d_Mod_two_101 : decode b_Mod_two 101 = .ok (.invokevirtual 133, 3) := by decide +kernel
theorem d_Mod_two_104 : decode b_Mod_two 104 = .ok (.istore 10, 2) := by decide +kernel
theorem d_Mod_two_106 : decode b_Mod_two 106 = .ok (.goto 127, 3) := by decide +kernel
theorem d_Mod_two_109 : decode b_Mod_two 109 = .ok (.iload_n 1, 1) := by decide +kernel
theorem d_Mod_two_110 : decode b_Mod_two 110 = .ok (.bipush 42, 2) := by decide +kernel
theorem d_Mod_two_112 : decode b_Mod_two 112 = .ok (.if_icmp .eq 9, 3) := by decide +kernel
theorem d_Mod_two_115 : decode b_Mod_two 115 = .ok (.iload_n 1, 1) := by decide +kernel
theorem d_Mod_two_116 : decode b_Mod_two 116 = .ok (.bipush 47, 2) := by decide +kernel
theorem d_Mod_two_118 : decode b_Mod_two 118 = .ok (.if_icmp .ne 43, 3) := by decide +kernel
theorem d_Mod_two_121 : decode b_Mod_two 121 = .ok (.iload_n 1, 1) := by decide +kernel
theorem d_Mod_two_122 : decode b_Mod_two 122 = .ok (.bipush 42, 2) := by decide +kernel
theorem d_Mod_two_124 : decode b_Mod_two 124 = .ok (.if_icmp .ne 19, 3) := by decide +kernel
theorem d_Mod_two_127 : decode b_Mod_two 127 = .ok (.aload_n 0, 1) := by decide +kernel
theorem d_Mod_two_128 : decode b_Mod_two 128 = .ok (.lload_n 2, 1) := by decide +kernel
theorem d_Mod_two_129 : decode b_Mod_two 129 = .ok (.lload 6, 2) := by decide +kernel
theorem d_Mod_two_131 : decode b_Mod_two 131 = .ok (.lmul, 1) := by decide +kernel
theorem d_Mod_two_132 : decode b_Mod_two 132 = .ok (.lload 4, 2) := by decide +kernel
theorem d_Mod_two_134 : decode b_Mod_two 134 = .ok (.lload 8, 2) := by decide +kernel
theorem d_Mod_two_136 : decode b_Mod_two 136 = .ok (.lmul, 1) := by decide +kernel
theorem d_Mod_two_137 : decode b_Mod_two 137 = .ok (.invokevirtual 126, 3) := by decide +kernel
theorem d_Mod_two_140 : decode b_Mod_two 140 = .ok (.goto 16, 3) := by decide +kernel
theorem d_Mod_two_143 : decode b_Mod_two 143 = .ok (.aload_n 0, 1) := by decide +kernel
theorem d_Mod_two_144 : decode b_Mod_two 144 = .ok (.lload_n 2, 1) := by decide +kernel
theorem d_Mod_two_145 : decode b_Mod_two 145 = .ok (.lload 8, 2) := by decide +kernel
theorem d_Mod_two_147 : decode b_Mod_two 147 = .ok (.lmul, 1) := by decide +kernel
theorem d_Mod_two_148 : decode b_Mod_two 148 = .ok (.lload 4, 2) := by decide +kernel
theorem d_Mod_two_150 : decode b_Mod_two 150 = .ok (.lload 6, 2) := by decide +kernel
theorem d_Mod_two_152 : decode b_Mod_two 152 = .ok (.lmul, 1) := by decide +kernel
theorem d_Mod_two_153 : decode b_Mod_two 153 = .ok (.invokevirtual 126, 3) := by decide +kernel
theorem d_Mod_two_156 : decode b_Mod_two 156 = .ok (.istore 10, 2) := by decide +kernel
theorem d_Mod_two_158 : decode b_Mod_two 158 = .ok (.goto 75, 3) := by decide +kernel
theorem d_Mod_two_161 : decode b_Mod_two 161 = .ok (.iload_n 1, 1) := by decide +kernel
theorem d_Mod_two_162 : decode b_Mod_two 162 = .ok (.bipush 60, 2) := by decide +kernel
theorem d_Mod_two_164 : decode b_Mod_two 164 = .ok (.if_icmp .ne 24, 3) := by decide +kernel
theorem d_Mod_two_167 : decode b_Mod_two 167 = .ok (.lload_n 2, 1) := by decide +kernel
theorem d_Mod_two_168 : decode b_Mod_two 168 = .ok (.lload 8, 2) := by decide +kernel
theorem d_Mod_two_170 : decode b_Mod_two 170 = .ok (.lmul, 1) := by decide +kernel
theorem d_Mod_two_171 : decode b_Mod_two 171 = .ok (.lload 6, 2) := by decide +kernel
theorem d_Mod_two_173 : decode b_Mod_two 173 = .ok (.lload 4, 2) := by decide +kernel
theorem d_Mod_two_175 : decode b_Mod_two 175 = .ok (.lmul, 1) := by decide +kernel
theorem d_Mod_two_176 : decode b_Mod_two 176 = .ok (.lcmp, 1) := by decide +kernel
theorem d_Mod_two_177 : decode b_Mod_two 177 = .ok (.ifCond .gt 7, 3) := by decide +kernel
theorem d_Mod_two_180 : decode b_Mod_two 180 = .ok (.iconst 1, 1) := by decide +kernel
theorem d_Mod_two_181 : decode b_Mod_two 181 = .ok (.goto 25, 3) := by decide +kernel
theorem d_Mod_two_184 : decode b_Mod_two 184 = .ok (.iconst 0, 1) := by decide +kernel
theorem d_Mod_two_185 : decode b_Mod_two 185 = .ok (.goto 21, 3) := by decide +kernel
theorem d_Mod_two_188 : decode b_Mod_two 188 = .ok (.lload_n 2, 1) := by decide +kernel
theorem d_Mod_two_189 : decode b_Mod_two 189 = .ok (.lload 8, 2) := by decide +kernel
theorem d_Mod_two_191 : decode b_Mod_two 191 = .ok (.lmul, 1) := by decide +kernel
theorem d_Mod_two_192 : decode b_Mod_two 192 = .ok (.lload 6, 2) := by decide +kernel
theorem d_Mod_two_194 : decode b_Mod_two 194 = .ok (.lload 4, 2) := by decide +kernel
theorem d_Mod_two_196 : decode b_Mod_two 196 = .ok (.lmul, 1) := by decide +kernel
theorem d_Mod_two_197 : decode b_Mod_two 197 = .ok (.lcmp, 1) := by decide +kernel
theorem d_Mod_two_198 : decode b_Mod_two 198 = .ok (.ifCond .lt 7, 3) := by decide +kernel
theorem d_Mod_two_201 : decode b_Mod_two 201 = .ok (.iconst 1, 1) := by decide +kernel
theorem d_Mod_two_202 : decode b_Mod_two 202 = .ok (.goto 4, 3) := by decide +kernel
theorem d_Mod_two_205 : decode b_Mod_two 205 = .ok (.iconst 0, 1) := by decide +kernel
theorem d_Mod_two_206 : decode b_Mod_two 206 = .ok (.istore 11, 2) := by decide +kernel
theorem d_Mod_two_208 : decode b_Mod_two 208 = .ok (.iload 11, 2) := by decide +kernel
theorem d_Mod_two_210 : decode b_Mod_two 210 = .ok (.ifCond .eq 13, 3) := by decide +kernel
theorem d_Mod_two_213 : decode b_Mod_two 213 = .ok (.aload_n 0, 1) := by decide +kernel
theorem d_Mod_two_214 : decode b_Mod_two 214 = .ok (.lload_n 2, 1) := by decide +kernel
theorem d_Mod_two_215 : decode b_Mod_two 215 = .ok (.lload 4, 2) := by decide +kernel
theorem d_Mod_two_217 : decode b_Mod_two 217 = .ok (.invokevirtual 126, 3) := by decide +kernel
theorem d_Mod_two_220 : decode b_Mod_two 220 = .ok (.goto 11, 3) := by decide +kernel
theorem d_Mod_two_223 : decode b_Mod_two 223 = .ok (.aload_n 0, 1) := by decide +kernel
theorem d_Mod_two_224 : decode b_Mod_two 224 = .ok (.lload 6, 2) := by decide +kernel
theorem d_Mod_two_226 : decode b_Mod_two 226 = .ok (.lload 8, 2) := by decide +kernel
theorem d_Mod_two_228 : decode b_Mod_two 228 = .ok (.invokevirtual 126, 3) := by decide +kernel
theorem d_Mod_two_231 : decode b_Mod_two 231 = .ok (.istore 10, 2) := by decide +kernel
theorem d_Mod_two_233 : decode b_Mod_two 233 = .ok (.iload 10, 2) := by decide +kernel
theorem d_Mod_two_235 : decode b_Mod_two 235 = .ok (.ifCond .ne 5, 3) := by decide +kernel
theorem d_Mod_two_238 : decode b_Mod_two 238 = .ok (.iconst 3, 1) := by decide +kernel
theorem d_Mod_two_239 : decode b_Mod_two 239 = .ok (.ireturn, 1) := by decide +kernel
theorem d_Mod_two_240 : decode b_Mod_two 240 = .ok (.aload_n 0, 1) := by decide +kernel
theorem d_Mod_two_241 : decode b_Mod_two 241 = .ok (.aload_n 0, 1) := by decide +kernel
theorem d_Mod_two_242 : decode b_Mod_two 242 = .ok (.getfield 130, 3) := by decide +kernel
theorem d_Mod_two_245 : decode b_Mod_two 245 = .ok (.iconst 2, 1) := by decide +kernel
theorem d_Mod_two_246 : decode b_Mod_two 246 = .ok (.isub, 1) := by decide +kernel
theorem d_Mod_two_247 : decode b_Mod_two 247 = .ok (.putfield 130, 3) := by decide +kernel
theorem d_Mod_two_250 : decode b_Mod_two 250 = .ok (.aload_n 0, 1) := by decide +kernel
theorem d_Mod_two_251 : decode b_Mod_two 251 = .ok (.invokevirtual 137, 3) := by decide +kernel
theorem d_Mod_two_254 : decode b_Mod_two 254 = .ok (.iconst 0, 1) := by decide +kernel
theorem d_Mod_two_255 : decode b_Mod_two 255 = .ok (.ireturn, 1) := by decide +kernel
theorem d_Mod_add_0 : decode b_Mod_add 0 = .ok (.aload_n 0, 1) := by decide +kernel
theorem d_Mod_add_1 : decode b_Mod_add 1 = .ok (.lload_n 1, 1) := by decide +kernel
theorem d_Mod_add_2 : decode b_Mod_add 2 = .ok (.lload 7, 2) := by decide +kernel
theorem d_Mod_add_4 : decode b_Mod_add 4 = .ok (.lmul, 1) := by decide +kernel
theorem d_Mod_add_5 : decode b_Mod_add 5 = .ok (.lload 5, 2) := by decide +kernel
theorem d_Mod_add_7 : decode b_Mod_add 7 = .ok (.lload_n 3, 1) := by decide +kernel
theorem d_Mod_add_8 : decode b_Mod_add 8 = .ok (.lmul, 1) := by decide +kernel
theorem d_Mod_add_9 : decode b_Mod_add 9 = .ok (.ladd, 1) := by decide +kernel
theorem d_Mod_add_10 : decode b_Mod_add 10 = .ok (.lload_n 3, 1) := by decide +kernel
theorem d_Mod_add_11 : decode b_Mod_add 11 = .ok (.lload 7, 2) := by decide +kernel
theorem d_Mod_add_13 : decode b_Mod_add 13 = .ok (.lmul, 1) := by decide +kernel
theorem d_Mod_add_14 : decode b_Mod_add 14 = .ok (.invokevirtual 126, 3) := by decide +kernel
theorem d_Mod_add_17 : decode b_Mod_add 17 = .ok (.ireturn, 1) := by decide +kernel
theorem d_Mod_round_0 : decode b_Mod_round 0 = .ok (.aload_n 0, 1) := by decide +kernel
theorem d_Mod_round_1 : decode b_Mod_round 1 = .ok (.dup, 1) := by decide +kernel
theorem d_Mod_round_2 : decode b_Mod_round 2 = .ok (.getfield 130, 3) := by decide +kernel
theorem d_Mod_round_5 : decode b_Mod_round 5 = .ok (.iconst 1, 1) := by decide +kernel
theorem d_Mod_round_6 : decode b_Mod_round 6 = .ok (.isub, 1) := by decide +kernel
theorem d_Mod_round_7 : decode b_Mod_round 7 = .ok (.putfield 130, 3) := by decide +kernel
theorem d_Mod_round_10 : decode b_Mod_round 10 = .ok (.ldc2_w 140, 3) := by decide +kernel
theorem d_Mod_round_13 : decode b_Mod_round 13 = .ok (.aload_n 0, 1) := by decide +kernel
theorem d_Mod_round_14 : decode b_Mod_round 14 = .ok (.getfield 36, 3) := by decide +kernel
theorem d_Mod_round_17 : decode b_Mod_round 17 = .ok (.aload_n 0, 1) := by decide +kernel
theorem d_Mod_round_18 : decode b_Mod_round 18 = .ok (.getfield 130, 3) := by decide +kernel
theorem d_Mod_round_21 : decode b_Mod_round 21 = .ok (.laload, 1) := by decide +kernel
theorem d_Mod_round_22 : decode b_Mod_round 22 = .ok (.lmul, 1) := by decide +kernel
theorem d_Mod_round_23 : decode b_Mod_round 23 = .ok (.aload_n 0, 1) := by decide +kernel
theorem d_Mod_round_24 : decode b_Mod_round 24 = .ok (.getfield 39, 3) := by decide +kernel
theorem d_Mod_round_27 : decode b_Mod_round 27 = .ok (.aload_n 0, 1) := by decide +kernel
theorem d_Mod_round_28 : decode b_Mod_round 28 = .ok (.getfield 130, 3) := by decide +kernel
theorem d_Mod_round_31 : decode b_Mod_round 31 = .ok (.laload, 1) := by decide +kernel
theorem d_Mod_round_32 : decode b_Mod_round 32 = .ok (.ladd, 1) := by decide +kernel
theorem d_Mod_round_33 : decode b_Mod_round 33 = .ok (.ldc2_w 142, 3) := by decide +kernel
theorem d_Mod_round_36 : decode b_Mod_round 36 = .ok (.aload_n 0, 1) := by decide +kernel
theorem d_Mod_round_37 : decode b_Mod_round 37 = .ok (.getfield 39, 3) := by decide +kernel
theorem d_Mod_round_40 : decode b_Mod_round 40 = .ok (.aload_n 0, 1) := by decide +kernel
theorem d_Mod_round_41 : decode b_Mod_round 41 = .ok (.getfield 130, 3) := by decide +kernel
theorem d_Mod_round_44 : decode b_Mod_round 44 = .ok (.laload, 1) := by decide +kernel
theorem d_Mod_round_45 : decode b_Mod_round 45 = .ok (.lmul, 1) := by decide +kernel
theorem d_Mod_round_46 : decode b_Mod_round 46 = .ok (.invokestatic 144, 3) := by decide +kernel
theorem d_Mod_round_49 : decode b_Mod_round 49 = .ok (.lstore_n 1, 1) := by decide +kernel
theorem d_Mod_round_50 : decode b_Mod_round 50 = .ok (.aload_n 0, 1) := by decide +kernel
theorem d_Mod_round_51 : decode b_Mod_round 51 = .ok (.lload_n 1, 1) := by decide +kernel
theorem d_Mod_round_52 : decode b_Mod_round 52 = .ok (.ldc2_w 148, 3) := by decide +kernel
theorem d_Mod_round_55 : decode b_Mod_round 55 = .ok (.invokevirtual 126, 3) := by decide +kernel
theorem d_Mod_round_58 : decode b_Mod_round 58 = .ok (.ifCond .ne 5, 3) := by decide +kernel
theorem d_Mod_round_61 : decode b_Mod_round 61 = .ok (.iconst 3, 1) := by decide +kernel
theorem d_Mod_round_62 : decode b_Mod_round 62 = .ok (.ireturn, 1) := by decide +kernel
theorem d_Mod_round_63 : decode b_Mod_round 63 = .ok (.aload_n 0, 1) := by decide +kernel
theorem d_Mod_round_64 : decode b_Mod_round 64 = .ok (.invokevirtual 137, 3) := by decide +kernel
theorem d_Mod_round_67 : decode b_Mod_round 67 = .ok (.iconst 0, 1) := by decide +kernel
theorem d_Mod_round_68 : decode b_Mod_round 68 = .ok (.ireturn, 1) := by decide +kernel
theorem d_Mod_floor_0 : decode b_Mod_floor 0 = .ok (.lload_n 0, 1) := by decide +kernel
theorem d_Mod_floor_1 : decode b_Mod_floor 1 = .ok (.lload_n 2, 1) := by decide +kernel
theorem d_Mod_floor_2 : decode b_Mod_floor 2 = .ok (.ldiv, 1) := by decide +kernel
theorem d_Mod_floor_3 : decode b_Mod_floor 3 = .ok (.lstore 4, 2) := by decide +kernel
theorem d_Mod_floor_5 : decode b_Mod_floor 5 = .ok (.lload_n 0, 1) := by decide +kernel
theorem d_Mod_floor_6 : decode b_Mod_floor 6 = .ok (.lload_n 2, 1) := by decide +kernel
theorem d_Mod_floor_7 : decode b_Mod_floor 7 = .ok (.lrem, 1) := by decide +kernel
theorem d_Mod_floor_8 : decode b_Mod_floor 8 = .ok (.lconst 0, 1) := by decide +kernel
theorem d_Mod_floor_9 : decode b_Mod_floor 9 = .ok (.lcmp, 1) := by decide +kernel
theorem d_Mod_floor_10 : decode b_Mod_floor 10 = .ok (.ifCond .ge 10, 3) := by decide +kernel
theorem d_Mod_floor_13 : decode b_Mod_floor 13 = .ok (.lload 4, 2) := by decide +kernel
theorem d_Mod_floor_15 : decode b_Mod_floor 15 = .ok (.lconst 1, 1) := by decide +kernel
theorem d_Mod_floor_16 : decode b_Mod_floor 16 = .ok (.lsub, 1) := by decide +kernel
theorem d_Mod_floor_17 : decode b_Mod_floor 17 = .ok (.goto 5, 3) := by decide +kernel
theorem d_Mod_floor_20 : decode b_Mod_floor 20 = .ok (.lload 4, 2) := by decide +kernel
theorem d_Mod_floor_22 : decode b_Mod_floor 22 = .ok (.lreturn, 1) := by decide +kernel
theorem d_Mod_end_0 : decode b_Mod_end 0 = .ok (.aload_n 0, 1) := by decide +kernel
theorem d_Mod_end_1 : decode b_Mod_end 1 = .ok (.getfield 36, 3) := by decide +kernel
theorem d_Mod_end_4 : decode b_Mod_end 4 = .ok (.iconst 0, 1) := by decide +kernel
theorem d_Mod_end_5 : decode b_Mod_end 5 = .ok (.laload, 1) := by decide +kernel
theorem d_Mod_end_6 : decode b_Mod_end 6 = .ok (.lstore_n 2, 1) := by decide +kernel
theorem d_Mod_end_7 : decode b_Mod_end 7 = .ok (.aload_n 0, 1) := by decide +kernel
theorem d_Mod_end_8 : decode b_Mod_end 8 = .ok (.getfield 39, 3) := by decide +kernel
theorem d_Mod_end_11 : decode b_Mod_end 11 = .ok (.iconst 0, 1) := by decide +kernel
theorem d_Mod_end_12 : decode b_Mod_end 12 = .ok (.laload, 1) := by decide +kernel
theorem d_Mod_end_13 : decode b_Mod_end 13 = .ok (.lstore 4, 2) := by decide +kernel
theorem d_Mod_end_15 : decode b_Mod_end 15 = .ok (.aload_n 0, 1) := by decide +kernel
theorem d_Mod_end_16 : decode b_Mod_end 16 = .ok (.lload_n 2, 1) := by decide +kernel
theorem d_Mod_end_17 : decode b_Mod_end 17 = .ok (.lload 4, 2) := by decide +kernel
theorem d_Mod_end_19 : decode b_Mod_end 19 = .ok (.invokevirtual 126, 3) := by decide +kernel
theorem d_Mod_end_22 : decode b_Mod_end 22 = .ok (.istore 6, 2) := by decide +kernel
theorem d_Mod_end_24 : decode b_Mod_end 24 = .ok (.iload_n 1, 1) := by decide +kernel
theorem d_Mod_end_25 : decode b_Mod_end 25 = .ok (.bipush 37, 2) := by decide +kernel
theorem d_Mod_end_27 : decode b_Mod_end 27 = .ok (.if_icmp .ne 52, 3) := by decide +kernel
theorem d_Mod_end_30 : decode b_Mod_end 30 = .ok (.aload_n 0, 1) := by decide +kernel
theorem d_Mod_end_31 : decode b_Mod_end 31 = .ok (.lload_n 2, 1) := by decide +kernel
theorem d_Mod_end_32 : decode b_Mod_end 32 = .ok (.ldc2_w 148, 3) := by decide +kernel
theorem d_Mod_end_35 : decode b_Mod_end 35 = .ok (.lload 4, 2) := by decide +kernel
theorem d_Mod_end_37 : decode b_Mod_end 37 = .ok (.lmul, 1) := by decide +kernel
theorem d_Mod_end_38 : decode b_Mod_end 38 = .ok (.invokevirtual 126, 3) := by decide +kernel
theorem d_Mod_end_41 : decode b_Mod_end 41 = .ok (.ifCond .eq 32, 3) := by decide +kernel
theorem d_Mod_end_44 : decode b_Mod_end 44 = .ok (.aload_n 0, 1) := by decide +kernel
theorem d_Mod_end_45 : decode b_Mod_end 45 = .ok (.aload_n 0, 1) := by decide +kernel
theorem d_Mod_end_46 : decode b_Mod_end 46 = .ok (.getfield 117, 3) := by decide +kernel
theorem d_Mod_end_49 : decode b_Mod_end 49 = .ok (.aload_n 0, 1) := by decide +kernel
theorem d_Mod_end_50 : decode b_Mod_end 50 = .ok (.getfield 150, 3) := by decide +kernel
theorem d_Mod_end_53 : decode b_Mod_end 53 = .ok (.lmul, 1) := by decide +kernel
theorem d_Mod_end_54 : decode b_Mod_end 54 = .ok (.aload_n 0, 1) := by decide +kernel
theorem d_Mod_end_55 : decode b_Mod_end 55 = .ok (.getfield 121, 3) := by decide +kernel
theorem d_Mod_end_58 : decode b_Mod_end 58 = .ok (.aload_n 0, 1) := by decide +kernel
theorem d_Mod_end_59 : decode b_Mod_end 59 = .ok (.getfield 153, 3) := by decide +kernel
theorem d_Mod_end_62 : decode b_Mod_end 62 = .ok (.lmul, 1) := by decide +kernel
theorem d_Mod_end_63 : decode b_Mod_end 63 = .ok (.invokevirtual 126, 3) := by decide +kernel
theorem d_Mod_end_66 : decode b_Mod_end 66 = .ok (.ifCond .eq 7, 3) := by decide +kernel
theorem d_Mod_end_69 : decode b_Mod_end 69 = .ok (.iconst 1, 1) := by decide +kernel
theorem d_Mod_end_70 : decode b_Mod_end 70 = .ok (.goto 4, 3) := by decide +kernel
theorem d_Mod_end_73 : decode b_Mod_end 73 = .ok (.iconst 0, 1) := by decide +kernel
theorem d_Mod_end_74 : decode b_Mod_end 74 = .ok (.istore 6, 2) := by decide +kernel
theorem d_Mod_end_76 : decode b_Mod_end 76 = .ok (.goto 27, 3) := by decide +kernel
theorem d_Mod_end_79 : decode b_Mod_end 79 = .ok (.iload_n 1, 1) := by decide +kernel
theorem d_Mod_end_80 : decode b_Mod_end 80 = .ok (.bipush 61, 2) := by decide +kernel
theorem d_Mod_end_82 : decode b_Mod_end 82 = .ok (.if_icmp .ne 21, 3) := by decide +kernel
theorem d_Mod_end_85 : decode b_Mod_end 85 = .ok (.aload_n 0, 1) := by decide +kernel
theorem d_Mod_end_86 : decode b_Mod_end 86 = .ok (.lload_n 2, 1) := by decide +kernel
theorem d_Mod_end_87 : decode b_Mod_end 87 = .ok (.lload 4, 2) := by decide +kernel
theorem d_Mod_end_89 : decode b_Mod_end 89 = .ok (.aload_n 0, 1) := by decide +kernel
theorem d_Mod_end_90 : decode b_Mod_end 90 = .ok (.getfield 150, 3) := by decide +kernel
theorem d_Mod_end_93 : decode b_Mod_end 93 = .ok (.lneg, 1) := by decide +kernel
theorem d_Mod_end_94 : decode b_Mod_end 94 = .ok (.aload_n 0, 1) := by decide +kernel
theorem d_Mod_end_95 : decode b_Mod_end 95 = .ok (.getfield 153, 3) := by decide +kernel
theorem d_Mod_end_98 : decode b_Mod_end 98 = .ok (.invokevirtual 133, 3) := by decide +kernel
theorem d_Mod_end_101 : decode b_Mod_end 101 = .ok (.istore 6, 2) := by decide +kernel
theorem d_Mod_end_103 : decode b_Mod_end 103 = .ok (.iload 6, 2) := by decide +kernel
theorem d_Mod_end_105 : decode b_Mod_end 105 = .ok (.ifCond .ne 5, 3) := by decide +kernel
theorem d_Mod_end_108 : decode b_Mod_end 108 = .ok (.iconst 3, 1) := by decide +kernel
theorem d_Mod_end_109 : decode b_Mod_end 109 = .ok (.ireturn, 1) := by decide +kernel
theorem d_Mod_end_110 : decode b_Mod_end 110 = .ok (.aload_n 0, 1) := by decide +kernel
theorem d_Mod_end_111 : decode b_Mod_end 111 = .ok (.getfield 117, 3) := by decide +kernel
theorem d_Mod_end_114 : decode b_Mod_end 114 = .ok (.lstore 7, 2) := by decide +kernel
theorem d_Mod_end_116 : decode b_Mod_end 116 = .ok (.aload_n 0, 1) := by decide +kernel
theorem d_Mod_end_117 : decode b_Mod_end 117 = .ok (.getfield 121, 3) := by decide +kernel
theorem d_Mod_end_120 : decode b_Mod_end 120 = .ok (.lstore 9, 2) := by decide +kernel
theorem d_Mod_end_122 : decode b_Mod_end 122 = .ok (.aload_n 0, 1) := by decide +kernel
theorem d_Mod_end_123 : decode b_Mod_end 123 = .ok (.aload_n 0, 1) := by decide +kernel
theorem d_Mod_end_124 : decode b_Mod_end 124 = .ok (.getfield 150, 3) := by decide +kernel
theorem d_Mod_end_127 : decode b_Mod_end 127 = .ok (.aload_n 0, 1) := by decide +kernel
theorem d_Mod_end_128 : decode b_Mod_end 128 = .ok (.getfield 153, 3) := by decide +kernel
theorem d_Mod_end_131 : decode b_Mod_end 131 = .ok (.lload 7, 2) := by decide +kernel
theorem d_Mod_end_133 : decode b_Mod_end 133 = .ok (.lload 9, 2) := by decide +kernel
theorem d_Mod_end_135 : decode b_Mod_end 135 = .ok (.invokevirtual 133, 3) := by decide +kernel
theorem d_Mod_end_138 : decode b_Mod_end 138 = .ok (.ifCond .ne 5, 3) := by decide +kernel
theorem d_Mod_end_141 : decode b_Mod_end 141 = .ok (.iconst 3, 1) := by decide +kernel
theorem d_Mod_end_142 : decode b_Mod_end 142 = .ok (.ireturn, 1) := by decide +kernel
theorem d_Mod_end_143 : decode b_Mod_end 143 = .ok (.aload_n 0, 1) := by decide +kernel
theorem d_Mod_end_144 : decode b_Mod_end 144 = .ok (.aload_n 0, 1) := by decide +kernel
theorem d_Mod_end_145 : decode b_Mod_end 145 = .ok (.getfield 117, 3) := by decide +kernel
theorem d_Mod_end_148 : decode b_Mod_end 148 = .ok (.putfield 150, 3) := by decide +kernel
theorem d_Mod_end_151 : decode b_Mod_end 151 = .ok (.aload_n 0, 1) := by decide +kernel
theorem d_Mod_end_152 : decode b_Mod_end 152 = .ok (.aload_n 0, 1) := by decide +kernel
theorem d_Mod_end_153 : decode b_Mod_end 153 = .ok (.getfield 121, 3) := by decide +kernel
theorem d_Mod_end_156 : decode b_Mod_end 156 = .ok (.putfield 153, 3) := by decide +kernel
theorem d_Mod_end_159 : decode b_Mod_end 159 = .ok (.aload_n 0, 1) := by decide +kernel
theorem d_Mod_end_160 : decode b_Mod_end 160 = .ok (.lload 7, 2) := by decide +kernel
theorem d_Mod_end_162 : decode b_Mod_end 162 = .ok (.putfield 117, 3) := by decide +kernel
theorem d_Mod_end_165 : decode b_Mod_end 165 = .ok (.aload_n 0, 1) := by decide +kernel
theorem d_Mod_end_166 : decode b_Mod_end 166 = .ok (.lload 9, 2) := by decide +kernel
theorem d_Mod_end_168 : decode b_Mod_end 168 = .ok (.putfield 121, 3) := by decide +kernel
theorem d_Mod_end_171 : decode b_Mod_end 171 = .ok (.iconst 0, 1) := by decide +kernel
theorem d_Mod_end_172 : decode b_Mod_end 172 = .ok (.ireturn, 1) := by decide +kernel
theorem d_Mod_cents_0 : decode b_Mod_cents 0 = .ok (.aload_n 0, 1) := by decide +kernel
theorem d_Mod_cents_1 : decode b_Mod_cents 1 = .ok (.iconst 0, 1) := by decide +kernel
theorem d_Mod_cents_2 : decode b_Mod_cents 2 = .ok (.putfield 78, 3) := by decide +kernel
theorem d_Mod_cents_5 : decode b_Mod_cents 5 = .ok (.aload_n 0, 1) := by decide +kernel
theorem d_Mod_cents_6 : decode b_Mod_cents 6 = .ok (.invokevirtual 189, 3) := by decide +kernel
theorem d_Mod_cents_9 : decode b_Mod_cents 9 = .ok (.lreturn, 1) := by decide +kernel
theorem d_Mod_centsNow_0 : decode b_Mod_centsNow 0 = .ok (.aload_n 0, 1) := by decide +kernel
theorem d_Mod_centsNow_1 : decode b_Mod_centsNow 1 = .ok (.invokevirtual 169, 3) := by decide +kernel
theorem d_Mod_centsNow_4 : decode b_Mod_centsNow 4 = .ok (.ldc2_w 140, 3) := by decide +kernel
theorem d_Mod_centsNow_7 : decode b_Mod_centsNow 7 = .ok (.aload_n 0, 1) := by decide +kernel
theorem d_Mod_centsNow_8 : decode b_Mod_centsNow 8 = .ok (.getfield 150, 3) := by decide +kernel
theorem d_Mod_centsNow_11 : decode b_Mod_centsNow 11 = .ok (.lmul, 1) := by decide +kernel
theorem d_Mod_centsNow_12 : decode b_Mod_centsNow 12 = .ok (.aload_n 0, 1) := by decide +kernel
theorem d_Mod_centsNow_13 : decode b_Mod_centsNow 13 = .ok (.getfield 153, 3) := by decide +kernel
theorem d_Mod_centsNow_16 : decode b_Mod_centsNow 16 = .ok (.ladd, 1) := by decide +kernel
theorem d_Mod_centsNow_17 : decode b_Mod_centsNow 17 = .ok (.ldc2_w 142, 3) := by decide +kernel
theorem d_Mod_centsNow_20 : decode b_Mod_centsNow 20 = .ok (.aload_n 0, 1) := by decide +kernel
theorem d_Mod_centsNow_21 : decode b_Mod_centsNow 21 = .ok (.getfield 153, 3) := by decide +kernel
theorem d_Mod_centsNow_24 : decode b_Mod_centsNow 24 = .ok (.lmul, 1) := by decide +kernel
theorem d_Mod_centsNow_25 : decode b_Mod_centsNow 25 = .ok (.invokestatic 144, 3) := by decide +kernel
theorem d_Mod_centsNow_28 : decode b_Mod_centsNow 28 = .ok (.lreturn, 1) := by decide +kernel
theorem d_Mod_line_0 : decode b_Mod_line 0 = .ok (.aload_n 0, 1) := by decide +kernel
theorem d_Mod_line_1 : decode b_Mod_line 1 = .ok (.iload_n 1, 1) := by decide +kernel
theorem d_Mod_line_2 : decode b_Mod_line 2 = .ok (.i2l, 1) := by decide +kernel
theorem d_Mod_line_3 : decode b_Mod_line 3 = .ok (.lconst 0, 1) := by decide +kernel
theorem d_Mod_line_4 : decode b_Mod_line 4 = .ok (.aload_n 0, 1) := by decide +kernel
theorem d_Mod_line_5 : decode b_Mod_line 5 = .ok (.getfield 111, 3) := by decide +kernel
theorem d_Mod_line_8 : decode b_Mod_line 8 = .ok (.i2l, 1) := by decide +kernel
theorem d_Mod_line_9 : decode b_Mod_line 9 = .ok (.lconst 1, 1) := by decide +kernel
theorem d_Mod_line_10 : decode b_Mod_line 10 = .ok (.lsub, 1) := by decide +kernel
theorem d_Mod_line_11 : decode b_Mod_line 11 = .ok (.invokestatic 86, 3) := by decide +kernel
theorem d_Mod_line_14 : decode b_Mod_line 14 = .ok (.ifCond .eq 19, 3) := by decide +kernel
theorem d_Mod_line_17 : decode b_Mod_line 17 = .ok (.iload_n 2, 1) := by decide +kernel
theorem d_Mod_line_18 : decode b_Mod_line 18 = .ok (.i2l, 1) := by decide +kernel
theorem d_Mod_line_19 : decode b_Mod_line 19 = .ok (.lconst 0, 1) := by decide +kernel
theorem d_Mod_line_20 : decode b_Mod_line 20 = .ok (.ldc2_w 193, 3) := by decide +kernel
theorem d_Mod_line_23 : decode b_Mod_line 23 = .ok (.invokestatic 86, 3) := by decide +kernel
theorem d_Mod_line_26 : decode b_Mod_line 26 = .ok (.ifCond .eq 7, 3) := by decide +kernel
theorem d_Mod_line_29 : decode b_Mod_line 29 = .ok (.iconst 0, 1) := by decide +kernel
theorem d_Mod_line_30 : decode b_Mod_line 30 = .ok (.goto 4, 3) := by decide +kernel
theorem d_Mod_line_33 : decode b_Mod_line 33 = .ok (.iconst 1, 1) := by decide +kernel
theorem d_Mod_line_34 : decode b_Mod_line 34 = .ok (.putfield 78, 3) := by decide +kernel
theorem d_Mod_line_37 : decode b_Mod_line 37 = .ok (.aload_n 0, 1) := by decide +kernel
theorem d_Mod_line_38 : decode b_Mod_line 38 = .ok (.getfield 78, 3) := by decide +kernel
theorem d_Mod_line_41 : decode b_Mod_line 41 = .ok (.ifCond .le 5, 3) := by decide +kernel
theorem d_Mod_line_44 : decode b_Mod_line 44 = .ok (.lconst 0, 1) := by decide +kernel
theorem d_Mod_line_45 : decode b_Mod_line 45 = .ok (.lreturn, 1) := by decide +kernel
theorem d_Mod_line_46 : decode b_Mod_line 46 = .ok (.aload_n 0, 1) := by decide +kernel
theorem d_Mod_line_47 : decode b_Mod_line 47 = .ok (.invokevirtual 169, 3) := by decide +kernel
theorem d_Mod_line_50 : decode b_Mod_line 50 = .ok (.iload_n 2, 1) := by decide +kernel
theorem d_Mod_line_51 : decode b_Mod_line 51 = .ok (.ifCond .ne 12, 3) := by decide +kernel
theorem d_Mod_line_54 : decode b_Mod_line 54 = .ok (.aload_n 0, 1) := by decide +kernel
theorem d_Mod_line_55 : decode b_Mod_line 55 = .ok (.getfield 42, 3) := by decide +kernel
theorem d_Mod_line_58 : decode b_Mod_line 58 = .ok (.iload_n 1, 1) := by decide +kernel
theorem d_Mod_line_59 : decode b_Mod_line 59 = .ok (.laload, 1) := by decide +kernel
theorem d_Mod_line_60 : decode b_Mod_line 60 = .ok (.goto 39, 3) := by decide +kernel
theorem d_Mod_line_63 : decode b_Mod_line 63 = .ok (.iload_n 2, 1) := by decide +kernel
theorem d_Mod_line_64 : decode b_Mod_line 64 = .ok (.iconst 1, 1) := by decide +kernel
theorem d_Mod_line_65 : decode b_Mod_line 65 = .ok (.if_icmp .ne 12, 3) := by decide +kernel
theorem d_Mod_line_68 : decode b_Mod_line 68 = .ok (.aload_n 0, 1) := by decide +kernel
theorem d_Mod_line_69 : decode b_Mod_line 69 = .ok (.getfield 45, 3) := by decide +kernel
theorem d_Mod_line_72 : decode b_Mod_line 72 = .ok (.iload_n 1, 1) := by decide +kernel
theorem d_Mod_line_73 : decode b_Mod_line 73 = .ok (.laload, 1) := by decide +kernel
theorem d_Mod_line_74 : decode b_Mod_line 74 = .ok (.goto 25, 3) := by decide +kernel
theorem d_Mod_line_77 : decode b_Mod_line 77 = .ok (.iload_n 2, 1) := by decide +kernel
theorem d_Mod_line_78 : decode b_Mod_line 78 = .ok (.iconst 2, 1) := by decide +kernel
theorem d_Mod_line_79 : decode b_Mod_line 79 = .ok (.if_icmp .ne 13, 3) := by decide +kernel
theorem d_Mod_line_82 : decode b_Mod_line 82 = .ok (.aload_n 0, 1) := by decide +kernel
theorem d_Mod_line_83 : decode b_Mod_line 83 = .ok (.getfield 48, 3) := by decide +kernel
theorem d_Mod_line_86 : decode b_Mod_line 86 = .ok (.iload_n 1, 1) := by decide +kernel
theorem d_Mod_line_87 : decode b_Mod_line 87 = .ok (.iaload, 1) := by decide +kernel
theorem d_Mod_line_88 : decode b_Mod_line 88 = .ok (.i2l, 1) := by decide +kernel
theorem d_Mod_line_89 : decode b_Mod_line 89 = .ok (.goto 10, 3) := by decide +kernel
theorem d_Mod_line_92 : decode b_Mod_line 92 = .ok (.aload_n 0, 1) := by decide +kernel
theorem d_Mod_line_93 : decode b_Mod_line 93 = .ok (.getfield 51, 3) := by decide +kernel
theorem d_Mod_line_96 : decode b_Mod_line 96 = .ok (.iload_n 1, 1) := by decide +kernel
theorem d_Mod_line_97 : decode b_Mod_line 97 = .ok (.iaload, 1) := by decide +kernel
theorem d_Mod_line_98 : decode b_Mod_line 98 = .ok (.i2l, 1) := by decide +kernel
theorem d_Mod_line_99 : decode b_Mod_line 99 = .ok (.lreturn, 1) := by decide +kernel
theorem d_Mod_changed_0 : decode b_Mod_changed 0 = .ok (.aload_n 0, 1) := by decide +kernel
theorem d_Mod_changed_1 : decode b_Mod_changed 1 = .ok (.aload_n 0, 1) := by decide +kernel
theorem d_Mod_changed_2 : decode b_Mod_changed 2 = .ok (.iload_n 1, 1) := by decide +kernel
theorem d_Mod_changed_3 : decode b_Mod_changed 3 = .ok (.iload_n 2, 1) := by decide +kernel
theorem d_Mod_changed_4 : decode b_Mod_changed 4 = .ok (.iload_n 3, 1) := by decide +kernel
theorem d_Mod_changed_5 : decode b_Mod_changed 5 = .ok (.invokevirtual 181, 3) := by decide +kernel
theorem d_Mod_changed_8 : decode b_Mod_changed 8 = .ok (.putfield 78, 3) := by decide +kernel
theorem d_Mod_changed_11 : decode b_Mod_changed 11 = .ok (.aload_n 0, 1) := by decide +kernel
theorem d_Mod_changed_12 : decode b_Mod_changed 12 = .ok (.getfield 78, 3) := by decide +kernel
theorem d_Mod_changed_15 : decode b_Mod_changed 15 = .ok (.ifCond .le 5, 3) := by decide +kernel
theorem d_Mod_changed_18 : decode b_Mod_changed 18 = .ok (.lconst 0, 1) := by decide +kernel
theorem d_Mod_changed_19 : decode b_Mod_changed 19 = .ok (.lreturn, 1) := by decide +kernel
theorem d_Mod_changed_20 : decode b_Mod_changed 20 = .ok (.iload_n 1, 1) := by decide +kernel
theorem d_Mod_changed_21 : decode b_Mod_changed 21 = .ok (.bipush 97, 2) := by decide +kernel
theorem d_Mod_changed_23 : decode b_Mod_changed 23 = .ok (.isub, 1) := by decide +kernel
theorem d_Mod_changed_24 : decode b_Mod_changed 24 = .ok (.istore 4, 2) := by decide +kernel
theorem d_Mod_changed_26 : decode b_Mod_changed 26 = .ok (.aload_n 0, 1) := by decide +kernel
theorem d_Mod_changed_27 : decode b_Mod_changed 27 = .ok (.invokevirtual 189, 3) := by decide +kernel
theorem d_Mod_changed_30 : decode b_Mod_changed 30 = .ok (.lstore 5, 2) := by decide +kernel
theorem d_Mod_changed_32 : decode b_Mod_changed 32 = .ok (.aload_n 0, 1) := by decide +kernel
theorem d_Mod_changed_33 : decode b_Mod_changed 33 = .ok (.getfield 32, 3) := by decide +kernel
theorem d_Mod_changed_36 : decode b_Mod_changed 36 = .ok (.iload 4, 2) := by decide +kernel
theorem d_Mod_changed_38 : decode b_Mod_changed 38 = .ok (.baload, 1) := by decide +kernel
theorem d_Mod_changed_39 : decode b_Mod_changed 39 = .ok (.istore 7, 2) := by decide +kernel
theorem d_Mod_changed_41 : decode b_Mod_changed 41 = .ok (.aload_n 0, 1) := by decide +kernel
theorem d_Mod_changed_42 : decode b_Mod_changed 42 = .ok (.getfield 25, 3) := by decide +kernel
theorem d_Mod_changed_45 : decode b_Mod_changed 45 = .ok (.iload 4, 2) := by decide +kernel
theorem d_Mod_changed_47 : decode b_Mod_changed 47 = .ok (.laload, 1) := by decide +kernel
theorem d_Mod_changed_48 : decode b_Mod_changed 48 = .ok (.lstore 8, 2) := by decide +kernel
theorem d_Mod_changed_50 : decode b_Mod_changed 50 = .ok (.aload_n 0, 1) := by decide +kernel
theorem d_Mod_changed_51 : decode b_Mod_changed 51 = .ok (.getfield 29, 3) := by decide +kernel
theorem d_Mod_changed_54 : decode b_Mod_changed 54 = .ok (.iload 4, 2) := by decide +kernel
theorem d_Mod_changed_56 : decode b_Mod_changed 56 = .ok (.laload, 1) := by decide +kernel
theorem d_Mod_changed_57 : decode b_Mod_changed 57 = .ok (.lstore 10, 2) := by decide +kernel
theorem d_Mod_changed_59 : decode b_Mod_changed 59 = .ok (.aload_n 0, 1) := by decide +kernel
theorem d_Mod_changed_60 : decode b_Mod_changed 60 = .ok (.iload 4, 2) := by decide +kernel
theorem d_Mod_changed_62 : decode b_Mod_changed 62 = .ok (.iload_n 2, 1) := by decide +kernel
theorem d_Mod_changed_63 : decode b_Mod_changed 63 = .ok (.iload_n 3, 1) := by decide +kernel
theorem d_Mod_changed_64 : decode b_Mod_changed 64 = .ok (.invokevirtual 185, 3) := by decide +kernel
theorem d_Mod_changed_67 : decode b_Mod_changed 67 = .ok (.aload_n 0, 1) := by decide +kernel
theorem d_Mod_changed_68 : decode b_Mod_changed 68 = .ok (.invokevirtual 189, 3) := by decide +kernel
theorem d_Mod_changed_71 : decode b_Mod_changed 71 = .ok (.lstore 12, 2) := by decide +kernel
theorem d_Mod_changed_73 : decode b_Mod_changed 73 = .ok (.aload_n 0, 1) := by decide +kernel
theorem d_Mod_changed_74 : decode b_Mod_changed 74 = .ok (.getfield 32, 3) := by decide +kernel
theorem d_Mod_changed_77 : decode b_Mod_changed 77 = .ok (.iload 4, 2) := by decide +kernel
theorem d_Mod_changed_79 : decode b_Mod_changed 79 = .ok (.iload 7, 2) := by decide +kernel
theorem d_Mod_changed_81 : decode b_Mod_changed 81 = .ok (.bastore, 1) := by decide +kernel
theorem d_Mod_changed_82 : decode b_Mod_changed 82 = .ok (.aload_n 0, 1) := by decide +kernel
theorem d_Mod_changed_83 : decode b_Mod_changed 83 = .ok (.getfield 25, 3) := by decide +kernel
theorem d_Mod_changed_86 : decode b_Mod_changed 86 = .ok (.iload 4, 2) := by decide +kernel
theorem d_Mod_changed_88 : decode b_Mod_changed 88 = .ok (.lload 8, 2) := by decide +kernel
theorem d_Mod_changed_90 : decode b_Mod_changed 90 = .ok (.lastore, 1) := by decide +kernel
theorem d_Mod_changed_91 : decode b_Mod_changed 91 = .ok (.aload_n 0, 1) := by decide +kernel
theorem d_Mod_changed_92 : decode b_Mod_changed 92 = .ok (.getfield 29, 3) := by decide +kernel
theorem d_Mod_changed_95 : decode b_Mod_changed 95 = .ok (.iload 4, 2) := by decide +kernel
theorem d_Mod_changed_97 : decode b_Mod_changed 97 = .ok (.lload 10, 2) := by decide +kernel
theorem d_Mod_changed_99 : decode b_Mod_changed 99 = .ok (.lastore, 1) := by decide +kernel
theorem d_Mod_changed_100 : decode b_Mod_changed 100 = .ok (.lload 12, 2) := by decide +kernel
theorem d_Mod_changed_102 : decode b_Mod_changed 102 = .ok (.lload 5, 2) := by decide +kernel
theorem d_Mod_changed_104 : decode b_Mod_changed 104 = .ok (.lsub, 1) := by decide +kernel
theorem d_Mod_changed_105 : decode b_Mod_changed 105 = .ok (.lreturn, 1) := by decide +kernel
theorem d_Mod_currency_0 : decode b_Mod_currency 0 = .ok (.iload_n 1, 1) := by decide +kernel
theorem d_Mod_currency_1 : decode b_Mod_currency 1 = .ok (.i2l, 1) := by decide +kernel
theorem d_Mod_currency_2 : decode b_Mod_currency 2 = .ok (.lconst 0, 1) := by decide +kernel
theorem d_Mod_currency_3 : decode b_Mod_currency 3 = .ok (.ldc2_w 175, 3) := by decide +kernel
theorem d_Mod_currency_6 : decode b_Mod_currency 6 = .ok (.invokestatic 86, 3) := by decide +kernel
theorem d_Mod_currency_9 : decode b_Mod_currency 9 = .ok (.ifCond .eq 53, 3) := by decide +kernel
theorem d_Mod_currency_12 : decode b_Mod_currency 12 = .ok (.aload_n 0, 1) := by decide +kernel
theorem d_Mod_currency_13 : decode b_Mod_currency 13 = .ok (.getfield 195, 3) := by decide +kernel
theorem d_Mod_currency_16 : decode b_Mod_currency 16 = .ok (.ifCond .eq 18, 3) := by decide +kernel
theorem d_Mod_currency_19 : decode b_Mod_currency 19 = .ok (.iload_n 1, 1) := by decide +kernel
theorem d_Mod_currency_20 : decode b_Mod_currency 20 = .ok (.aload_n 0, 1) := by decide +kernel
theorem d_Mod_currency_21 : decode b_Mod_currency 21 = .ok (.getfield 54, 3) := by decide +kernel
theorem d_Mod_currency_24 : decode b_Mod_currency 24 = .ok (.aload_n 0, 1) := by decide +kernel
theorem d_Mod_currency_25 : decode b_Mod_currency 25 = .ok (.getfield 195, 3) := by decide +kernel
theorem d_Mod_currency_28 : decode b_Mod_currency 28 = .ok (.iconst 1, 1) := by decide +kernel
theorem d_Mod_currency_29 : decode b_Mod_currency 29 = .ok (.isub, 1) := by decide +kernel
theorem d_Mod_currency_30 : decode b_Mod_currency 30 = .ok (.iaload, 1) := by decide +kernel
theorem d_Mod_currency_31 : decode b_Mod_currency 31 = .ok (.if_icmp .le 31, 3) := by decide +kernel
theorem d_Mod_currency_34 : decode b_Mod_currency 34 = .ok (.iload_n 2, 1) := by decide +kernel
theorem d_Mod_currency_35 : decode b_Mod_currency 35 = .ok (.i2l, 1) := by decide +kernel
theorem d_Mod_currency_36 : decode b_Mod_currency 36 = .ok (.lconst 1, 1) := by decide +kernel
theorem d_Mod_currency_37 : decode b_Mod_currency 37 = .ok (.ldc2_w 198, 3) := by decide +kernel
theorem d_Mod_currency_40 : decode b_Mod_currency 40 = .ok (.invokestatic 86, 3) := by decide +kernel
theorem d_Mod_currency_43 : decode b_Mod_currency 43 = .ok (.ifCond .eq 19, 3) := by decide +kernel
theorem d_Mod_currency_46 : decode b_Mod_currency 46 = .ok (.iload_n 3, 1) := by decide +kernel
theorem d_Mod_currency_47 : decode b_Mod_currency 47 = .ok (.i2l, 1) := by decide +kernel
theorem d_Mod_currency_48 : decode b_Mod_currency 48 = .ok (.lconst 1, 1) := by decide +kernel
theorem d_Mod_currency_49 : decode b_Mod_currency 49 = .ok (.ldc2_w 198, 3) := by decide +kernel
theorem d_Mod_currency_52 : decode b_Mod_currency 52 = .ok (.invokestatic 86, 3) := by decide +kernel
theorem d_Mod_currency_55 : decode b_Mod_currency 55 = .ok (.ifCond .eq 7, 3) := by decide +kernel
theorem d_Mod_currency_58 : decode b_Mod_currency 58 = .ok (.iconst 1, 1) := by decide +kernel
theorem d_Mod_currency_59 : decode b_Mod_currency 59 = .ok (.goto 4, 3) := by decide +kernel
theorem d_Mod_currency_62 : decode b_Mod_currency 62 = .ok (.iconst 0, 1) := by decide +kernel
theorem d_Mod_currency_63 : decode b_Mod_currency 63 = .ok (.istore 4, 2) := by decide +kernel
theorem d_Mod_currency_65 : decode b_Mod_currency 65 = .ok (.aload_n 0, 1) := by decide +kernel
theorem d_Mod_currency_66 : decode b_Mod_currency 66 = .ok (.iload 4, 2) := by decide +kernel
theorem d_Mod_currency_68 : decode b_Mod_currency 68 = .ok (.ifCond .ne 7, 3) := by decide +kernel
theorem d_Mod_currency_71 : decode b_Mod_currency 71 = .ok (.iconst 1, 1) := by decide +kernel
theorem d_Mod_currency_72 : decode b_Mod_currency 72 = .ok (.goto 17, 3) := by decide +kernel
theorem d_Mod_currency_75 : decode b_Mod_currency 75 = .ok (.aload_n 0, 1) := by decide +kernel
theorem d_Mod_currency_76 : decode b_Mod_currency 76 = .ok (.getfield 195, 3) := by decide +kernel
theorem d_Mod_currency_79 : decode b_Mod_currency 79 = .ok (.bipush 8, 2) := by decide +kernel
theorem d_Mod_currency_81 : decode b_Mod_currency 81 = .ok (.if_icmp .ne 7, 3) := by decide +kernel
theorem d_Mod_currency_84 : decode b_Mod_currency 84 = .ok (.iconst 2, 1) := by decide +kernel
theorem d_Mod_currency_85 : decode b_Mod_currency 85 = .ok (.goto 4, 3) := by decide +kernel
theorem d_Mod_currency_88 : decode b_Mod_currency 88 = .ok (.iconst 0, 1) := by decide +kernel
theorem d_Mod_currency_89 : decode b_Mod_currency 89 = .ok (.putfield 78, 3) := by decide +kernel
theorem d_Mod_currency_92 : decode b_Mod_currency 92 = .ok (.aload_n 0, 1) := by decide +kernel
theorem d_Mod_currency_93 : decode b_Mod_currency 93 = .ok (.getfield 78, 3) := by decide +kernel
theorem d_Mod_currency_96 : decode b_Mod_currency 96 = .ok (.ifCond .le 5, 3) := by decide +kernel
theorem d_Mod_currency_99 : decode b_Mod_currency 99 = .ok (.iconst 0, 1) := by decide +kernel
theorem d_Mod_currency_100 : decode b_Mod_currency 100 = .ok (.ireturn, 1) := by decide +kernel
theorem d_Mod_currency_101 : decode b_Mod_currency 101 = .ok (.aload_n 0, 1) := by decide +kernel
theorem d_Mod_currency_102 : decode b_Mod_currency 102 = .ok (.getfield 54, 3) := by decide +kernel
theorem d_Mod_currency_105 : decode b_Mod_currency 105 = .ok (.aload_n 0, 1) := by decide +kernel
theorem d_Mod_currency_106 : decode b_Mod_currency 106 = .ok (.getfield 195, 3) := by decide +kernel
theorem d_Mod_currency_109 : decode b_Mod_currency 109 = .ok (.iload_n 1, 1) := by decide +kernel
theorem d_Mod_currency_110 : decode b_Mod_currency 110 = .ok (.iastore, 1) := by decide +kernel
theorem d_Mod_currency_111 : decode b_Mod_currency 111 = .ok (.aload_n 0, 1) := by decide +kernel
theorem d_Mod_currency_112 : decode b_Mod_currency 112 = .ok (.getfield 57, 3) := by decide +kernel
theorem d_Mod_currency_115 : decode b_Mod_currency 115 = .ok (.aload_n 0, 1) := by decide +kernel
theorem d_Mod_currency_116 : decode b_Mod_currency 116 = .ok (.getfield 195, 3) := by decide +kernel
theorem d_Mod_currency_119 : decode b_Mod_currency 119 = .ok (.iload_n 2, 1) := by decide +kernel
theorem d_Mod_currency_120 : decode b_Mod_currency 120 = .ok (.iastore, 1) := by decide +kernel
theorem d_Mod_currency_121 : decode b_Mod_currency 121 = .ok (.aload_n 0, 1) := by decide +kernel
theorem d_Mod_currency_122 : decode b_Mod_currency 122 = .ok (.getfield 60, 3) := by decide +kernel
theorem d_Mod_currency_125 : decode b_Mod_currency 125 = .ok (.aload_n 0, 1) := by decide +kernel
theorem d_Mod_currency_126 : decode b_Mod_currency 126 = .ok (.getfield 195, 3) := by decide +kernel
theorem d_Mod_currency_129 : decode b_Mod_currency 129 = .ok (.iload_n 3, 1) := by decide +kernel
theorem d_Mod_currency_130 : decode b_Mod_currency 130 = .ok (.iastore, 1) := by decide +kernel
theorem d_Mod_currency_131 : decode b_Mod_currency 131 = .ok (.aload_n 0, 1) := by decide +kernel
theorem d_Mod_currency_132 : decode b_Mod_currency 132 = .ok (.dup, 1) := by decide +kernel
theorem d_Mod_currency_133 : decode b_Mod_currency 133 = .ok (.getfield 195, 3) := by decide +kernel
theorem d_Mod_currency_136 : decode b_Mod_currency 136 = .ok (.iconst 1, 1) := by decide +kernel
theorem d_Mod_currency_137 : decode b_Mod_currency 137 = .ok (.iadd, 1) := by decide +kernel
theorem d_Mod_currency_138 : decode b_Mod_currency 138 = .ok (.putfield 195, 3) := by decide +kernel
theorem d_Mod_currency_141 : decode b_Mod_currency 141 = .ok (.aload_n 0, 1) := by decide +kernel
theorem d_Mod_currency_142 : decode b_Mod_currency 142 = .ok (.getfield 195, 3) := by decide +kernel
theorem d_Mod_currency_145 : decode b_Mod_currency 145 = .ok (.ireturn, 1) := by decide +kernel
theorem d_Mod_centsAt_0 : decode b_Mod_centsAt 0 = .ok (.aload_n 0, 1) := by decide +kernel
theorem d_Mod_centsAt_1 : decode b_Mod_centsAt 1 = .ok (.iload_n 1, 1) := by decide +kernel
theorem d_Mod_centsAt_2 : decode b_Mod_centsAt 2 = .ok (.i2l, 1) := by decide +kernel
theorem d_Mod_centsAt_3 : decode b_Mod_centsAt 3 = .ok (.lconst 0, 1) := by decide +kernel
theorem d_Mod_centsAt_4 : decode b_Mod_centsAt 4 = .ok (.ldc2_w 175, 3) := by decide +kernel
theorem d_Mod_centsAt_7 : decode b_Mod_centsAt 7 = .ok (.invokestatic 86, 3) := by decide +kernel
theorem d_Mod_centsAt_10 : decode b_Mod_centsAt 10 = .ok (.ifCond .eq 7, 3) := by decide +kernel
theorem d_Mod_centsAt_13 : decode b_Mod_centsAt 13 = .ok (.iconst 0, 1) := by decide +kernel
theorem d_Mod_centsAt_14 : decode b_Mod_centsAt 14 = .ok (.goto 4, 3) := by decide +kernel
theorem d_Mod_centsAt_17 : decode b_Mod_centsAt 17 = .ok (.iconst 1, 1) := by decide +kernel
theorem d_Mod_centsAt_18 : decode b_Mod_centsAt 18 = .ok (.putfield 78, 3) := by decide +kernel
theorem d_Mod_centsAt_21 : decode b_Mod_centsAt 21 = .ok (.aload_n 0, 1) := by decide +kernel
theorem d_Mod_centsAt_22 : decode b_Mod_centsAt 22 = .ok (.getfield 78, 3) := by decide +kernel
theorem d_Mod_centsAt_25 : decode b_Mod_centsAt 25 = .ok (.ifCond .le 7, 3) := by decide +kernel
theorem d_Mod_centsAt_28 : decode b_Mod_centsAt 28 = .ok (.lconst 0, 1) := by decide +kernel
theorem d_Mod_centsAt_29 : decode b_Mod_centsAt 29 = .ok (.goto 12, 3) := by decide +kernel
theorem d_Mod_centsAt_32 : decode b_Mod_centsAt 32 = .ok (.aload_n 0, 1) := by decide +kernel
theorem d_Mod_centsAt_33 : decode b_Mod_centsAt 33 = .ok (.aload_n 0, 1) := by decide +kernel
theorem d_Mod_centsAt_34 : decode b_Mod_centsAt 34 = .ok (.invokevirtual 189, 3) := by decide +kernel
theorem d_Mod_centsAt_37 : decode b_Mod_centsAt 37 = .ok (.iload_n 1, 1) := by decide +kernel
theorem d_Mod_centsAt_38 : decode b_Mod_centsAt 38 = .ok (.invokevirtual 200, 3) := by decide +kernel
theorem d_Mod_centsAt_41 : decode b_Mod_centsAt 41 = .ok (.lreturn, 1) := by decide +kernel
theorem d_Mod_at_0 : decode b_Mod_at 0 = .ok (.lload_n 1, 1) := by decide +kernel
theorem d_Mod_at_1 : decode b_Mod_at 1 = .ok (.lstore 4, 2) := by decide +kernel
theorem d_Mod_at_3 : decode b_Mod_at 3 = .ok (.iconst 0, 1) := by decide +kernel
theorem d_Mod_at_4 : decode b_Mod_at 4 = .ok (.istore 6, 2) := by decide +kernel
theorem d_Mod_at_6 : decode b_Mod_at 6 = .ok (.iload 6, 2) := by decide +kernel
theorem d_Mod_at_8 : decode b_Mod_at 8 = .ok (.aload_n 0, 1) := by decide +kernel
theorem d_Mod_at_9 : decode b_Mod_at 9 = .ok (.getfield 195, 3) := by decide +kernel
theorem d_Mod_at_12 : decode b_Mod_at 12 = .ok (.if_icmp .ge 48, 3) := by decide +kernel
theorem d_Mod_at_15 : decode b_Mod_at 15 = .ok (.aload_n 0, 1) := by decide +kernel
theorem d_Mod_at_16 : decode b_Mod_at 16 = .ok (.getfield 54, 3) := by decide +kernel
theorem d_Mod_at_19 : decode b_Mod_at 19 = .ok (.iload 6, 2) := by decide +kernel
theorem d_Mod_at_21 : decode b_Mod_at 21 = .ok (.iaload, 1) := by decide +kernel
theorem d_Mod_at_22 : decode b_Mod_at 22 = .ok (.iload_n 3, 1) := by decide +kernel
theorem d_Mod_at_23 : decode b_Mod_at 23 = .ok (.if_icmp .gt 27, 3) := by decide +kernel
theorem d_Mod_at_26 : decode b_Mod_at 26 = .ok (.lload_n 1, 1) := by decide +kernel
theorem d_Mod_at_27 : decode b_Mod_at 27 = .ok (.aload_n 0, 1) := by decide +kernel
theorem d_Mod_at_28 : decode b_Mod_at 28 = .ok (.getfield 57, 3) := by decide +kernel
theorem d_Mod_at_31 : decode b_Mod_at 31 = .ok (.iload 6, 2) := by decide +kernel
theorem d_Mod_at_33 : decode b_Mod_at 33 = .ok (.iaload, 1) := by decide +kernel
theorem d_Mod_at_34 : decode b_Mod_at 34 = .ok (.i2l, 1) := by decide +kernel
theorem d_Mod_at_35 : decode b_Mod_at 35 = .ok (.lmul, 1) := by decide +kernel
theorem d_Mod_at_36 : decode b_Mod_at 36 = .ok (.aload_n 0, 1) := by decide +kernel
theorem d_Mod_at_37 : decode b_Mod_at 37 = .ok (.getfield 60, 3) := by decide +kernel
theorem d_Mod_at_40 : decode b_Mod_at 40 = .ok (.iload 6, 2) := by decide +kernel
theorem d_Mod_at_42 : decode b_Mod_at 42 = .ok (.iaload, 1) := by decide +kernel
theorem d_Mod_at_43 : decode b_Mod_at 43 = .ok (.i2l, 1) := by decide +kernel
theorem d_Mod_at_44 : decode b_Mod_at 44 = .ok (.invokestatic 144, 3) := by decide +kernel
theorem d_Mod_at_47 : decode b_Mod_at 47 = .ok (.goto 5, 3) := by decide +kernel
theorem d_Mod_at_50 : decode b_Mod_at 50 = .ok (.lload 4, 2) := by decide +kernel
theorem d_Mod_at_52 : decode b_Mod_at 52 = .ok (.lstore 4, 2) := by decide +kernel
theorem d_Mod_at_54 : decode b_Mod_at 54 = .ok (.iinc 6 1, 3) := by decide +kernel
theorem d_Mod_at_57 : decode b_Mod_at 57 = .ok (.goto (-51), 3) := by decide +kernel
theorem d_Mod_at_60 : decode b_Mod_at 60 = .ok (.lload 4, 2) := by decide +kernel
theorem d_Mod_at_62 : decode b_Mod_at 62 = .ok (.lreturn, 1) := by decide +kernel
theorem d_Mod_offer_0 : decode b_Mod_offer 0 = .ok (.aload_n 0, 1) := by decide +kernel
theorem d_Mod_offer_1 : decode b_Mod_offer 1 = .ok (.iload_n 1, 1) := by decide +kernel
theorem d_Mod_offer_2 : decode b_Mod_offer 2 = .ok (.i2l, 1) := by decide +kernel
theorem d_Mod_offer_3 : decode b_Mod_offer 3 = .ok (.lconst 0, 1) := by decide +kernel
theorem d_Mod_offer_4 : decode b_Mod_offer 4 = .ok (.ldc2_w 175, 3) := by decide +kernel
theorem d_Mod_offer_7 : decode b_Mod_offer 7 = .ok (.invokestatic 86, 3) := by decide +kernel
theorem d_Mod_offer_10 : decode b_Mod_offer 10 = .ok (.ifCond .eq 7, 3) := by decide +kernel
theorem d_Mod_offer_13 : decode b_Mod_offer 13 = .ok (.iconst 0, 1) := by decide +kernel
theorem d_Mod_offer_14 : decode b_Mod_offer 14 = .ok (.goto 4, 3) := by decide +kernel
theorem d_Mod_offer_17 : decode b_Mod_offer 17 = .ok (.iconst 1, 1) := by decide +kernel
theorem d_Mod_offer_18 : decode b_Mod_offer 18 = .ok (.putfield 78, 3) := by decide +kernel
theorem d_Mod_offer_21 : decode b_Mod_offer 21 = .ok (.aload_n 0, 1) := by decide +kernel
theorem d_Mod_offer_22 : decode b_Mod_offer 22 = .ok (.getfield 78, 3) := by decide +kernel
theorem d_Mod_offer_25 : decode b_Mod_offer 25 = .ok (.ifCond .ne 24, 3) := by decide +kernel
theorem d_Mod_offer_28 : decode b_Mod_offer 28 = .ok (.aload_n 0, 1) := by decide +kernel
theorem d_Mod_offer_29 : decode b_Mod_offer 29 = .ok (.getfield 204, 3) := by decide +kernel
theorem d_Mod_offer_32 : decode b_Mod_offer 32 = .ok (.bipush 8, 2) := by decide +kernel
theorem d_Mod_offer_34 : decode b_Mod_offer 34 = .ok (.if_icmp .eq 10, 3) := by decide +kernel
theorem d_Mod_offer_37 : decode b_Mod_offer 37 = .ok (.aload_n 0, 1) := by decide +kernel
theorem d_Mod_offer_38 : decode b_Mod_offer 38 = .ok (.invokevirtual 207, 3) := by decide +kernel
theorem d_Mod_offer_41 : decode b_Mod_offer 41 = .ok (.ifCond .le 8, 3) := by decide +kernel
theorem d_Mod_offer_44 : decode b_Mod_offer 44 = .ok (.aload_n 0, 1) := by decide +kernel
theorem d_Mod_offer_45 : decode b_Mod_offer 45 = .ok (.iconst 2, 1) := by decide +kernel
theorem d_Mod_offer_46 : decode b_Mod_offer 46 = .ok (.putfield 78, 3) := by decide +kernel
theorem d_Mod_offer_49 : decode b_Mod_offer 49 = .ok (.aload_n 0, 1) := by decide +kernel
theorem d_Mod_offer_50 : decode b_Mod_offer 50 = .ok (.getfield 78, 3) := by decide +kernel
theorem d_Mod_offer_53 : decode b_Mod_offer 53 = .ok (.ifCond .le 5, 3) := by decide +kernel
theorem d_Mod_offer_56 : decode b_Mod_offer 56 = .ok (.iconst 0, 1) := by decide +kernel
theorem d_Mod_offer_57 : decode b_Mod_offer 57 = .ok (.ireturn, 1) := by decide +kernel
theorem d_Mod_offer_58 : decode b_Mod_offer 58 = .ok (.aload_n 0, 1) := by decide +kernel
theorem d_Mod_offer_59 : decode b_Mod_offer 59 = .ok (.getfield 63, 3) := by decide +kernel
theorem d_Mod_offer_62 : decode b_Mod_offer 62 = .ok (.aload_n 0, 1) := by decide +kernel
theorem d_Mod_offer_63 : decode b_Mod_offer 63 = .ok (.getfield 204, 3) := by decide +kernel
theorem d_Mod_offer_66 : decode b_Mod_offer 66 = .ok (.aload_n 0, 1) := by decide +kernel
theorem d_Mod_offer_67 : decode b_Mod_offer 67 = .ok (.invokevirtual 189, 3) := by decide +kernel
theorem d_Mod_offer_70 : decode b_Mod_offer 70 = .ok (.lastore, 1) := by decide +kernel
theorem d_Mod_offer_71 : decode b_Mod_offer 71 = .ok (.aload_n 0, 1) := by decide +kernel
theorem d_Mod_offer_72 : decode b_Mod_offer 72 = .ok (.getfield 66, 3) := by decide +kernel
theorem d_Mod_offer_75 : decode b_Mod_offer 75 = .ok (.aload_n 0, 1) := by decide +kernel
theorem d_Mod_offer_76 : decode b_Mod_offer 76 = .ok (.getfield 204, 3) := by decide +kernel
theorem d_Mod_offer_79 : decode b_Mod_offer 79 = .ok (.iload_n 1, 1) := by decide +kernel
theorem d_Mod_offer_80 : decode b_Mod_offer 80 = .ok (.iastore, 1) := by decide +kernel
theorem d_Mod_offer_81 : decode b_Mod_offer 81 = .ok (.aload_n 0, 1) := by decide +kernel
theorem d_Mod_offer_82 : decode b_Mod_offer 82 = .ok (.dup, 1) := by decide +kernel
theorem d_Mod_offer_83 : decode b_Mod_offer 83 = .ok (.getfield 204, 3) := by decide +kernel
theorem d_Mod_offer_86 : decode b_Mod_offer 86 = .ok (.iconst 1, 1) := by decide +kernel
theorem d_Mod_offer_87 : decode b_Mod_offer 87 = .ok (.iadd, 1) := by decide +kernel
theorem d_Mod_offer_88 : decode b_Mod_offer 88 = .ok (.putfield 204, 3) := by decide +kernel
theorem d_Mod_offer_91 : decode b_Mod_offer 91 = .ok (.aload_n 0, 1) := by decide +kernel
theorem d_Mod_offer_92 : decode b_Mod_offer 92 = .ok (.getfield 204, 3) := by decide +kernel
theorem d_Mod_offer_95 : decode b_Mod_offer 95 = .ok (.iconst 1, 1) := by decide +kernel
theorem d_Mod_offer_96 : decode b_Mod_offer 96 = .ok (.isub, 1) := by decide +kernel
theorem d_Mod_offer_97 : decode b_Mod_offer 97 = .ok (.ireturn, 1) := by decide +kernel
theorem d_Mod_offered_0 : decode b_Mod_offered 0 = .ok (.aload_n 0, 1) := by decide +kernel
theorem d_Mod_offered_1 : decode b_Mod_offered 1 = .ok (.aload_n 0, 1) := by decide +kernel
theorem d_Mod_offered_2 : decode b_Mod_offered 2 = .ok (.iload_n 1, 1) := by decide +kernel
theorem d_Mod_offered_3 : decode b_Mod_offered 3 = .ok (.invokevirtual 210, 3) := by decide +kernel
theorem d_Mod_offered_6 : decode b_Mod_offered 6 = .ok (.ifCond .eq 7, 3) := by decide +kernel
theorem d_Mod_offered_9 : decode b_Mod_offered 9 = .ok (.iconst 1, 1) := by decide +kernel
theorem d_Mod_offered_10 : decode b_Mod_offered 10 = .ok (.goto 34, 3) := by decide +kernel
theorem d_Mod_offered_13 : decode b_Mod_offered 13 = .ok (.iload_n 2, 1) := by decide +kernel
theorem d_Mod_offered_14 : decode b_Mod_offered 14 = .ok (.i2l, 1) := by decide +kernel
theorem d_Mod_offered_15 : decode b_Mod_offered 15 = .ok (.lconst 0, 1) := by decide +kernel
theorem d_Mod_offered_16 : decode b_Mod_offered 16 = .ok (.ldc2_w 175, 3) := by decide +kernel
theorem d_Mod_offered_19 : decode b_Mod_offered 19 = .ok (.invokestatic 86, 3) := by decide +kernel
theorem d_Mod_offered_22 : decode b_Mod_offered 22 = .ok (.ifCond .ne 7, 3) := by decide +kernel
theorem d_Mod_offered_25 : decode b_Mod_offered 25 = .ok (.iconst 2, 1) := by decide +kernel
theorem d_Mod_offered_26 : decode b_Mod_offered 26 = .ok (.goto 18, 3) := by decide +kernel
theorem d_Mod_offered_29 : decode b_Mod_offered 29 = .ok (.iload_n 2, 1) := by decide +kernel
theorem d_Mod_offered_30 : decode b_Mod_offered 30 = .ok (.aload_n 0, 1) := by decide +kernel
theorem d_Mod_offered_31 : decode b_Mod_offered 31 = .ok (.getfield 66, 3) := by decide +kernel
theorem d_Mod_offered_34 : decode b_Mod_offered 34 = .ok (.iload_n 1, 1) := by decide +kernel
theorem d_Mod_offered_35 : decode b_Mod_offered 35 = .ok (.iaload, 1) := by decide +kernel
theorem d_Mod_offered_36 : decode b_Mod_offered 36 = .ok (.if_icmp .le 7, 3) := by decide +kernel
theorem d_Mod_offered_39 : decode b_Mod_offered 39 = .ok (.iconst 3, 1) := by decide +kernel
theorem d_Mod_offered_40 : decode b_Mod_offered 40 = .ok (.goto 4, 3) := by decide +kernel
theorem d_Mod_offered_43 : decode b_Mod_offered 43 = .ok (.iconst 0, 1) := by decide +kernel
theorem d_Mod_offered_44 : decode b_Mod_offered 44 = .ok (.putfield 78, 3) := by decide +kernel
theorem d_Mod_offered_47 : decode b_Mod_offered 47 = .ok (.aload_n 0, 1) := by decide +kernel
theorem d_Mod_offered_48 : decode b_Mod_offered 48 = .ok (.getfield 78, 3) := by decide +kernel
theorem d_Mod_offered_51 : decode b_Mod_offered 51 = .ok (.ifCond .le 7, 3) := by decide +kernel
theorem d_Mod_offered_54 : decode b_Mod_offered 54 = .ok (.lconst 0, 1) := by decide +kernel
theorem d_Mod_offered_55 : decode b_Mod_offered 55 = .ok (.goto 9, 3) := by decide +kernel
theorem d_Mod_offered_58 : decode b_Mod_offered 58 = .ok (.aload_n 0, 1) := by decide +kernel
theorem d_Mod_offered_59 : decode b_Mod_offered 59 = .ok (.getfield 63, 3) := by decide +kernel
theorem d_Mod_offered_62 : decode b_Mod_offered 62 = .ok (.iload_n 1, 1) := by decide +kernel
theorem d_Mod_offered_63 : decode b_Mod_offered 63 = .ok (.laload, 1) := by decide +kernel
theorem d_Mod_offered_64 : decode b_Mod_offered 64 = .ok (.lreturn, 1) := by decide +kernel
theorem d_Mod_noOffer_0 : decode b_Mod_noOffer 0 = .ok (.iload_n 1, 1) := by decide +kernel
theorem d_Mod_noOffer_1 : decode b_Mod_noOffer 1 = .ok (.ifCond .lt 11, 3) := by decide +kernel
theorem d_Mod_noOffer_4 : decode b_Mod_noOffer 4 = .ok (.iload_n 1, 1) := by decide +kernel
theorem d_Mod_noOffer_5 : decode b_Mod_noOffer 5 = .ok (.aload_n 0, 1) := by decide +kernel
theorem d_Mod_noOffer_6 : decode b_Mod_noOffer 6 = .ok (.getfield 204, 3) := by decide +kernel
theorem d_Mod_noOffer_9 : decode b_Mod_noOffer 9 = .ok (.if_icmp .lt 7, 3) := by decide +kernel
theorem d_Mod_noOffer_12 : decode b_Mod_noOffer 12 = .ok (.iconst 1, 1) := by decide +kernel
theorem d_Mod_noOffer_13 : decode b_Mod_noOffer 13 = .ok (.goto 4, 3) := by decide +kernel
theorem d_Mod_noOffer_16 : decode b_Mod_noOffer 16 = .ok (.iconst 0, 1) := by decide +kernel
theorem d_Mod_noOffer_17 : decode b_Mod_noOffer 17 = .ok (.ireturn, 1) := by decide +kernel
theorem d_Mod_differs_0 : decode b_Mod_differs 0 = .ok (.aload_n 0, 1) := by decide +kernel
theorem d_Mod_differs_1 : decode b_Mod_differs 1 = .ok (.aload_n 0, 1) := by decide +kernel
theorem d_Mod_differs_2 : decode b_Mod_differs 2 = .ok (.iload_n 1, 1) := by decide +kernel
theorem d_Mod_differs_3 : decode b_Mod_differs 3 = .ok (.invokevirtual 210, 3) := by decide +kernel
theorem d_Mod_differs_6 : decode b_Mod_differs 6 = .ok (.ifCond .ne 11, 3) := by decide +kernel
theorem d_Mod_differs_9 : decode b_Mod_differs 9 = .ok (.aload_n 0, 1) := by decide +kernel
theorem d_Mod_differs_10 : decode b_Mod_differs 10 = .ok (.iload_n 2, 1) := by decide +kernel
theorem d_Mod_differs_11 : decode b_Mod_differs 11 = .ok (.invokevirtual 210, 3) := by decide +kernel
theorem d_Mod_differs_14 : decode b_Mod_differs 14 = .ok (.ifCond .eq 7, 3) := by decide +kernel
theorem d_Mod_differs_17 : decode b_Mod_differs 17 = .ok (.iconst 1, 1) := by decide +kernel
theorem d_Mod_differs_18 : decode b_Mod_differs 18 = .ok (.goto 4, 3) := by decide +kernel
theorem d_Mod_differs_21 : decode b_Mod_differs 21 = .ok (.iconst 0, 1) := by decide +kernel
theorem d_Mod_differs_22 : decode b_Mod_differs 22 = .ok (.putfield 78, 3) := by decide +kernel
theorem d_Mod_differs_25 : decode b_Mod_differs 25 = .ok (.aload_n 0, 1) := by decide +kernel
theorem d_Mod_differs_26 : decode b_Mod_differs 26 = .ok (.getfield 78, 3) := by decide +kernel
theorem d_Mod_differs_29 : decode b_Mod_differs 29 = .ok (.ifCond .le 7, 3) := by decide +kernel
theorem d_Mod_differs_32 : decode b_Mod_differs 32 = .ok (.lconst 0, 1) := by decide +kernel
theorem d_Mod_differs_33 : decode b_Mod_differs 33 = .ok (.goto 16, 3) := by decide +kernel
theorem d_Mod_differs_36 : decode b_Mod_differs 36 = .ok (.aload_n 0, 1) := by decide +kernel
theorem d_Mod_differs_37 : decode b_Mod_differs 37 = .ok (.getfield 63, 3) := by decide +kernel
theorem d_Mod_differs_40 : decode b_Mod_differs 40 = .ok (.iload_n 1, 1) := by decide +kernel
theorem d_Mod_differs_41 : decode b_Mod_differs 41 = .ok (.laload, 1) := by decide +kernel
theorem d_Mod_differs_42 : decode b_Mod_differs 42 = .ok (.aload_n 0, 1) := by decide +kernel
theorem d_Mod_differs_43 : decode b_Mod_differs 43 = .ok (.getfield 63, 3) := by decide +kernel
theorem d_Mod_differs_46 : decode b_Mod_differs 46 = .ok (.iload_n 2, 1) := by decide +kernel
theorem d_Mod_differs_47 : decode b_Mod_differs 47 = .ok (.laload, 1) := by decide +kernel
theorem d_Mod_differs_48 : decode b_Mod_differs 48 = .ok (.lsub, 1) := by decide +kernel
theorem d_Mod_differs_49 : decode b_Mod_differs 49 = .ok (.lreturn, 1) := by decide +kernel
theorem d_Mod_invoice_0 : decode b_Mod_invoice 0 = .ok (.aload_n 0, 1) := by decide +kernel
theorem d_Mod_invoice_1 : decode b_Mod_invoice 1 = .ok (.aload_n 0, 1) := by decide +kernel
theorem d_Mod_invoice_2 : decode b_Mod_invoice 2 = .ok (.iload_n 1, 1) := by decide +kernel
theorem d_Mod_invoice_3 : decode b_Mod_invoice 3 = .ok (.invokevirtual 210, 3) := by decide +kernel
theorem d_Mod_invoice_6 : decode b_Mod_invoice 6 = .ok (.ifCond .eq 7, 3) := by decide +kernel
theorem d_Mod_invoice_9 : decode b_Mod_invoice 9 = .ok (.iconst 1, 1) := by decide +kernel
theorem d_Mod_invoice_10 : decode b_Mod_invoice 10 = .ok (.goto 20, 3) := by decide +kernel
theorem d_Mod_invoice_13 : decode b_Mod_invoice 13 = .ok (.iload_n 2, 1) := by decide +kernel
theorem d_Mod_invoice_14 : decode b_Mod_invoice 14 = .ok (.i2l, 1) := by decide +kernel
theorem d_Mod_invoice_15 : decode b_Mod_invoice 15 = .ok (.lconst 0, 1) := by decide +kernel
theorem d_Mod_invoice_16 : decode b_Mod_invoice 16 = .ok (.ldc2_w 175, 3) := by decide +kernel
theorem d_Mod_invoice_19 : decode b_Mod_invoice 19 = .ok (.invokestatic 86, 3) := by decide +kernel
theorem d_Mod_invoice_22 : decode b_Mod_invoice 22 = .ok (.ifCond .ne 7, 3) := by decide +kernel
theorem d_Mod_invoice_25 : decode b_Mod_invoice 25 = .ok (.iconst 2, 1) := by decide +kernel
theorem d_Mod_invoice_26 : decode b_Mod_invoice 26 = .ok (.goto 4, 3) := by decide +kernel
theorem d_Mod_invoice_29 : decode b_Mod_invoice 29 = .ok (.iconst 0, 1) := by decide +kernel
theorem d_Mod_invoice_30 : decode b_Mod_invoice 30 = .ok (.putfield 78, 3) := by decide +kernel
theorem d_Mod_invoice_33 : decode b_Mod_invoice 33 = .ok (.aload_n 0, 1) := by decide +kernel
theorem d_Mod_invoice_34 : decode b_Mod_invoice 34 = .ok (.getfield 78, 3) := by decide +kernel
theorem d_Mod_invoice_37 : decode b_Mod_invoice 37 = .ok (.ifCond .le 5, 3) := by decide +kernel
theorem d_Mod_invoice_40 : decode b_Mod_invoice 40 = .ok (.iconst 0, 1) := by decide +kernel
theorem d_Mod_invoice_41 : decode b_Mod_invoice 41 = .ok (.ireturn, 1) := by decide +kernel
theorem d_Mod_invoice_42 : decode b_Mod_invoice 42 = .ok (.aload_n 0, 1) := by decide +kernel
theorem d_Mod_invoice_43 : decode b_Mod_invoice 43 = .ok (.aload_n 0, 1) := by decide +kernel
theorem d_Mod_invoice_44 : decode b_Mod_invoice 44 = .ok (.getfield 63, 3) := by decide +kernel
theorem d_Mod_invoice_47 : decode b_Mod_invoice 47 = .ok (.iload_n 1, 1) := by decide +kernel
theorem d_Mod_invoice_48 : decode b_Mod_invoice 48 = .ok (.laload, 1) := by decide +kernel
theorem d_Mod_invoice_49 : decode b_Mod_invoice 49 = .ok (.iload_n 2, 1) := by decide +kernel
theorem d_Mod_invoice_50 : decode b_Mod_invoice 50 = .ok (.invokevirtual 200, 3) := by decide +kernel
theorem d_Mod_invoice_53 : decode b_Mod_invoice 53 = .ok (.lstore_n 3, 1) := by decide +kernel
theorem d_Mod_invoice_54 : decode b_Mod_invoice 54 = .ok (.aload_n 0, 1) := by decide +kernel
theorem d_Mod_invoice_55 : decode b_Mod_invoice 55 = .ok (.aload_n 0, 1) := by decide +kernel
theorem d_Mod_invoice_56 : decode b_Mod_invoice 56 = .ok (.getfield 213, 3) := by decide +kernel
theorem d_Mod_invoice_59 : decode b_Mod_invoice 59 = .ok (.bipush 8, 2) := by decide +kernel
theorem d_Mod_invoice_61 : decode b_Mod_invoice 61 = .ok (.if_icmp .eq 19, 3) := by decide +kernel
theorem d_Mod_invoice_64 : decode b_Mod_invoice 64 = .ok (.iload_n 2, 1) := by decide +kernel
theorem d_Mod_invoice_65 : decode b_Mod_invoice 65 = .ok (.aload_n 0, 1) := by decide +kernel
theorem d_Mod_invoice_66 : decode b_Mod_invoice 66 = .ok (.getfield 66, 3) := by decide +kernel
theorem d_Mod_invoice_69 : decode b_Mod_invoice 69 = .ok (.iload_n 1, 1) := by decide +kernel
theorem d_Mod_invoice_70 : decode b_Mod_invoice 70 = .ok (.iaload, 1) := by decide +kernel
theorem d_Mod_invoice_71 : decode b_Mod_invoice 71 = .ok (.if_icmp .gt 9, 3) := by decide +kernel
theorem d_Mod_invoice_74 : decode b_Mod_invoice 74 = .ok (.lload_n 3, 1) := by decide +kernel
theorem d_Mod_invoice_75 : decode b_Mod_invoice 75 = .ok (.lconst 0, 1) := by decide +kernel
theorem d_Mod_invoice_76 : decode b_Mod_invoice 76 = .ok (.lcmp, 1) := by decide +kernel
theorem d_Mod_invoice_77 : decode b_Mod_invoice 77 = .ok (.ifCond .ge 7, 3) := by decide +kernel
theorem d_Mod_invoice_80 : decode b_Mod_invoice 80 = .ok (.iconst 3, 1) := by decide +kernel
theorem d_Mod_invoice_81 : decode b_Mod_invoice 81 = .ok (.goto 4, 3) := by decide +kernel
theorem d_Mod_invoice_84 : decode b_Mod_invoice 84 = .ok (.iconst 0, 1) := by decide +kernel
theorem d_Mod_invoice_85 : decode b_Mod_invoice 85 = .ok (.putfield 78, 3) := by decide +kernel
theorem d_Mod_invoice_88 : decode b_Mod_invoice 88 = .ok (.aload_n 0, 1) := by decide +kernel
theorem d_Mod_invoice_89 : decode b_Mod_invoice 89 = .ok (.getfield 78, 3) := by decide +kernel
theorem d_Mod_invoice_92 : decode b_Mod_invoice 92 = .ok (.ifCond .le 5, 3) := by decide +kernel
theorem d_Mod_invoice_95 : decode b_Mod_invoice 95 = .ok (.iconst 0, 1) := by decide +kernel
theorem d_Mod_invoice_96 : decode b_Mod_invoice 96 = .ok (.ireturn, 1) := by decide +kernel
theorem d_Mod_invoice_97 : decode b_Mod_invoice 97 = .ok (.aload_n 0, 1) := by decide +kernel
theorem d_Mod_invoice_98 : decode b_Mod_invoice 98 = .ok (.getfield 69, 3) := by decide +kernel
theorem d_Mod_invoice_101 : decode b_Mod_invoice 101 = .ok (.aload_n 0, 1) := by decide +kernel
theorem d_Mod_invoice_102 : decode b_Mod_invoice 102 = .ok (.getfield 213, 3) := by decide +kernel
theorem d_Mod_invoice_105 : decode b_Mod_invoice 105 = .ok (.lload_n 3, 1) := by decide +kernel
theorem d_Mod_invoice_106 : decode b_Mod_invoice 106 = .ok (.lastore, 1) := by decide +kernel
theorem d_Mod_invoice_107 : decode b_Mod_invoice 107 = .ok (.aload_n 0, 1) := by decide +kernel
theorem d_Mod_invoice_108 : decode b_Mod_invoice 108 = .ok (.dup, 1) := by decide +kernel
theorem d_Mod_invoice_109 : decode b_Mod_invoice 109 = .ok (.getfield 213, 3) := by decide +kernel
theorem d_Mod_invoice_112 : decode b_Mod_invoice 112 = .ok (.iconst 1, 1) := by decide +kernel
theorem d_Mod_invoice_113 : decode b_Mod_invoice 113 = .ok (.iadd, 1) := by decide +kernel
theorem d_Mod_invoice_114 : decode b_Mod_invoice 114 = .ok (.putfield 213, 3) := by decide +kernel
theorem d_Mod_invoice_117 : decode b_Mod_invoice 117 = .ok (.aload_n 0, 1) := by decide +kernel
theorem d_Mod_invoice_118 : decode b_Mod_invoice 118 = .ok (.getfield 213, 3) := by decide +kernel
theorem d_Mod_invoice_121 : decode b_Mod_invoice 121 = .ok (.iconst 1, 1) := by decide +kernel
theorem d_Mod_invoice_122 : decode b_Mod_invoice 122 = .ok (.isub, 1) := by decide +kernel
theorem d_Mod_invoice_123 : decode b_Mod_invoice 123 = .ok (.ireturn, 1) := by decide +kernel
theorem d_Mod_left_0 : decode b_Mod_left 0 = .ok (.aload_n 0, 1) := by decide +kernel
theorem d_Mod_left_1 : decode b_Mod_left 1 = .ok (.aload_n 0, 1) := by decide +kernel
theorem d_Mod_left_2 : decode b_Mod_left 2 = .ok (.iload_n 1, 1) := by decide +kernel
theorem d_Mod_left_3 : decode b_Mod_left 3 = .ok (.invokevirtual 216, 3) := by decide +kernel
theorem d_Mod_left_6 : decode b_Mod_left 6 = .ok (.ifCond .eq 7, 3) := by decide +kernel
theorem d_Mod_left_9 : decode b_Mod_left 9 = .ok (.iconst 1, 1) := by decide +kernel
theorem d_Mod_left_10 : decode b_Mod_left 10 = .ok (.goto 4, 3) := by decide +kernel
theorem d_Mod_left_13 : decode b_Mod_left 13 = .ok (.iconst 0, 1) := by decide +kernel
theorem d_Mod_left_14 : decode b_Mod_left 14 = .ok (.putfield 78, 3) := by decide +kernel
theorem d_Mod_left_17 : decode b_Mod_left 17 = .ok (.aload_n 0, 1) := by decide +kernel
theorem d_Mod_left_18 : decode b_Mod_left 18 = .ok (.getfield 78, 3) := by decide +kernel
theorem d_Mod_left_21 : decode b_Mod_left 21 = .ok (.ifCond .le 7, 3) := by decide +kernel
theorem d_Mod_left_24 : decode b_Mod_left 24 = .ok (.lconst 0, 1) := by decide +kernel
theorem d_Mod_left_25 : decode b_Mod_left 25 = .ok (.goto 9, 3) := by decide +kernel
theorem d_Mod_left_28 : decode b_Mod_left 28 = .ok (.aload_n 0, 1) := by decide +kernel
theorem d_Mod_left_29 : decode b_Mod_left 29 = .ok (.getfield 69, 3) := by decide +kernel
theorem d_Mod_left_32 : decode b_Mod_left 32 = .ok (.iload_n 1, 1) := by decide +kernel
theorem d_Mod_left_33 : decode b_Mod_left 33 = .ok (.laload, 1) := by decide +kernel
theorem d_Mod_left_34 : decode b_Mod_left 34 = .ok (.lreturn, 1) := by decide +kernel
theorem d_Mod_noInvoice_0 : decode b_Mod_noInvoice 0 = .ok (.iload_n 1, 1) := by decide +kernel
theorem d_Mod_noInvoice_1 : decode b_Mod_noInvoice 1 = .ok (.ifCond .lt 11, 3) := by decide +kernel
theorem d_Mod_noInvoice_4 : decode b_Mod_noInvoice 4 = .ok (.iload_n 1, 1) := by decide +kernel
theorem d_Mod_noInvoice_5 : decode b_Mod_noInvoice 5 = .ok (.aload_n 0, 1) := by decide +kernel
theorem d_Mod_noInvoice_6 : decode b_Mod_noInvoice 6 = .ok (.getfield 213, 3) := by decide +kernel
theorem d_Mod_noInvoice_9 : decode b_Mod_noInvoice 9 = .ok (.if_icmp .lt 7, 3) := by decide +kernel
theorem d_Mod_noInvoice_12 : decode b_Mod_noInvoice 12 = .ok (.iconst 1, 1) := by decide +kernel
theorem d_Mod_noInvoice_13 : decode b_Mod_noInvoice 13 = .ok (.goto 4, 3) := by decide +kernel
theorem d_Mod_noInvoice_16 : decode b_Mod_noInvoice 16 = .ok (.iconst 0, 1) := by decide +kernel
theorem d_Mod_noInvoice_17 : decode b_Mod_noInvoice 17 = .ok (.ireturn, 1) := by decide +kernel
theorem d_Mod_refund_0 : decode b_Mod_refund 0 = .ok (.aload_n 0, 1) := by decide +kernel
theorem d_Mod_refund_1 : decode b_Mod_refund 1 = .ok (.aload_n 0, 1) := by decide +kernel
theorem d_Mod_refund_2 : decode b_Mod_refund 2 = .ok (.iload_n 1, 1) := by decide +kernel
theorem d_Mod_refund_3 : decode b_Mod_refund 3 = .ok (.invokevirtual 216, 3) := by decide +kernel
theorem d_Mod_refund_6 : decode b_Mod_refund 6 = .ok (.ifCond .eq 7, 3) := by decide +kernel
theorem d_Mod_refund_9 : decode b_Mod_refund 9 = .ok (.iconst 1, 1) := by decide +kernel
theorem d_Mod_refund_10 : decode b_Mod_refund 10 = .ok (.goto 12, 3) := by decide +kernel
theorem d_Mod_refund_13 : decode b_Mod_refund 13 = .ok (.iload_n 2, 1) := by decide +kernel
theorem d_Mod_refund_14 : decode b_Mod_refund 14 = .ok (.ifCond .ge 7, 3) := by decide +kernel
theorem d_Mod_refund_17 : decode b_Mod_refund 17 = .ok (.iconst 2, 1) := by decide +kernel
theorem d_Mod_refund_18 : decode b_Mod_refund 18 = .ok (.goto 4, 3) := by decide +kernel
theorem d_Mod_refund_21 : decode b_Mod_refund 21 = .ok (.iconst 0, 1) := by decide +kernel
theorem d_Mod_refund_22 : decode b_Mod_refund 22 = .ok (.putfield 78, 3) := by decide +kernel
theorem d_Mod_refund_25 : decode b_Mod_refund 25 = .ok (.aload_n 0, 1) := by decide +kernel
theorem d_Mod_refund_26 : decode b_Mod_refund 26 = .ok (.getfield 78, 3) := by decide +kernel
theorem d_Mod_refund_29 : decode b_Mod_refund 29 = .ok (.ifCond .gt 15, 3) := by decide +kernel
theorem d_Mod_refund_32 : decode b_Mod_refund 32 = .ok (.iload_n 2, 1) := by decide +kernel
theorem d_Mod_refund_33 : decode b_Mod_refund 33 = .ok (.i2l, 1) := by decide +kernel
theorem d_Mod_refund_34 : decode b_Mod_refund 34 = .ok (.aload_n 0, 1) := by decide +kernel
theorem d_Mod_refund_35 : decode b_Mod_refund 35 = .ok (.getfield 69, 3) := by decide +kernel
theorem d_Mod_refund_38 : decode b_Mod_refund 38 = .ok (.iload_n 1, 1) := by decide +kernel
theorem d_Mod_refund_39 : decode b_Mod_refund 39 = .ok (.laload, 1) := by decide +kernel
theorem d_Mod_refund_40 : decode b_Mod_refund 40 = .ok (.lcmp, 1) := by decide +kernel
theorem d_Mod_refund_41 : decode b_Mod_refund 41 = .ok (.ifCond .le 5, 3) := by decide +kernel
theorem d_Mod_refund_44 : decode b_Mod_refund 44 = .ok (.iconst 0, 1) := by decide +kernel
theorem d_Mod_refund_45 : decode b_Mod_refund 45 = .ok (.ireturn, 1) := by decide +kernel
theorem d_Mod_refund_46 : decode b_Mod_refund 46 = .ok (.aload_n 0, 1) := by decide +kernel
theorem d_Mod_refund_47 : decode b_Mod_refund 47 = .ok (.getfield 69, 3) := by decide +kernel
theorem d_Mod_refund_50 : decode b_Mod_refund 50 = .ok (.iload_n 1, 1) := by decide +kernel
theorem d_Mod_refund_51 : decode b_Mod_refund 51 = .ok (.aload_n 0, 1) := by decide +kernel
theorem d_Mod_refund_52 : decode b_Mod_refund 52 = .ok (.getfield 69, 3) := by decide +kernel
theorem d_Mod_refund_55 : decode b_Mod_refund 55 = .ok (.iload_n 1, 1) := by decide +kernel
theorem d_Mod_refund_56 : decode b_Mod_refund 56 = .ok (.laload, 1) := by decide +kernel
theorem d_Mod_refund_57 : decode b_Mod_refund 57 = .ok (.iload_n 2, 1) := by decide +kernel
theorem d_Mod_refund_58 : decode b_Mod_refund 58 = .ok (.i2l, 1) := by decide +kernel
theorem d_Mod_refund_59 : decode b_Mod_refund 59 = .ok (.lsub, 1) := by decide +kernel
theorem d_Mod_refund_60 : decode b_Mod_refund 60 = .ok (.lastore, 1) := by decide +kernel
theorem d_Mod_refund_61 : decode b_Mod_refund 61 = .ok (.iconst 1, 1) := by decide +kernel
theorem d_Mod_refund_62 : decode b_Mod_refund 62 = .ok (.ireturn, 1) := by decide +kernel
theorem d_Mod_learn_0 : decode b_Mod_learn 0 = .ok (.aload_n 0, 1) := by decide +kernel
theorem d_Mod_learn_1 : decode b_Mod_learn 1 = .ok (.iload_n 1, 1) := by decide +kernel
theorem d_Mod_learn_2 : decode b_Mod_learn 2 = .ok (.ifCond .lt 9, 3) := by decide +kernel
theorem d_Mod_learn_5 : decode b_Mod_learn 5 = .ok (.iload_n 1, 1) := by decide +kernel
theorem d_Mod_learn_6 : decode b_Mod_learn 6 = .ok (.bipush 7, 2) := by decide +kernel
theorem d_Mod_learn_8 : decode b_Mod_learn 8 = .ok (.if_icmp .le 7, 3) := by decide +kernel
theorem d_Mod_learn_11 : decode b_Mod_learn 11 = .ok (.iconst 1, 1) := by decide +kernel
theorem d_Mod_learn_12 : decode b_Mod_learn 12 = .ok (.goto 20, 3) := by decide +kernel
theorem d_Mod_learn_15 : decode b_Mod_learn 15 = .ok (.iload_n 2, 1) := by decide +kernel
theorem d_Mod_learn_16 : decode b_Mod_learn 16 = .ok (.i2l, 1) := by decide +kernel
theorem d_Mod_learn_17 : decode b_Mod_learn 17 = .ok (.lconst 0, 1) := by decide +kernel
theorem d_Mod_learn_18 : decode b_Mod_learn 18 = .ok (.ldc2_w 219, 3) := by decide +kernel
theorem d_Mod_learn_21 : decode b_Mod_learn 21 = .ok (.invokestatic 86, 3) := by decide +kernel
theorem d_Mod_learn_24 : decode b_Mod_learn 24 = .ok (.ifCond .eq 7, 3) := by decide +kernel
theorem d_Mod_learn_27 : decode b_Mod_learn 27 = .ok (.iconst 0, 1) := by decide +kernel
theorem d_Mod_learn_28 : decode b_Mod_learn 28 = .ok (.goto 4, 3) := by decide +kernel
theorem d_Mod_learn_31 : decode b_Mod_learn 31 = .ok (.iconst 2, 1) := by decide +kernel
theorem d_Mod_learn_32 : decode b_Mod_learn 32 = .ok (.putfield 78, 3) := by decide +kernel
theorem d_Mod_learn_35 : decode b_Mod_learn 35 = .ok (.aload_n 0, 1) := by decide +kernel
theorem d_Mod_learn_36 : decode b_Mod_learn 36 = .ok (.getfield 78, 3) := by decide +kernel
theorem d_Mod_learn_39 : decode b_Mod_learn 39 = .ok (.ifCond .le 5, 3) := by decide +kernel
theorem d_Mod_learn_42 : decode b_Mod_learn 42 = .ok (.iconst 0, 1) := by decide +kernel
theorem d_Mod_learn_43 : decode b_Mod_learn 43 = .ok (.ireturn, 1) := by decide +kernel
theorem d_Mod_learn_44 : decode b_Mod_learn 44 = .ok (.aload_n 0, 1) := by decide +kernel
theorem d_Mod_learn_45 : decode b_Mod_learn 45 = .ok (.getfield 72, 3) := by decide +kernel
theorem d_Mod_learn_48 : decode b_Mod_learn 48 = .ok (.iload_n 1, 1) := by decide +kernel
theorem d_Mod_learn_49 : decode b_Mod_learn 49 = .ok (.dup2, 1) := by decide +kernel
theorem d_Mod_learn_50 : decode b_Mod_learn 50 = .ok (.laload, 1) := by decide +kernel
theorem d_Mod_learn_51 : decode b_Mod_learn 51 = .ok (.lconst 1, 1) := by decide +kernel
theorem d_Mod_learn_52 : decode b_Mod_learn 52 = .ok (.ladd, 1) := by decide +kernel
theorem d_Mod_learn_53 : decode b_Mod_learn 53 = .ok (.lastore, 1) := by decide +kernel
theorem d_Mod_learn_54 : decode b_Mod_learn 54 = .ok (.aload_n 0, 1) := by decide +kernel
theorem d_Mod_learn_55 : decode b_Mod_learn 55 = .ok (.getfield 75, 3) := by decide +kernel
theorem d_Mod_learn_58 : decode b_Mod_learn 58 = .ok (.iload_n 1, 1) := by decide +kernel
theorem d_Mod_learn_59 : decode b_Mod_learn 59 = .ok (.aload_n 0, 1) := by decide +kernel
theorem d_Mod_learn_60 : decode b_Mod_learn 60 = .ok (.getfield 75, 3) := by decide +kernel
theorem d_Mod_learn_63 : decode b_Mod_learn 63 = .ok (.iload_n 1, 1) := by decide +kernel
theorem d_Mod_learn_64 : decode b_Mod_learn 64 = .ok (.laload, 1) := by decide +kernel
theorem d_Mod_learn_65 : decode b_Mod_learn 65 = .ok (.iload_n 2, 1) := by decide +kernel
theorem d_Mod_learn_66 : decode b_Mod_learn 66 = .ok (.i2l, 1) := by decide +kernel
theorem d_Mod_learn_67 : decode b_Mod_learn 67 = .ok (.ladd, 1) := by decide +kernel
theorem d_Mod_learn_68 : decode b_Mod_learn 68 = .ok (.lastore, 1) := by decide +kernel
theorem d_Mod_learn_69 : decode b_Mod_learn 69 = .ok (.aload_n 0, 1) := by decide +kernel
theorem d_Mod_learn_70 : decode b_Mod_learn 70 = .ok (.getfield 75, 3) := by decide +kernel
theorem d_Mod_learn_73 : decode b_Mod_learn 73 = .ok (.iload_n 1, 1) := by decide +kernel
theorem d_Mod_learn_74 : decode b_Mod_learn 74 = .ok (.laload, 1) := by decide +kernel
theorem d_Mod_learn_75 : decode b_Mod_learn 75 = .ok (.aload_n 0, 1) := by decide +kernel
theorem d_Mod_learn_76 : decode b_Mod_learn 76 = .ok (.getfield 72, 3) := by decide +kernel
theorem d_Mod_learn_79 : decode b_Mod_learn 79 = .ok (.iload_n 1, 1) := by decide +kernel
theorem d_Mod_learn_80 : decode b_Mod_learn 80 = .ok (.laload, 1) := by decide +kernel
theorem d_Mod_learn_81 : decode b_Mod_learn 81 = .ok (.ldiv, 1) := by decide +kernel
theorem d_Mod_learn_82 : decode b_Mod_learn 82 = .ok (.l2i, 1) := by decide +kernel
theorem d_Mod_learn_83 : decode b_Mod_learn 83 = .ok (.ireturn, 1) := by decide +kernel
