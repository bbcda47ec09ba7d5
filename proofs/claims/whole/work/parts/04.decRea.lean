theorem d_Rea_init_0 : decode b_Rea_init 0 = .ok (.aload_n 0, 1) := by decide +kernel
theorem d_Rea_init_1 : decode b_Rea_init 1 = .ok (.invokespecial 3, 3) := by decide +kernel
theorem d_Rea_init_4 : decode b_Rea_init 4 = .ok (.aload_n 0, 1) := by decide +kernel
theorem d_Rea_init_5 : decode b_Rea_init 5 = .ok (.sipush 240, 3) := by decide +kernel
theorem d_Rea_init_8 : decode b_Rea_init 8 = .ok (.newarray .char, 2) := by decide +kernel
theorem d_Rea_init_10 : decode b_Rea_init 10 = .ok (.putfield 9, 3) := by decide +kernel
theorem d_Rea_init_13 : decode b_Rea_init 13 = .ok (.return_, 1) := by decide +kernel
theorem d_Rec_init_0 : decode b_Rec_init 0 = .ok (.aload_n 0, 1) := by decide +kernel
theorem d_Rec_init_1 : decode b_Rec_init 1 = .ok (.invokespecial 3, 3) := by decide +kernel
theorem d_Rec_init_4 : decode b_Rec_init 4 = .ok (.aload_n 0, 1) := by decide +kernel
theorem d_Rec_init_5 : decode b_Rec_init 5 = .ok (.new 9, 3) := by decide +kernel
theorem d_Rec_init_8 : decode b_Rec_init 8 = .ok (.dup, 1) := by decide +kernel
theorem d_Rec_init_9 : decode b_Rec_init 9 = .ok (.invokespecial 11, 3) := by decide +kernel
theorem d_Rec_init_12 : decode b_Rec_init 12 = .ok (.putfield 12, 3) := by decide +kernel
theorem d_Rec_init_15 : decode b_Rec_init 15 = .ok (.aload_n 0, 1) := by decide +kernel
theorem d_Rec_init_16 : decode b_Rec_init 16 = .ok (.bipush 6, 2) := by decide +kernel
theorem d_Rec_init_18 : decode b_Rec_init 18 = .ok (.anewarray 9, 3) := by decide +kernel
theorem d_Rec_init_21 : decode b_Rec_init 21 = .ok (.putfield 18, 3) := by decide +kernel
theorem d_Rec_init_24 : decode b_Rec_init 24 = .ok (.aload_n 0, 1) := by decide +kernel
theorem d_Rec_init_25 : decode b_Rec_init 25 = .ok (.bipush 16, 2) := by decide +kernel
theorem d_Rec_init_27 : decode b_Rec_init 27 = .ok (.anewarray 9, 3) := by decide +kernel
theorem d_Rec_init_30 : decode b_Rec_init 30 = .ok (.putfield 22, 3) := by decide +kernel
theorem d_Rec_init_33 : decode b_Rec_init 33 = .ok (.aload_n 0, 1) := by decide +kernel
theorem d_Rec_init_34 : decode b_Rec_init 34 = .ok (.bipush 16, 2) := by decide +kernel
theorem d_Rec_init_36 : decode b_Rec_init 36 = .ok (.newarray .int, 2) := by decide +kernel
theorem d_Rec_init_38 : decode b_Rec_init 38 = .ok (.putfield 25, 3) := by decide +kernel
theorem d_Rec_init_41 : decode b_Rec_init 41 = .ok (.aload_n 0, 1) := by decide +kernel
theorem d_Rec_init_42 : decode b_Rec_init 42 = .ok (.bipush 16, 2) := by decide +kernel
theorem d_Rec_init_44 : decode b_Rec_init 44 = .ok (.newarray .int, 2) := by decide +kernel
theorem d_Rec_init_46 : decode b_Rec_init 46 = .ok (.putfield 29, 3) := by decide +kernel
theorem d_Rec_init_49 : decode b_Rec_init 49 = .ok (.iconst 0, 1) := by decide +kernel
theorem d_Rec_init_50 : decode b_Rec_init 50 = .ok (.istore_n 1, 1) := by decide +kernel
theorem d_Rec_init_51 : decode b_Rec_init 51 = .ok (.iload_n 1, 1) := by decide +kernel
theorem d_Rec_init_52 : decode b_Rec_init 52 = .ok (.aload_n 0, 1) := by decide +kernel
theorem d_Rec_init_53 : decode b_Rec_init 53 = .ok (.getfield 18, 3) := by decide +kernel
theorem d_Rec_init_56 : decode b_Rec_init 56 = .ok (.arraylength, 1) := by decide +kernel
theorem d_Rec_init_57 : decode b_Rec_init 57 = .ok (.if_icmp .ge 22, 3) := by decide +kernel
theorem d_Rec_init_60 : decode b_Rec_init 60 = .ok (.aload_n 0, 1) := by decide +kernel
theorem d_Rec_init_61 : decode b_Rec_init 61 = .ok (.getfield 18, 3) := by decide +kernel
theorem d_Rec_init_64 : decode b_Rec_init 64 = .ok (.iload_n 1, 1) := by decide +kernel
theorem d_Rec_init_65 : decode b_Rec_init 65 = .ok (.new 9, 3) := by decide +kernel
theorem d_Rec_init_68 : decode b_Rec_init 68 = .ok (.dup, 1) := by decide +kernel
theorem d_Rec_init_69 : decode b_Rec_init 69 = .ok (.invokespecial 11, 3) := by decide +kernel
theorem d_Rec_init_72 : decode b_Rec_init 72 = .ok (.aastore, 1) := by decide +kernel
theorem d_Rec_init_73 : decode b_Rec_init 73 = .ok (.iinc 1 1, 3) := by decide +kernel
theorem d_Rec_init_76 : decode b_Rec_init 76 = .ok (.goto (-25), 3) := by decide +kernel
theorem d_Rec_init_79 : decode b_Rec_init 79 = .ok (.iconst 0, 1) := by decide +kernel
theorem d_Rec_init_80 : decode b_Rec_init 80 = .ok (.istore_n 1, 1) := by decide +kernel
theorem d_Rec_init_81 : decode b_Rec_init 81 = .ok (.iload_n 1, 1) := by decide +kernel
theorem d_Rec_init_82 : decode b_Rec_init 82 = .ok (.aload_n 0, 1) := by decide +kernel
theorem d_Rec_init_83 : decode b_Rec_init 83 = .ok (.getfield 22, 3) := by decide +kernel
theorem d_Rec_init_86 : decode b_Rec_init 86 = .ok (.arraylength, 1) := by decide +kernel
theorem d_Rec_init_87 : decode b_Rec_init 87 = .ok (.if_icmp .ge 22, 3) := by decide +kernel
theorem d_Rec_init_90 : decode b_Rec_init 90 = .ok (.aload_n 0, 1) := by decide +kernel
theorem d_Rec_init_91 : decode b_Rec_init 91 = .ok (.getfield 22, 3) := by decide +kernel
theorem d_Rec_init_94 : decode b_Rec_init 94 = .ok (.iload_n 1, 1) := by decide +kernel
theorem d_Rec_init_95 : decode b_Rec_init 95 = .ok (.new 9, 3) := by decide +kernel
theorem d_Rec_init_98 : decode b_Rec_init 98 = .ok (.dup, 1) := by decide +kernel
theorem d_Rec_init_99 : decode b_Rec_init 99 = .ok (.invokespecial 11, 3) := by decide +kernel
theorem d_Rec_init_102 : decode b_Rec_init 102 = .ok (.aastore, 1) := by decide +kernel
theorem d_Rec_init_103 : decode b_Rec_init 103 = .ok (.iinc 1 1, 3) := by decide +kernel
theorem d_Rec_init_106 : decode b_Rec_init 106 = .ok (.goto (-25), 3) := by decide +kernel
theorem d_Rec_init_109 : decode b_Rec_init 109 = .ok (.return_, 1) := by decide +kernel
theorem d_Rea_append_0 : decode b_Rea_append 0 = .ok (.iload_n 1, 1) := by decide +kernel
theorem d_Rea_append_1 : decode b_Rea_append 1 = .ok (.bipush 32, 2) := by decide +kernel
theorem d_Rea_append_3 : decode b_Rea_append 3 = .ok (.if_icmp .lt 24, 3) := by decide +kernel
theorem d_Rea_append_6 : decode b_Rea_append 6 = .ok (.iload_n 1, 1) := by decide +kernel
theorem d_Rea_append_7 : decode b_Rea_append 7 = .ok (.bipush 126, 2) := by decide +kernel
theorem d_Rea_append_9 : decode b_Rea_append 9 = .ok (.if_icmp .gt 18, 3) := by decide +kernel
theorem d_Rea_append_12 : decode b_Rea_append 12 = .ok (.aload_n 0, 1) := by decide +kernel
theorem d_Rea_append_13 : decode b_Rea_append 13 = .ok (.getfield 15, 3) := by decide +kernel
theorem d_Rea_append_16 : decode b_Rea_append 16 = .ok (.aload_n 0, 1) := by decide +kernel
theorem d_Rea_append_17 : decode b_Rea_append 17 = .ok (.getfield 9, 3) := by decide +kernel
theorem d_Rea_append_20 : decode b_Rea_append 20 = .ok (.arraylength, 1) := by decide +kernel
theorem d_Rea_append_21 : decode b_Rea_append 21 = .ok (.invokestatic 19, 3) := by decide +kernel
theorem d_Rea_append_24 : decode b_Rea_append 24 = .ok (.ifCond .ne 5, 3) := by decide +kernel
theorem d_Rea_append_27 : decode b_Rea_append 27 = .ok (.iconst 0, 1) := by decide +kernel
theorem d_Rea_append_28 : decode b_Rea_append 28 = .ok (.ireturn, 1) := by decide +kernel
theorem d_Rea_append_29 : decode b_Rea_append 29 = .ok (.aload_n 0, 1) := by decide +kernel
theorem d_Rea_append_30 : decode b_Rea_append 30 = .ok (.getfield 9, 3) := by decide +kernel
theorem d_Rea_append_33 : decode b_Rea_append 33 = .ok (.aload_n 0, 1) := by decide +kernel
theorem d_Rea_append_34 : decode b_Rea_append 34 = .ok (.getfield 15, 3) := by decide +kernel
theorem d_Rea_append_37 : decode b_Rea_append 37 = .ok (.iload_n 1, 1) := by decide +kernel
theorem d_Rea_append_38 : decode b_Rea_append 38 = .ok (.i2c, 1) := by decide +kernel
theorem d_Rea_append_39 : decode b_Rea_append 39 = .ok (.castore, 1) := by decide +kernel
theorem d_Rea_append_40 : decode b_Rea_append 40 = .ok (.aload_n 0, 1) := by decide +kernel
theorem d_Rea_append_41 : decode b_Rea_append 41 = .ok (.dup, 1) := by decide +kernel
theorem d_Rea_append_42 : decode b_Rea_append 42 = .ok (.getfield 15, 3) := by decide +kernel
theorem d_Rea_append_45 : decode b_Rea_append 45 = .ok (.iconst 1, 1) := by decide +kernel
theorem d_Rea_append_46 : decode b_Rea_append 46 = .ok (.iadd, 1) := by decide +kernel
theorem d_Rea_append_47 : decode b_Rea_append 47 = .ok (.putfield 15, 3) := by decide +kernel
theorem d_Rea_append_50 : decode b_Rea_append 50 = .ok (.iconst 1, 1) := by decide +kernel
theorem d_Rea_append_51 : decode b_Rea_append 51 = .ok (.ireturn, 1) := by decide +kernel
theorem d_Rea_fill_0 : decode b_Rea_fill 0 = .ok (.aload_n 1, 1) := by decide +kernel
theorem d_Rea_fill_1 : decode b_Rea_fill 1 = .ok (.invokevirtual 23, 3) := by decide +kernel
theorem d_Rea_fill_4 : decode b_Rea_fill 4 = .ok (.aload_n 0, 1) := by decide +kernel
theorem d_Rea_fill_5 : decode b_Rea_fill 5 = .ok (.iconst 0, 1) := by decide +kernel
theorem d_Rea_fill_6 : decode b_Rea_fill 6 = .ok (.putfield 28, 3) := by decide +kernel
theorem d_Rea_fill_9 : decode b_Rea_fill 9 = .ok (.aload_n 0, 1) := by decide +kernel
theorem d_Rea_fill_10 : decode b_Rea_fill 10 = .ok (.iconst 0, 1) := by decide +kernel
theorem d_Rea_fill_11 : decode b_Rea_fill 11 = .ok (.putfield 31, 3) := by decide +kernel
theorem d_Rea_fill_14 : decode b_Rea_fill 14 = .ok (.aload_n 0, 1) := by decide +kernel
theorem d_Rea_fill_15 : decode b_Rea_fill 15 = .ok (.getfield 15, 3) := by decide +kernel
theorem d_Rea_fill_18 : decode b_Rea_fill 18 = .ok (.istore_n 2, 1) := by decide +kernel
theorem d_Rea_fill_19 : decode b_Rea_fill 19 = .ok (.aload_n 0, 1) := by decide +kernel
theorem d_Rea_fill_20 : decode b_Rea_fill 20 = .ok (.iconst 0, 1) := by decide +kernel
theorem d_Rea_fill_21 : decode b_Rea_fill 21 = .ok (.putfield 15, 3) := by decide +kernel
theorem d_Rea_fill_24 : decode b_Rea_fill 24 = .ok (.iconst 0, 1) := by decide +kernel
theorem d_Rea_fill_25 : decode b_Rea_fill 25 = .ok (.istore_n 3, 1) := by decide +kernel
theorem d_Rea_fill_26 : decode b_Rea_fill 26 = .ok (.iload_n 3, 1) := by decide +kernel
theorem d_Rea_fill_27 : decode b_Rea_fill 27 = .ok (.iload_n 2, 1) := by decide +kernel
theorem d_Rea_fill_28 : decode b_Rea_fill 28 = .ok (.if_icmp .ge 34, 3) := by decide +kernel
theorem d_Rea_fill_31 : decode b_Rea_fill 31 = .ok (.iload_n 3, 1) := by decide +kernel
theorem d_Rea_fill_32 : decode b_Rea_fill 32 = .ok (.aload_n 0, 1) := by decide +kernel
theorem d_Rea_fill_33 : decode b_Rea_fill 33 = .ok (.getfield 9, 3) := by decide +kernel
theorem d_Rea_fill_36 : decode b_Rea_fill 36 = .ok (.arraylength, 1) := by decide +kernel
theorem d_Rea_fill_37 : decode b_Rea_fill 37 = .ok (.if_icmp .ge 25, 3) := by decide +kernel
theorem d_Rea_fill_40 : decode b_Rea_fill 40 = .ok (.aload_n 0, 1) := by decide +kernel
theorem d_Rea_fill_41 : decode b_Rea_fill 41 = .ok (.aload_n 0, 1) := by decide +kernel
theorem d_Rea_fill_42 : decode b_Rea_fill 42 = .ok (.getfield 9, 3) := by decide +kernel
theorem d_Rea_fill_45 : decode b_Rea_fill 45 = .ok (.iload_n 3, 1) := by decide +kernel
theorem d_Rea_fill_46 : decode b_Rea_fill 46 = .ok (.caload, 1) := by decide +kernel
theorem d_Rea_fill_47 : decode b_Rea_fill 47 = .ok (.aload_n 1, 1) := by decide +kernel
theorem d_Rea_fill_48 : decode b_Rea_fill 48 = .ok (.invokevirtual 34, 3) := by decide +kernel
theorem d_Rea_fill_51 : decode b_Rea_fill 51 = .ok (.ifCond .ne 5, 3) := by decide +kernel
theorem d_Rea_fill_54 : decode b_Rea_fill 54 = .ok (.iload_n 3, 1) := by decide +kernel
theorem d_Rea_fill_55 : decode b_Rea_fill 55 = .ok (.ireturn, 1) := by decide +kernel
theorem d_Rea_fill_56 : decode b_Rea_fill 56 = .ok (.iinc 3 1, 3) := by decide +kernel
theorem d_Rea_fill_59 : decode b_Rea_fill 59 = .ok (.goto (-33), 3) := by decide +kernel
theorem d_Rea_fill_62 : decode b_Rea_fill 62 = .ok (.aload_n 0, 1) := by decide +kernel
theorem d_Rea_fill_63 : decode b_Rea_fill 63 = .ok (.getfield 28, 3) := by decide +kernel
theorem d_Rea_fill_66 : decode b_Rea_fill 66 = .ok (.ifCond .ne 14, 3) := by decide +kernel
theorem d_Rea_fill_69 : decode b_Rea_fill 69 = .ok (.aload_n 1, 1) := by decide +kernel
theorem d_Rea_fill_70 : decode b_Rea_fill 70 = .ok (.getfield 38, 3) := by decide +kernel
theorem d_Rea_fill_73 : decode b_Rea_fill 73 = .ok (.ifCond .le 7, 3) := by decide +kernel
theorem d_Rea_fill_76 : decode b_Rea_fill 76 = .ok (.iconst 1, 1) := by decide +kernel
theorem d_Rea_fill_77 : decode b_Rea_fill 77 = .ok (.goto 4, 3) := by decide +kernel
theorem d_Rea_fill_80 : decode b_Rea_fill 80 = .ok (.iconst 0, 1) := by decide +kernel
theorem d_Rea_fill_81 : decode b_Rea_fill 81 = .ok (.istore_n 3, 1) := by decide +kernel
theorem d_Rea_fill_82 : decode b_Rea_fill 82 = .ok (.iload_n 3, 1) := by decide +kernel
theorem d_Rea_fill_83 : decode b_Rea_fill 83 = .ok (.ifCond .eq 7, 3) := by decide +kernel
theorem d_Rea_fill_86 : decode b_Rea_fill 86 = .ok (.iconst (-1), 1) := by decide +kernel
theorem d_Rea_fill_87 : decode b_Rea_fill 87 = .ok (.goto 4, 3) := by decide +kernel
theorem d_Rea_fill_90 : decode b_Rea_fill 90 = .ok (.iload_n 2, 1) := by decide +kernel
theorem d_Rea_fill_91 : decode b_Rea_fill 91 = .ok (.ireturn, 1) := by decide +kernel
theorem d_Rea_accept_0 : decode b_Rea_accept 0 = .ok (.iload_n 1, 1) := by decide +kernel
theorem d_Rea_accept_1 : decode b_Rea_accept 1 = .ok (.bipush 48, 2) := by decide +kernel
theorem d_Rea_accept_3 : decode b_Rea_accept 3 = .ok (.if_icmp .lt 19, 3) := by decide +kernel
theorem d_Rea_accept_6 : decode b_Rea_accept 6 = .ok (.iload_n 1, 1) := by decide +kernel
theorem d_Rea_accept_7 : decode b_Rea_accept 7 = .ok (.bipush 57, 2) := by decide +kernel
theorem d_Rea_accept_9 : decode b_Rea_accept 9 = .ok (.if_icmp .gt 13, 3) := by decide +kernel
theorem d_Rea_accept_12 : decode b_Rea_accept 12 = .ok (.aload_n 0, 1) := by decide +kernel
theorem d_Rea_accept_13 : decode b_Rea_accept 13 = .ok (.iload_n 1, 1) := by decide +kernel
theorem d_Rea_accept_14 : decode b_Rea_accept 14 = .ok (.bipush 48, 2) := by decide +kernel
theorem d_Rea_accept_16 : decode b_Rea_accept 16 = .ok (.isub, 1) := by decide +kernel
theorem d_Rea_accept_17 : decode b_Rea_accept 17 = .ok (.aload_n 2, 1) := by decide +kernel
theorem d_Rea_accept_18 : decode b_Rea_accept 18 = .ok (.invokevirtual 41, 3) := by decide +kernel
theorem d_Rea_accept_21 : decode b_Rea_accept 21 = .ok (.ireturn, 1) := by decide +kernel
theorem d_Rea_accept_22 : decode b_Rea_accept 22 = .ok (.aload_n 0, 1) := by decide +kernel
theorem d_Rea_accept_23 : decode b_Rea_accept 23 = .ok (.iconst 0, 1) := by decide +kernel
theorem d_Rea_accept_24 : decode b_Rea_accept 24 = .ok (.putfield 31, 3) := by decide +kernel
theorem d_Rea_accept_27 : decode b_Rea_accept 27 = .ok (.iload_n 1, 1) := by decide +kernel
theorem d_Rea_accept_28 : decode b_Rea_accept 28 = .ok (.bipush 32, 2) := by decide +kernel
theorem d_Rea_accept_30 : decode b_Rea_accept 30 = .ok (.if_icmp .ne 5, 3) := by decide +kernel
theorem d_Rea_accept_33 : decode b_Rea_accept 33 = .ok (.iconst 1, 1) := by decide +kernel
theorem d_Rea_accept_34 : decode b_Rea_accept 34 = .ok (.ireturn, 1) := by decide +kernel
theorem d_Rea_accept_35 : decode b_Rea_accept 35 = .ok (.iload_n 1, 1) := by decide +kernel
theorem d_Rea_accept_36 : decode b_Rea_accept 36 = .ok (.invokestatic 45, 3) := by decide +kernel
theorem d_Rea_accept_39 : decode b_Rea_accept 39 = .ok (.ifCond .eq 10, 3) := by decide +kernel
theorem d_Rea_accept_42 : decode b_Rea_accept 42 = .ok (.aload_n 0, 1) := by decide +kernel
theorem d_Rea_accept_43 : decode b_Rea_accept 43 = .ok (.iload_n 1, 1) := by decide +kernel
theorem d_Rea_accept_44 : decode b_Rea_accept 44 = .ok (.aload_n 2, 1) := by decide +kernel
theorem d_Rea_accept_45 : decode b_Rea_accept 45 = .ok (.invokevirtual 49, 3) := by decide +kernel
theorem d_Rea_accept_48 : decode b_Rea_accept 48 = .ok (.ireturn, 1) := by decide +kernel
theorem d_Rea_accept_49 : decode b_Rea_accept 49 = .ok (.iload_n 1, 1) := by decide +kernel
theorem d_Rea_accept_50 : decode b_Rea_accept 50 = .ok (.lookupswitch 113 #[(37, 106), (42, 90), (43, 90), (45, 90), (47, 90), (59, 106), (60, 90), (61, 106), (62, 90), (114, 98)], 90) := by decide +kernel
theorem d_Rea_accept_140 : decode b_Rea_accept 140 = .ok (.aload_n 0, 1) := by decide +kernel
theorem d_Rea_accept_141 : decode b_Rea_accept 141 = .ok (.iload_n 1, 1) := by decide +kernel
theorem d_Rea_accept_142 : decode b_Rea_accept 142 = .ok (.iconst 2, 1) := by decide +kernel
theorem d_Rea_accept_143 : decode b_Rea_accept 143 = .ok (.aload_n 2, 1) := by decide +kernel
theorem d_Rea_accept_144 : decode b_Rea_accept 144 = .ok (.invokevirtual 52, 3) := by decide +kernel
theorem d_Rea_accept_147 : decode b_Rea_accept 147 = .ok (.ireturn, 1) := by decide +kernel
theorem d_Rea_accept_148 : decode b_Rea_accept 148 = .ok (.aload_n 0, 1) := by decide +kernel
theorem d_Rea_accept_149 : decode b_Rea_accept 149 = .ok (.iload_n 1, 1) := by decide +kernel
theorem d_Rea_accept_150 : decode b_Rea_accept 150 = .ok (.iconst 1, 1) := by decide +kernel
theorem d_Rea_accept_151 : decode b_Rea_accept 151 = .ok (.aload_n 2, 1) := by decide +kernel
theorem d_Rea_accept_152 : decode b_Rea_accept 152 = .ok (.invokevirtual 52, 3) := by decide +kernel
theorem d_Rea_accept_155 : decode b_Rea_accept 155 = .ok (.ireturn, 1) := by decide +kernel
theorem d_Rea_accept_156 : decode b_Rea_accept 156 = .ok (.aload_n 0, 1) := by decide +kernel
theorem d_Rea_accept_157 : decode b_Rea_accept 157 = .ok (.iload_n 1, 1) := by decide +kernel
theorem d_Rea_accept_158 : decode b_Rea_accept 158 = .ok (.aload_n 2, 1) := by decide +kernel
theorem d_Rea_accept_159 : decode b_Rea_accept 159 = .ok (.invokevirtual 56, 3) := by decide +kernel
theorem d_Rea_accept_162 : decode b_Rea_accept 162 = .ok (.ireturn, 1) := by decide +kernel
theorem d_Rea_accept_163 : decode b_Rea_accept 163 = .ok (.iconst 0, 1) := by decide +kernel
theorem d_Rea_accept_164 : decode b_Rea_accept 164 = .ok (.ireturn, 1) := by decide +kernel
theorem d_Rea_acceptDigit_0 : decode b_Rea_acceptDigit 0 = .ok (.aload_n 0, 1) := by decide +kernel
theorem d_Rea_acceptDigit_1 : decode b_Rea_acceptDigit 1 = .ok (.getfield 31, 3) := by decide +kernel
theorem d_Rea_acceptDigit_4 : decode b_Rea_acceptDigit 4 = .ok (.iconst 5, 1) := by decide +kernel
theorem d_Rea_acceptDigit_5 : decode b_Rea_acceptDigit 5 = .ok (.if_icmp .lt 5, 3) := by decide +kernel
theorem d_Rea_acceptDigit_8 : decode b_Rea_acceptDigit 8 = .ok (.iconst 0, 1) := by decide +kernel
theorem d_Rea_acceptDigit_9 : decode b_Rea_acceptDigit 9 = .ok (.ireturn, 1) := by decide +kernel
theorem d_Rea_acceptDigit_10 : decode b_Rea_acceptDigit 10 = .ok (.aload_n 0, 1) := by decide +kernel
theorem d_Rea_acceptDigit_11 : decode b_Rea_acceptDigit 11 = .ok (.getfield 31, 3) := by decide +kernel
theorem d_Rea_acceptDigit_14 : decode b_Rea_acceptDigit 14 = .ok (.ifCond .le 11, 3) := by decide +kernel
theorem d_Rea_acceptDigit_17 : decode b_Rea_acceptDigit 17 = .ok (.aload_n 2, 1) := by decide +kernel
theorem d_Rea_acceptDigit_18 : decode b_Rea_acceptDigit 18 = .ok (.iload_n 1, 1) := by decide +kernel
theorem d_Rea_acceptDigit_19 : decode b_Rea_acceptDigit 19 = .ok (.invokevirtual 59, 3) := by decide +kernel
theorem d_Rea_acceptDigit_22 : decode b_Rea_acceptDigit 22 = .ok (.goto 31, 3) := by decide +kernel
theorem d_Rea_acceptDigit_25 : decode b_Rea_acceptDigit 25 = .ok (.aload_n 0, 1) := by decide +kernel
theorem d_Rea_acceptDigit_26 : decode b_Rea_acceptDigit 26 = .ok (.aload_n 2, 1) := by decide +kernel
theorem d_Rea_acceptDigit_27 : decode b_Rea_acceptDigit 27 = .ok (.invokevirtual 63, 3) := by decide +kernel
theorem d_Rea_acceptDigit_30 : decode b_Rea_acceptDigit 30 = .ok (.ifCond .eq 21, 3) := by decide +kernel
theorem d_Rea_acceptDigit_33 : decode b_Rea_acceptDigit 33 = .ok (.aload_n 0, 1) := by decide +kernel
theorem d_Rea_acceptDigit_34 : decode b_Rea_acceptDigit 34 = .ok (.dup, 1) := by decide +kernel
theorem d_Rea_acceptDigit_35 : decode b_Rea_acceptDigit 35 = .ok (.getfield 28, 3) := by decide +kernel
theorem d_Rea_acceptDigit_38 : decode b_Rea_acceptDigit 38 = .ok (.iconst 1, 1) := by decide +kernel
theorem d_Rea_acceptDigit_39 : decode b_Rea_acceptDigit 39 = .ok (.iadd, 1) := by decide +kernel
theorem d_Rea_acceptDigit_40 : decode b_Rea_acceptDigit 40 = .ok (.putfield 28, 3) := by decide +kernel
theorem d_Rea_acceptDigit_43 : decode b_Rea_acceptDigit 43 = .ok (.aload_n 2, 1) := by decide +kernel
theorem d_Rea_acceptDigit_44 : decode b_Rea_acceptDigit 44 = .ok (.iload_n 1, 1) := by decide +kernel
theorem d_Rea_acceptDigit_45 : decode b_Rea_acceptDigit 45 = .ok (.invokevirtual 67, 3) := by decide +kernel
theorem d_Rea_acceptDigit_48 : decode b_Rea_acceptDigit 48 = .ok (.goto 5, 3) := by decide +kernel
theorem d_Rea_acceptDigit_51 : decode b_Rea_acceptDigit 51 = .ok (.iconst 0, 1) := by decide +kernel
theorem d_Rea_acceptDigit_52 : decode b_Rea_acceptDigit 52 = .ok (.ireturn, 1) := by decide +kernel
theorem d_Rea_acceptDigit_53 : decode b_Rea_acceptDigit 53 = .ok (.aload_n 0, 1) := by decide +kernel
theorem d_Rea_acceptDigit_54 : decode b_Rea_acceptDigit 54 = .ok (.dup, 1) := by decide +kernel
theorem d_Rea_acceptDigit_55 : decode b_Rea_acceptDigit 55 = .ok (.getfield 31, 3) := by decide +kernel
theorem d_Rea_acceptDigit_58 : decode b_Rea_acceptDigit 58 = .ok (.iconst 1, 1) := by decide +kernel
theorem d_Rea_acceptDigit_59 : decode b_Rea_acceptDigit 59 = .ok (.iadd, 1) := by decide +kernel
theorem d_Rea_acceptDigit_60 : decode b_Rea_acceptDigit 60 = .ok (.putfield 31, 3) := by decide +kernel
theorem d_Rea_acceptDigit_63 : decode b_Rea_acceptDigit 63 = .ok (.iconst 1, 1) := by decide +kernel
theorem d_Rea_acceptDigit_64 : decode b_Rea_acceptDigit 64 = .ok (.ireturn, 1) := by decide +kernel
theorem d_Rea_hasRoom_0 : decode b_Rea_hasRoom 0 = .ok (.aload_n 0, 1) := by decide +kernel
theorem d_Rea_hasRoom_1 : decode b_Rea_hasRoom 1 = .ok (.getfield 28, 3) := by decide +kernel
theorem d_Rea_hasRoom_4 : decode b_Rea_hasRoom 4 = .ok (.bipush 6, 2) := by decide +kernel
theorem d_Rea_hasRoom_6 : decode b_Rea_hasRoom 6 = .ok (.if_icmp .ge 16, 3) := by decide +kernel
theorem d_Rea_hasRoom_9 : decode b_Rea_hasRoom 9 = .ok (.aload_n 1, 1) := by decide +kernel
theorem d_Rea_hasRoom_10 : decode b_Rea_hasRoom 10 = .ok (.getfield 38, 3) := by decide +kernel
theorem d_Rea_hasRoom_13 : decode b_Rea_hasRoom 13 = .ok (.bipush 16, 2) := by decide +kernel
theorem d_Rea_hasRoom_15 : decode b_Rea_hasRoom 15 = .ok (.if_icmp .ge 7, 3) := by decide +kernel
theorem d_Rea_hasRoom_18 : decode b_Rea_hasRoom 18 = .ok (.iconst 1, 1) := by decide +kernel
theorem d_Rea_hasRoom_19 : decode b_Rea_hasRoom 19 = .ok (.goto 4, 3) := by decide +kernel
theorem d_Rea_hasRoom_22 : decode b_Rea_hasRoom 22 = .ok (.iconst 0, 1) := by decide +kernel
theorem d_Rea_hasRoom_23 : decode b_Rea_hasRoom 23 = .ok (.ireturn, 1) := by decide +kernel
theorem d_Rea_acceptFact_0 : decode b_Rea_acceptFact 0 = .ok (.aload_n 0, 1) := by decide +kernel
theorem d_Rea_acceptFact_1 : decode b_Rea_acceptFact 1 = .ok (.aload_n 2, 1) := by decide +kernel
theorem d_Rea_acceptFact_2 : decode b_Rea_acceptFact 2 = .ok (.invokevirtual 63, 3) := by decide +kernel
theorem d_Rea_acceptFact_5 : decode b_Rea_acceptFact 5 = .ok (.ifCond .ne 5, 3) := by decide +kernel
theorem d_Rea_acceptFact_8 : decode b_Rea_acceptFact 8 = .ok (.iconst 0, 1) := by decide +kernel
theorem d_Rea_acceptFact_9 : decode b_Rea_acceptFact 9 = .ok (.ireturn, 1) := by decide +kernel
theorem d_Rea_acceptFact_10 : decode b_Rea_acceptFact 10 = .ok (.aload_n 0, 1) := by decide +kernel
theorem d_Rea_acceptFact_11 : decode b_Rea_acceptFact 11 = .ok (.dup, 1) := by decide +kernel
theorem d_Rea_acceptFact_12 : decode b_Rea_acceptFact 12 = .ok (.getfield 28, 3) := by decide +kernel
theorem d_Rea_acceptFact_15 : decode b_Rea_acceptFact 15 = .ok (.iconst 1, 1) := by decide +kernel
theorem d_Rea_acceptFact_16 : decode b_Rea_acceptFact 16 = .ok (.iadd, 1) := by decide +kernel
theorem d_Rea_acceptFact_17 : decode b_Rea_acceptFact 17 = .ok (.putfield 28, 3) := by decide +kernel
theorem d_Rea_acceptFact_20 : decode b_Rea_acceptFact 20 = .ok (.aload_n 2, 1) := by decide +kernel
theorem d_Rea_acceptFact_21 : decode b_Rea_acceptFact 21 = .ok (.iload_n 1, 1) := by decide +kernel
theorem d_Rea_acceptFact_22 : decode b_Rea_acceptFact 22 = .ok (.invokevirtual 70, 3) := by decide +kernel
theorem d_Rea_acceptFact_25 : decode b_Rea_acceptFact 25 = .ok (.iconst 1, 1) := by decide +kernel
theorem d_Rea_acceptFact_26 : decode b_Rea_acceptFact 26 = .ok (.ireturn, 1) := by decide +kernel
theorem d_Rea_acceptOperator_0 : decode b_Rea_acceptOperator 0 = .ok (.aload_n 0, 1) := by decide +kernel
theorem d_Rea_acceptOperator_1 : decode b_Rea_acceptOperator 1 = .ok (.getfield 28, 3) := by decide +kernel
theorem d_Rea_acceptOperator_4 : decode b_Rea_acceptOperator 4 = .ok (.iload_n 2, 1) := by decide +kernel
theorem d_Rea_acceptOperator_5 : decode b_Rea_acceptOperator 5 = .ok (.if_icmp .ge 5, 3) := by decide +kernel
theorem d_Rea_acceptOperator_8 : decode b_Rea_acceptOperator 8 = .ok (.iconst 0, 1) := by decide +kernel
theorem d_Rea_acceptOperator_9 : decode b_Rea_acceptOperator 9 = .ok (.ireturn, 1) := by decide +kernel
theorem d_Rea_acceptOperator_10 : decode b_Rea_acceptOperator 10 = .ok (.aload_n 0, 1) := by decide +kernel
theorem d_Rea_acceptOperator_11 : decode b_Rea_acceptOperator 11 = .ok (.aload_n 0, 1) := by decide +kernel
theorem d_Rea_acceptOperator_12 : decode b_Rea_acceptOperator 12 = .ok (.getfield 28, 3) := by decide +kernel
theorem d_Rea_acceptOperator_15 : decode b_Rea_acceptOperator 15 = .ok (.iload_n 2, 1) := by decide +kernel
theorem d_Rea_acceptOperator_16 : decode b_Rea_acceptOperator 16 = .ok (.isub, 1) := by decide +kernel
theorem d_Rea_acceptOperator_17 : decode b_Rea_acceptOperator 17 = .ok (.iconst 1, 1) := by decide +kernel
theorem d_Rea_acceptOperator_18 : decode b_Rea_acceptOperator 18 = .ok (.iadd, 1) := by decide +kernel
theorem d_Rea_acceptOperator_19 : decode b_Rea_acceptOperator 19 = .ok (.putfield 28, 3) := by decide +kernel
theorem d_Rea_acceptOperator_22 : decode b_Rea_acceptOperator 22 = .ok (.aload_n 3, 1) := by decide +kernel
theorem d_Rea_acceptOperator_23 : decode b_Rea_acceptOperator 23 = .ok (.iload_n 1, 1) := by decide +kernel
theorem d_Rea_acceptOperator_24 : decode b_Rea_acceptOperator 24 = .ok (.invokevirtual 70, 3) := by decide +kernel
theorem d_Rea_acceptOperator_27 : decode b_Rea_acceptOperator 27 = .ok (.iconst 1, 1) := by decide +kernel
theorem d_Rea_acceptOperator_28 : decode b_Rea_acceptOperator 28 = .ok (.ireturn, 1) := by decide +kernel
theorem d_Rea_acceptEnd_0 : decode b_Rea_acceptEnd 0 = .ok (.aload_n 0, 1) := by decide +kernel
theorem d_Rea_acceptEnd_1 : decode b_Rea_acceptEnd 1 = .ok (.getfield 28, 3) := by decide +kernel
theorem d_Rea_acceptEnd_4 : decode b_Rea_acceptEnd 4 = .ok (.iconst 1, 1) := by decide +kernel
theorem d_Rea_acceptEnd_5 : decode b_Rea_acceptEnd 5 = .ok (.if_icmp .eq 5, 3) := by decide +kernel
theorem d_Rea_acceptEnd_8 : decode b_Rea_acceptEnd 8 = .ok (.iconst 0, 1) := by decide +kernel
theorem d_Rea_acceptEnd_9 : decode b_Rea_acceptEnd 9 = .ok (.ireturn, 1) := by decide +kernel
theorem d_Rea_acceptEnd_10 : decode b_Rea_acceptEnd 10 = .ok (.aload_n 0, 1) := by decide +kernel
theorem d_Rea_acceptEnd_11 : decode b_Rea_acceptEnd 11 = .ok (.iconst 0, 1) := by decide +kernel
theorem d_Rea_acceptEnd_12 : decode b_Rea_acceptEnd 12 = .ok (.putfield 28, 3) := by decide +kernel
theorem d_Rea_acceptEnd_15 : decode b_Rea_acceptEnd 15 = .ok (.aload_n 2, 1) := by decide +kernel
theorem d_Rea_acceptEnd_16 : decode b_Rea_acceptEnd 16 = .ok (.iload_n 1, 1) := by decide +kernel
theorem d_Rea_acceptEnd_17 : decode b_Rea_acceptEnd 17 = .ok (.invokevirtual 74, 3) := by decide +kernel
theorem d_Rea_acceptEnd_20 : decode b_Rea_acceptEnd 20 = .ok (.iconst 1, 1) := by decide +kernel
theorem d_Rea_acceptEnd_21 : decode b_Rea_acceptEnd 21 = .ok (.ireturn, 1) := by decide +kernel
theorem d_Rec_reckon_0 : decode b_Rec_reckon 0 = .ok (.aload_n 0, 1) := by decide +kernel
theorem d_Rec_reckon_1 : decode b_Rec_reckon 1 = .ok (.getfield 12, 3) := by decide +kernel
theorem d_Rec_reckon_4 : decode b_Rec_reckon 4 = .ok (.lconst 0, 1) := by decide +kernel
theorem d_Rec_reckon_5 : decode b_Rec_reckon 5 = .ok (.lconst 1, 1) := by decide +kernel
theorem d_Rec_reckon_6 : decode b_Rec_reckon 6 = .ok (.invokevirtual 32, 3) := by decide +kernel
theorem d_Rec_reckon_9 : decode b_Rec_reckon 9 = .ok (.pop, 1) := by decide +kernel
theorem d_Rec_reckon_10 : decode b_Rec_reckon 10 = .ok (.aload_n 0, 1) := by decide +kernel
theorem d_Rec_reckon_11 : decode b_Rec_reckon 11 = .ok (.iconst 0, 1) := by decide +kernel
theorem d_Rec_reckon_12 : decode b_Rec_reckon 12 = .ok (.putfield 36, 3) := by decide +kernel
theorem d_Rec_reckon_15 : decode b_Rec_reckon 15 = .ok (.iconst 0, 1) := by decide +kernel
theorem d_Rec_reckon_16 : decode b_Rec_reckon 16 = .ok (.istore_n 3, 1) := by decide +kernel
theorem d_Rec_reckon_17 : decode b_Rec_reckon 17 = .ok (.iload_n 3, 1) := by decide +kernel
theorem d_Rec_reckon_18 : decode b_Rec_reckon 18 = .ok (.aload_n 1, 1) := by decide +kernel
theorem d_Rec_reckon_19 : decode b_Rec_reckon 19 = .ok (.getfield 40, 3) := by decide +kernel
theorem d_Rec_reckon_22 : decode b_Rec_reckon 22 = .ok (.if_icmp .ge 22, 3) := by decide +kernel
theorem d_Rec_reckon_25 : decode b_Rec_reckon 25 = .ok (.iload_n 3, 1) := by decide +kernel
theorem d_Rec_reckon_26 : decode b_Rec_reckon 26 = .ok (.bipush 16, 2) := by decide +kernel
theorem d_Rec_reckon_28 : decode b_Rec_reckon 28 = .ok (.if_icmp .ge 16, 3) := by decide +kernel
theorem d_Rec_reckon_31 : decode b_Rec_reckon 31 = .ok (.aload_n 0, 1) := by decide +kernel
theorem d_Rec_reckon_32 : decode b_Rec_reckon 32 = .ok (.iload_n 3, 1) := by decide +kernel
theorem d_Rec_reckon_33 : decode b_Rec_reckon 33 = .ok (.aload_n 1, 1) := by decide +kernel
theorem d_Rec_reckon_34 : decode b_Rec_reckon 34 = .ok (.aload_n 2, 1) := by decide +kernel
theorem d_Rec_reckon_35 : decode b_Rec_reckon 35 = .ok (.invokevirtual 45, 3) := by decide +kernel
theorem d_Rec_reckon_38 : decode b_Rec_reckon 38 = .ok (.iinc 3 1, 3) := by decide +kernel
theorem d_Rec_reckon_41 : decode b_Rec_reckon 41 = .ok (.goto (-24), 3) := by decide +kernel
theorem d_Rec_reckon_44 : decode b_Rec_reckon 44 = .ok (.aload_n 0, 1) := by decide +kernel
theorem d_Rec_reckon_45 : decode b_Rec_reckon 45 = .ok (.getfield 12, 3) := by decide +kernel
theorem d_Rec_reckon_48 : decode b_Rec_reckon 48 = .ok (.invokevirtual 49, 3) := by decide +kernel
theorem d_Rec_reckon_51 : decode b_Rec_reckon 51 = .ok (.lreturn, 1) := by decide +kernel
theorem d_Rec_reckonLine_0 : decode b_Rec_reckonLine 0 = .ok (.aload_n 2, 1) := by decide +kernel
theorem d_Rec_reckonLine_1 : decode b_Rec_reckonLine 1 = .ok (.iload_n 1, 1) := by decide +kernel
theorem d_Rec_reckonLine_2 : decode b_Rec_reckonLine 2 = .ok (.invokevirtual 64, 3) := by decide +kernel
theorem d_Rec_reckonLine_5 : decode b_Rec_reckonLine 5 = .ok (.istore 4, 2) := by decide +kernel
theorem d_Rec_reckonLine_7 : decode b_Rec_reckonLine 7 = .ok (.aload_n 2, 1) := by decide +kernel
theorem d_Rec_reckonLine_8 : decode b_Rec_reckonLine 8 = .ok (.iload_n 1, 1) := by decide +kernel
theorem d_Rec_reckonLine_9 : decode b_Rec_reckonLine 9 = .ok (.invokevirtual 68, 3) := by decide +kernel
theorem d_Rec_reckonLine_12 : decode b_Rec_reckonLine 12 = .ok (.istore 5, 2) := by decide +kernel
theorem d_Rec_reckonLine_14 : decode b_Rec_reckonLine 14 = .ok (.iconst 0, 1) := by decide +kernel
theorem d_Rec_reckonLine_15 : decode b_Rec_reckonLine 15 = .ok (.istore 6, 2) := by decide +kernel
theorem d_Rec_reckonLine_17 : decode b_Rec_reckonLine 17 = .ok (.iconst (-1), 1) := by decide +kernel
theorem d_Rec_reckonLine_18 : decode b_Rec_reckonLine 18 = .ok (.istore 7, 2) := by decide +kernel
theorem d_Rec_reckonLine_20 : decode b_Rec_reckonLine 20 = .ok (.aload_n 0, 1) := by decide +kernel
theorem d_Rec_reckonLine_21 : decode b_Rec_reckonLine 21 = .ok (.iconst 0, 1) := by decide +kernel
theorem d_Rec_reckonLine_22 : decode b_Rec_reckonLine 22 = .ok (.putfield 71, 3) := by decide +kernel
theorem d_Rec_reckonLine_25 : decode b_Rec_reckonLine 25 = .ok (.iload 4, 2) := by decide +kernel
theorem d_Rec_reckonLine_27 : decode b_Rec_reckonLine 27 = .ok (.istore 8, 2) := by decide +kernel
theorem d_Rec_reckonLine_29 : decode b_Rec_reckonLine 29 = .ok (.iload 8, 2) := by decide +kernel
theorem d_Rec_reckonLine_31 : decode b_Rec_reckonLine 31 = .ok (.iload 5, 2) := by decide +kernel
theorem d_Rec_reckonLine_33 : decode b_Rec_reckonLine 33 = .ok (.if_icmp .gt 61, 3) := by decide +kernel
theorem d_Rec_reckonLine_36 : decode b_Rec_reckonLine 36 = .ok (.iload 6, 2) := by decide +kernel
theorem d_Rec_reckonLine_38 : decode b_Rec_reckonLine 38 = .ok (.ifCond .ne 56, 3) := by decide +kernel
theorem d_Rec_reckonLine_41 : decode b_Rec_reckonLine 41 = .ok (.aload_n 2, 1) := by decide +kernel
theorem d_Rec_reckonLine_42 : decode b_Rec_reckonLine 42 = .ok (.iload 8, 2) := by decide +kernel
theorem d_Rec_reckonLine_44 : decode b_Rec_reckonLine 44 = .ok (.invokevirtual 74, 3) := by decide +kernel
theorem d_Rec_reckonLine_47 : decode b_Rec_reckonLine 47 = .ok (.istore 9, 2) := by decide +kernel
theorem d_Rec_reckonLine_49 : decode b_Rec_reckonLine 49 = .ok (.iload 8, 2) := by decide +kernel
theorem d_Rec_reckonLine_51 : decode b_Rec_reckonLine 51 = .ok (.iload 5, 2) := by decide +kernel
theorem d_Rec_reckonLine_53 : decode b_Rec_reckonLine 53 = .ok (.if_icmp .ge 13, 3) := by decide +kernel
theorem d_Rec_reckonLine_56 : decode b_Rec_reckonLine 56 = .ok (.aload_n 0, 1) := by decide +kernel
theorem d_Rec_reckonLine_57 : decode b_Rec_reckonLine 57 = .ok (.iload 9, 2) := by decide +kernel
theorem d_Rec_reckonLine_59 : decode b_Rec_reckonLine 59 = .ok (.aload_n 3, 1) := by decide +kernel
theorem d_Rec_reckonLine_60 : decode b_Rec_reckonLine 60 = .ok (.invokevirtual 77, 3) := by decide +kernel
theorem d_Rec_reckonLine_63 : decode b_Rec_reckonLine 63 = .ok (.goto 16, 3) := by decide +kernel
theorem d_Rec_reckonLine_66 : decode b_Rec_reckonLine 66 = .ok (.aload_n 0, 1) := by decide +kernel
theorem d_Rec_reckonLine_67 : decode b_Rec_reckonLine 67 = .ok (.iload 9, 2) := by decide +kernel
theorem d_Rec_reckonLine_69 : decode b_Rec_reckonLine 69 = .ok (.ineg, 1) := by decide +kernel
theorem d_Rec_reckonLine_70 : decode b_Rec_reckonLine 70 = .ok (.aload_n 0, 1) := by decide +kernel
theorem d_Rec_reckonLine_71 : decode b_Rec_reckonLine 71 = .ok (.getfield 22, 3) := by decide +kernel
theorem d_Rec_reckonLine_74 : decode b_Rec_reckonLine 74 = .ok (.iload_n 1, 1) := by decide +kernel
theorem d_Rec_reckonLine_75 : decode b_Rec_reckonLine 75 = .ok (.aaload, 1) := by decide +kernel
theorem d_Rec_reckonLine_76 : decode b_Rec_reckonLine 76 = .ok (.invokevirtual 81, 3) := by decide +kernel
theorem d_Rec_reckonLine_79 : decode b_Rec_reckonLine 79 = .ok (.istore 6, 2) := by decide +kernel
theorem d_Rec_reckonLine_81 : decode b_Rec_reckonLine 81 = .ok (.iload 8, 2) := by decide +kernel
theorem d_Rec_reckonLine_83 : decode b_Rec_reckonLine 83 = .ok (.iload 4, 2) := by decide +kernel
theorem d_Rec_reckonLine_85 : decode b_Rec_reckonLine 85 = .ok (.isub, 1) := by decide +kernel
theorem d_Rec_reckonLine_86 : decode b_Rec_reckonLine 86 = .ok (.istore 7, 2) := by decide +kernel
theorem d_Rec_reckonLine_88 : decode b_Rec_reckonLine 88 = .ok (.iinc 8 1, 3) := by decide +kernel
theorem d_Rec_reckonLine_91 : decode b_Rec_reckonLine 91 = .ok (.goto (-62), 3) := by decide +kernel
theorem d_Rec_reckonLine_94 : decode b_Rec_reckonLine 94 = .ok (.aload_n 0, 1) := by decide +kernel
theorem d_Rec_reckonLine_95 : decode b_Rec_reckonLine 95 = .ok (.getfield 25, 3) := by decide +kernel
theorem d_Rec_reckonLine_98 : decode b_Rec_reckonLine 98 = .ok (.iload_n 1, 1) := by decide +kernel
theorem d_Rec_reckonLine_99 : decode b_Rec_reckonLine 99 = .ok (.iload 6, 2) := by decide +kernel
theorem d_Rec_reckonLine_101 : decode b_Rec_reckonLine 101 = .ok (.iastore, 1) := by decide +kernel
theorem d_Rec_reckonLine_102 : decode b_Rec_reckonLine 102 = .ok (.aload_n 0, 1) := by decide +kernel
theorem d_Rec_reckonLine_103 : decode b_Rec_reckonLine 103 = .ok (.getfield 29, 3) := by decide +kernel
theorem d_Rec_reckonLine_106 : decode b_Rec_reckonLine 106 = .ok (.iload_n 1, 1) := by decide +kernel
theorem d_Rec_reckonLine_107 : decode b_Rec_reckonLine 107 = .ok (.iload 6, 2) := by decide +kernel
theorem d_Rec_reckonLine_109 : decode b_Rec_reckonLine 109 = .ok (.ifCond .ne 7, 3) := by decide +kernel
theorem d_Rec_reckonLine_112 : decode b_Rec_reckonLine 112 = .ok (.iconst (-1), 1) := by decide +kernel
theorem d_Rec_reckonLine_113 : decode b_Rec_reckonLine 113 = .ok (.goto 5, 3) := by decide +kernel
theorem d_Rec_reckonLine_116 : decode b_Rec_reckonLine 116 = .ok (.iload 7, 2) := by decide +kernel
theorem d_Rec_reckonLine_118 : decode b_Rec_reckonLine 118 = .ok (.iastore, 1) := by decide +kernel
theorem d_Rec_reckonLine_119 : decode b_Rec_reckonLine 119 = .ok (.iload 6, 2) := by decide +kernel
theorem d_Rec_reckonLine_121 : decode b_Rec_reckonLine 121 = .ok (.ifCond .eq 25, 3) := by decide +kernel
theorem d_Rec_reckonLine_124 : decode b_Rec_reckonLine 124 = .ok (.aload_n 0, 1) := by decide +kernel
theorem d_Rec_reckonLine_125 : decode b_Rec_reckonLine 125 = .ok (.getfield 22, 3) := by decide +kernel
theorem d_Rec_reckonLine_128 : decode b_Rec_reckonLine 128 = .ok (.iload_n 1, 1) := by decide +kernel
theorem d_Rec_reckonLine_129 : decode b_Rec_reckonLine 129 = .ok (.aaload, 1) := by decide +kernel
theorem d_Rec_reckonLine_130 : decode b_Rec_reckonLine 130 = .ok (.lconst 0, 1) := by decide +kernel
theorem d_Rec_reckonLine_131 : decode b_Rec_reckonLine 131 = .ok (.lconst 1, 1) := by decide +kernel
theorem d_Rec_reckonLine_132 : decode b_Rec_reckonLine 132 = .ok (.invokevirtual 32, 3) := by decide +kernel
theorem d_Rec_reckonLine_135 : decode b_Rec_reckonLine 135 = .ok (.pop, 1) := by decide +kernel
theorem d_Rec_reckonLine_136 : decode b_Rec_reckonLine 136 = .ok (.aload_n 0, 1) := by decide +kernel
theorem d_Rec_reckonLine_137 : decode b_Rec_reckonLine 137 = .ok (.dup, 1) := by decide +kernel
theorem d_Rec_reckonLine_138 : decode b_Rec_reckonLine 138 = .ok (.getfield 36, 3) := by decide +kernel
theorem d_Rec_reckonLine_141 : decode b_Rec_reckonLine 141 = .ok (.iconst 1, 1) := by decide +kernel
theorem d_Rec_reckonLine_142 : decode b_Rec_reckonLine 142 = .ok (.iadd, 1) := by decide +kernel
theorem d_Rec_reckonLine_143 : decode b_Rec_reckonLine 143 = .ok (.putfield 36, 3) := by decide +kernel
theorem d_Rec_reckonLine_146 : decode b_Rec_reckonLine 146 = .ok (.return_, 1) := by decide +kernel
theorem d_Rec_apply_0 : decode b_Rec_apply 0 = .ok (.iload_n 1, 1) := by decide +kernel
theorem d_Rec_apply_1 : decode b_Rec_apply 1 = .ok (.ineg, 1) := by decide +kernel
theorem d_Rec_apply_2 : decode b_Rec_apply 2 = .ok (.istore_n 3, 1) := by decide +kernel
theorem d_Rec_apply_3 : decode b_Rec_apply 3 = .ok (.iload_n 1, 1) := by decide +kernel
theorem d_Rec_apply_4 : decode b_Rec_apply 4 = .ok (.ifCond .lt 10, 3) := by decide +kernel
theorem d_Rec_apply_7 : decode b_Rec_apply 7 = .ok (.aload_n 0, 1) := by decide +kernel
theorem d_Rec_apply_8 : decode b_Rec_apply 8 = .ok (.iload_n 1, 1) := by decide +kernel
theorem d_Rec_apply_9 : decode b_Rec_apply 9 = .ok (.iconst 1, 1) := by decide +kernel
theorem d_Rec_apply_10 : decode b_Rec_apply 10 = .ok (.invokevirtual 85, 3) := by decide +kernel
theorem d_Rec_apply_13 : decode b_Rec_apply 13 = .ok (.ireturn, 1) := by decide +kernel
theorem d_Rec_apply_14 : decode b_Rec_apply 14 = .ok (.iload_n 3, 1) := by decide +kernel
theorem d_Rec_apply_15 : decode b_Rec_apply 15 = .ok (.invokestatic 89, 3) := by decide +kernel
theorem d_Rec_apply_18 : decode b_Rec_apply 18 = .ok (.ifCond .eq 30, 3) := by decide +kernel
theorem d_Rec_apply_21 : decode b_Rec_apply 21 = .ok (.aload_n 2, 1) := by decide +kernel
theorem d_Rec_apply_22 : decode b_Rec_apply 22 = .ok (.iload_n 3, 1) := by decide +kernel
theorem d_Rec_apply_23 : decode b_Rec_apply 23 = .ok (.invokevirtual 93, 3) := by decide +kernel
theorem d_Rec_apply_26 : decode b_Rec_apply 26 = .ok (.ifCond .eq 20, 3) := by decide +kernel
theorem d_Rec_apply_29 : decode b_Rec_apply 29 = .ok (.aload_n 0, 1) := by decide +kernel
theorem d_Rec_apply_30 : decode b_Rec_apply 30 = .ok (.aload_n 2, 1) := by decide +kernel
theorem d_Rec_apply_31 : decode b_Rec_apply 31 = .ok (.iload_n 3, 1) := by decide +kernel
theorem d_Rec_apply_32 : decode b_Rec_apply 32 = .ok (.invokevirtual 98, 3) := by decide +kernel
theorem d_Rec_apply_35 : decode b_Rec_apply 35 = .ok (.aload_n 2, 1) := by decide +kernel
theorem d_Rec_apply_36 : decode b_Rec_apply 36 = .ok (.iload_n 3, 1) := by decide +kernel
theorem d_Rec_apply_37 : decode b_Rec_apply 37 = .ok (.invokevirtual 101, 3) := by decide +kernel
theorem d_Rec_apply_40 : decode b_Rec_apply 40 = .ok (.invokevirtual 85, 3) := by decide +kernel
theorem d_Rec_apply_43 : decode b_Rec_apply 43 = .ok (.goto 4, 3) := by decide +kernel
theorem d_Rec_apply_46 : decode b_Rec_apply 46 = .ok (.iconst 1, 1) := by decide +kernel
theorem d_Rec_apply_47 : decode b_Rec_apply 47 = .ok (.ireturn, 1) := by decide +kernel
theorem d_Rec_apply_48 : decode b_Rec_apply 48 = .ok (.aload_n 0, 1) := by decide +kernel
theorem d_Rec_apply_49 : decode b_Rec_apply 49 = .ok (.aload_n 0, 1) := by decide +kernel
theorem d_Rec_apply_50 : decode b_Rec_apply 50 = .ok (.getfield 71, 3) := by decide +kernel
theorem d_Rec_apply_53 : decode b_Rec_apply 53 = .ok (.iconst 1, 1) := by decide +kernel
theorem d_Rec_apply_54 : decode b_Rec_apply 54 = .ok (.isub, 1) := by decide +kernel
theorem d_Rec_apply_55 : decode b_Rec_apply 55 = .ok (.invokevirtual 104, 3) := by decide +kernel
theorem d_Rec_apply_58 : decode b_Rec_apply 58 = .ok (.astore 4, 2) := by decide +kernel
theorem d_Rec_apply_60 : decode b_Rec_apply 60 = .ok (.iload_n 3, 1) := by decide +kernel
theorem d_Rec_apply_61 : decode b_Rec_apply 61 = .ok (.bipush 114, 2) := by decide +kernel
theorem d_Rec_apply_63 : decode b_Rec_apply 63 = .ok (.if_icmp .ne 12, 3) := by decide +kernel
theorem d_Rec_apply_66 : decode b_Rec_apply 66 = .ok (.aload 4, 2) := by decide +kernel
theorem d_Rec_apply_68 : decode b_Rec_apply 68 = .ok (.invokevirtual 108, 3) := by decide +kernel
theorem d_Rec_apply_71 : decode b_Rec_apply 71 = .ok (.invokestatic 112, 3) := by decide +kernel
theorem d_Rec_apply_74 : decode b_Rec_apply 74 = .ok (.ireturn, 1) := by decide +kernel
theorem d_Rec_apply_75 : decode b_Rec_apply 75 = .ok (.aload_n 0, 1) := by decide +kernel
theorem d_Rec_apply_76 : decode b_Rec_apply 76 = .ok (.dup, 1) := by decide +kernel
theorem d_Rec_apply_77 : decode b_Rec_apply 77 = .ok (.getfield 71, 3) := by decide +kernel
theorem d_Rec_apply_80 : decode b_Rec_apply 80 = .ok (.iconst 1, 1) := by decide +kernel
theorem d_Rec_apply_81 : decode b_Rec_apply 81 = .ok (.isub, 1) := by decide +kernel
theorem d_Rec_apply_82 : decode b_Rec_apply 82 = .ok (.putfield 71, 3) := by decide +kernel
theorem d_Rec_apply_85 : decode b_Rec_apply 85 = .ok (.aload_n 0, 1) := by decide +kernel
theorem d_Rec_apply_86 : decode b_Rec_apply 86 = .ok (.aload_n 0, 1) := by decide +kernel
theorem d_Rec_apply_87 : decode b_Rec_apply 87 = .ok (.getfield 71, 3) := by decide +kernel
theorem d_Rec_apply_90 : decode b_Rec_apply 90 = .ok (.iconst 1, 1) := by decide +kernel
theorem d_Rec_apply_91 : decode b_Rec_apply 91 = .ok (.isub, 1) := by decide +kernel
theorem d_Rec_apply_92 : decode b_Rec_apply 92 = .ok (.invokevirtual 104, 3) := by decide +kernel
theorem d_Rec_apply_95 : decode b_Rec_apply 95 = .ok (.astore 5, 2) := by decide +kernel
theorem d_Rec_apply_97 : decode b_Rec_apply 97 = .ok (.iload_n 3, 1) := by decide +kernel
theorem d_Rec_apply_98 : decode b_Rec_apply 98 = .ok (.lookupswitch 132 #[(42, 72), (43, 50), (45, 61), (47, 83), (60, 108)], 50) := by decide +kernel
theorem d_Rec_apply_148 : decode b_Rec_apply 148 = .ok (.aload 5, 2) := by decide +kernel
theorem d_Rec_apply_150 : decode b_Rec_apply 150 = .ok (.aload 4, 2) := by decide +kernel
theorem d_Rec_apply_152 : decode b_Rec_apply 152 = .ok (.invokevirtual 116, 3) := by decide +kernel
theorem d_Rec_apply_155 : decode b_Rec_apply 155 = .ok (.invokestatic 112, 3) := by decide +kernel
theorem d_Rec_apply_158 : decode b_Rec_apply 158 = .ok (.ireturn, 1) := by decide +kernel
theorem d_Rec_apply_159 : decode b_Rec_apply 159 = .ok (.aload 5, 2) := by decide +kernel
theorem d_Rec_apply_161 : decode b_Rec_apply 161 = .ok (.aload 4, 2) := by decide +kernel
theorem d_Rec_apply_163 : decode b_Rec_apply 163 = .ok (.invokevirtual 120, 3) := by decide +kernel
theorem d_Rec_apply_166 : decode b_Rec_apply 166 = .ok (.invokestatic 112, 3) := by decide +kernel
theorem d_Rec_apply_169 : decode b_Rec_apply 169 = .ok (.ireturn, 1) := by decide +kernel
theorem d_Rec_apply_170 : decode b_Rec_apply 170 = .ok (.aload 5, 2) := by decide +kernel
theorem d_Rec_apply_172 : decode b_Rec_apply 172 = .ok (.aload 4, 2) := by decide +kernel
theorem d_Rec_apply_174 : decode b_Rec_apply 174 = .ok (.invokevirtual 123, 3) := by decide +kernel
theorem d_Rec_apply_177 : decode b_Rec_apply 177 = .ok (.invokestatic 112, 3) := by decide +kernel
theorem d_Rec_apply_180 : decode b_Rec_apply 180 = .ok (.ireturn, 1) := by decide +kernel
theorem d_Rec_apply_181 : decode b_Rec_apply 181 = .ok (.aload 4, 2) := by decide +kernel
theorem d_Rec_apply_183 : decode b_Rec_apply 183 = .ok (.getfield 57, 3) := by decide +kernel
theorem d_Rec_apply_186 : decode b_Rec_apply 186 = .ok (.lconst 0, 1) := by decide +kernel
theorem d_Rec_apply_187 : decode b_Rec_apply 187 = .ok (.lcmp, 1) := by decide +kernel
theorem d_Rec_apply_188 : decode b_Rec_apply 188 = .ok (.ifCond .ne 7, 3) := by decide +kernel
theorem d_Rec_apply_191 : decode b_Rec_apply 191 = .ok (.iconst 2, 1) := by decide +kernel
theorem d_Rec_apply_192 : decode b_Rec_apply 192 = .ok (.goto 13, 3) := by decide +kernel
theorem d_Rec_apply_195 : decode b_Rec_apply 195 = .ok (.aload 5, 2) := by decide +kernel
theorem d_Rec_apply_197 : decode b_Rec_apply 197 = .ok (.aload 4, 2) := by decide +kernel
theorem d_Rec_apply_199 : decode b_Rec_apply 199 = .ok (.invokevirtual 126, 3) := by decide +kernel
theorem d_Rec_apply_202 : decode b_Rec_apply 202 = .ok (.invokestatic 112, 3) := by decide +kernel
theorem d_Rec_apply_205 : decode b_Rec_apply 205 = .ok (.ireturn, 1) := by decide +kernel
theorem d_Rec_apply_206 : decode b_Rec_apply 206 = .ok (.aload 5, 2) := by decide +kernel
theorem d_Rec_apply_208 : decode b_Rec_apply 208 = .ok (.aload 4, 2) := by decide +kernel
theorem d_Rec_apply_210 : decode b_Rec_apply 210 = .ok (.aload 5, 2) := by decide +kernel
theorem d_Rec_apply_212 : decode b_Rec_apply 212 = .ok (.invokevirtual 129, 3) := by decide +kernel
theorem d_Rec_apply_215 : decode b_Rec_apply 215 = .ok (.ifCond .eq 8, 3) := by decide +kernel
theorem d_Rec_apply_218 : decode b_Rec_apply 218 = .ok (.aload 4, 2) := by decide +kernel
theorem d_Rec_apply_220 : decode b_Rec_apply 220 = .ok (.goto 5, 3) := by decide +kernel
theorem d_Rec_apply_223 : decode b_Rec_apply 223 = .ok (.aload 5, 2) := by decide +kernel
theorem d_Rec_apply_225 : decode b_Rec_apply 225 = .ok (.invokevirtual 132, 3) := by decide +kernel
theorem d_Rec_apply_228 : decode b_Rec_apply 228 = .ok (.iconst 0, 1) := by decide +kernel
theorem d_Rec_apply_229 : decode b_Rec_apply 229 = .ok (.ireturn, 1) := by decide +kernel
theorem d_Rec_apply_230 : decode b_Rec_apply 230 = .ok (.aload 5, 2) := by decide +kernel
theorem d_Rec_apply_232 : decode b_Rec_apply 232 = .ok (.aload 5, 2) := by decide +kernel
theorem d_Rec_apply_234 : decode b_Rec_apply 234 = .ok (.aload 4, 2) := by decide +kernel
theorem d_Rec_apply_236 : decode b_Rec_apply 236 = .ok (.invokevirtual 129, 3) := by decide +kernel
theorem d_Rec_apply_239 : decode b_Rec_apply 239 = .ok (.ifCond .eq 8, 3) := by decide +kernel
theorem d_Rec_apply_242 : decode b_Rec_apply 242 = .ok (.aload 4, 2) := by decide +kernel
theorem d_Rec_apply_244 : decode b_Rec_apply 244 = .ok (.goto 5, 3) := by decide +kernel
theorem d_Rec_apply_247 : decode b_Rec_apply 247 = .ok (.aload 5, 2) := by decide +kernel
theorem d_Rec_apply_249 : decode b_Rec_apply 249 = .ok (.invokevirtual 132, 3) := by decide +kernel
theorem d_Rec_apply_252 : decode b_Rec_apply 252 = .ok (.iconst 0, 1) := by decide +kernel
theorem d_Rec_apply_253 : decode b_Rec_apply 253 = .ok (.ireturn, 1) := by decide +kernel
theorem d_Rec_lay_0 : decode b_Rec_lay 0 = .ok (.aload_n 0, 1) := by decide +kernel
theorem d_Rec_lay_1 : decode b_Rec_lay 1 = .ok (.dup, 1) := by decide +kernel
theorem d_Rec_lay_2 : decode b_Rec_lay 2 = .ok (.getfield 71, 3) := by decide +kernel
theorem d_Rec_lay_5 : decode b_Rec_lay 5 = .ok (.iconst 1, 1) := by decide +kernel
theorem d_Rec_lay_6 : decode b_Rec_lay 6 = .ok (.iadd, 1) := by decide +kernel
theorem d_Rec_lay_7 : decode b_Rec_lay 7 = .ok (.putfield 71, 3) := by decide +kernel
theorem d_Rec_lay_10 : decode b_Rec_lay 10 = .ok (.aload_n 0, 1) := by decide +kernel
theorem d_Rec_lay_11 : decode b_Rec_lay 11 = .ok (.aload_n 0, 1) := by decide +kernel
theorem d_Rec_lay_12 : decode b_Rec_lay 12 = .ok (.getfield 71, 3) := by decide +kernel
theorem d_Rec_lay_15 : decode b_Rec_lay 15 = .ok (.iconst 1, 1) := by decide +kernel
theorem d_Rec_lay_16 : decode b_Rec_lay 16 = .ok (.isub, 1) := by decide +kernel
theorem d_Rec_lay_17 : decode b_Rec_lay 17 = .ok (.invokevirtual 104, 3) := by decide +kernel
theorem d_Rec_lay_20 : decode b_Rec_lay 20 = .ok (.iload_n 1, 1) := by decide +kernel
theorem d_Rec_lay_21 : decode b_Rec_lay 21 = .ok (.i2l, 1) := by decide +kernel
theorem d_Rec_lay_22 : decode b_Rec_lay 22 = .ok (.iload_n 2, 1) := by decide +kernel
theorem d_Rec_lay_23 : decode b_Rec_lay 23 = .ok (.i2l, 1) := by decide +kernel
theorem d_Rec_lay_24 : decode b_Rec_lay 24 = .ok (.invokevirtual 32, 3) := by decide +kernel
theorem d_Rec_lay_27 : decode b_Rec_lay 27 = .ok (.invokestatic 112, 3) := by decide +kernel
theorem d_Rec_lay_30 : decode b_Rec_lay 30 = .ok (.ireturn, 1) := by decide +kernel
theorem d_Rec_stackedAt_0 : decode b_Rec_stackedAt 0 = .ok (.iload_n 1, 1) := by decide +kernel
theorem d_Rec_stackedAt_1 : decode b_Rec_stackedAt 1 = .ok (.aload_n 0, 1) := by decide +kernel
theorem d_Rec_stackedAt_2 : decode b_Rec_stackedAt 2 = .ok (.getfield 18, 3) := by decide +kernel
theorem d_Rec_stackedAt_5 : decode b_Rec_stackedAt 5 = .ok (.arraylength, 1) := by decide +kernel
theorem d_Rec_stackedAt_6 : decode b_Rec_stackedAt 6 = .ok (.invokestatic 53, 3) := by decide +kernel
theorem d_Rec_stackedAt_9 : decode b_Rec_stackedAt 9 = .ok (.ifCond .eq 12, 3) := by decide +kernel
theorem d_Rec_stackedAt_12 : decode b_Rec_stackedAt 12 = .ok (.aload_n 0, 1) := by decide +kernel
theorem d_Rec_stackedAt_13 : decode b_Rec_stackedAt 13 = .ok (.getfield 18, 3) := by decide +kernel
theorem d_Rec_stackedAt_16 : decode b_Rec_stackedAt 16 = .ok (.iload_n 1, 1) := by decide +kernel
theorem d_Rec_stackedAt_17 : decode b_Rec_stackedAt 17 = .ok (.aaload, 1) := by decide +kernel
theorem d_Rec_stackedAt_18 : decode b_Rec_stackedAt 18 = .ok (.goto 9, 3) := by decide +kernel
theorem d_Rec_stackedAt_21 : decode b_Rec_stackedAt 21 = .ok (.aload_n 0, 1) := by decide +kernel
theorem d_Rec_stackedAt_22 : decode b_Rec_stackedAt 22 = .ok (.getfield 18, 3) := by decide +kernel
theorem d_Rec_stackedAt_25 : decode b_Rec_stackedAt 25 = .ok (.iconst 0, 1) := by decide +kernel
theorem d_Rec_stackedAt_26 : decode b_Rec_stackedAt 26 = .ok (.aaload, 1) := by decide +kernel
theorem d_Rec_stackedAt_27 : decode b_Rec_stackedAt 27 = .ok (.areturn, 1) := by decide +kernel
theorem d_Rec_reasonUnless_0 : decode b_Rec_reasonUnless 0 = .ok (.iload_n 0, 1) := by decide +kernel
theorem d_Rec_reasonUnless_1 : decode b_Rec_reasonUnless 1 = .ok (.ifCond .eq 7, 3) := by decide +kernel
theorem d_Rec_reasonUnless_4 : decode b_Rec_reasonUnless 4 = .ok (.iconst 0, 1) := by decide +kernel
theorem d_Rec_reasonUnless_5 : decode b_Rec_reasonUnless 5 = .ok (.goto 4, 3) := by decide +kernel
theorem d_Rec_reasonUnless_8 : decode b_Rec_reasonUnless 8 = .ok (.iconst 3, 1) := by decide +kernel
theorem d_Rec_reasonUnless_9 : decode b_Rec_reasonUnless 9 = .ok (.ireturn, 1) := by decide +kernel
theorem d_Rec_endLine_0 : decode b_Rec_endLine 0 = .ok (.aload_n 2, 1) := by decide +kernel
theorem d_Rec_endLine_1 : decode b_Rec_endLine 1 = .ok (.aload_n 0, 1) := by decide +kernel
theorem d_Rec_endLine_2 : decode b_Rec_endLine 2 = .ok (.iconst 0, 1) := by decide +kernel
theorem d_Rec_endLine_3 : decode b_Rec_endLine 3 = .ok (.invokevirtual 104, 3) := by decide +kernel
theorem d_Rec_endLine_6 : decode b_Rec_endLine 6 = .ok (.invokevirtual 132, 3) := by decide +kernel
theorem d_Rec_endLine_9 : decode b_Rec_endLine 9 = .ok (.iconst 1, 1) := by decide +kernel
theorem d_Rec_endLine_10 : decode b_Rec_endLine 10 = .ok (.istore_n 3, 1) := by decide +kernel
theorem d_Rec_endLine_11 : decode b_Rec_endLine 11 = .ok (.iload_n 1, 1) := by decide +kernel
theorem d_Rec_endLine_12 : decode b_Rec_endLine 12 = .ok (.bipush 37, 2) := by decide +kernel
theorem d_Rec_endLine_14 : decode b_Rec_endLine 14 = .ok (.if_icmp .ne 30, 3) := by decide +kernel
theorem d_Rec_endLine_17 : decode b_Rec_endLine 17 = .ok (.aload_n 2, 1) := by decide +kernel
theorem d_Rec_endLine_18 : decode b_Rec_endLine 18 = .ok (.invokevirtual 136, 3) := by decide +kernel
theorem d_Rec_endLine_21 : decode b_Rec_endLine 21 = .ok (.ifCond .eq 18, 3) := by decide +kernel
theorem d_Rec_endLine_24 : decode b_Rec_endLine 24 = .ok (.aload_n 2, 1) := by decide +kernel
theorem d_Rec_endLine_25 : decode b_Rec_endLine 25 = .ok (.aload_n 0, 1) := by decide +kernel
theorem d_Rec_endLine_26 : decode b_Rec_endLine 26 = .ok (.getfield 12, 3) := by decide +kernel
theorem d_Rec_endLine_29 : decode b_Rec_endLine 29 = .ok (.invokevirtual 123, 3) := by decide +kernel
theorem d_Rec_endLine_32 : decode b_Rec_endLine 32 = .ok (.ifCond .eq 7, 3) := by decide +kernel
theorem d_Rec_endLine_35 : decode b_Rec_endLine 35 = .ok (.iconst 1, 1) := by decide +kernel
theorem d_Rec_endLine_36 : decode b_Rec_endLine 36 = .ok (.goto 4, 3) := by decide +kernel
theorem d_Rec_endLine_39 : decode b_Rec_endLine 39 = .ok (.iconst 0, 1) := by decide +kernel
theorem d_Rec_endLine_40 : decode b_Rec_endLine 40 = .ok (.istore_n 3, 1) := by decide +kernel
theorem d_Rec_endLine_41 : decode b_Rec_endLine 41 = .ok (.goto 18, 3) := by decide +kernel
theorem d_Rec_endLine_44 : decode b_Rec_endLine 44 = .ok (.iload_n 1, 1) := by decide +kernel
theorem d_Rec_endLine_45 : decode b_Rec_endLine 45 = .ok (.bipush 61, 2) := by decide +kernel
theorem d_Rec_endLine_47 : decode b_Rec_endLine 47 = .ok (.if_icmp .ne 12, 3) := by decide +kernel
theorem d_Rec_endLine_50 : decode b_Rec_endLine 50 = .ok (.aload_n 2, 1) := by decide +kernel
theorem d_Rec_endLine_51 : decode b_Rec_endLine 51 = .ok (.aload_n 0, 1) := by decide +kernel
theorem d_Rec_endLine_52 : decode b_Rec_endLine 52 = .ok (.getfield 12, 3) := by decide +kernel
theorem d_Rec_endLine_55 : decode b_Rec_endLine 55 = .ok (.invokevirtual 120, 3) := by decide +kernel
theorem d_Rec_endLine_58 : decode b_Rec_endLine 58 = .ok (.istore_n 3, 1) := by decide +kernel
theorem d_Rec_endLine_59 : decode b_Rec_endLine 59 = .ok (.iload_n 3, 1) := by decide +kernel
theorem d_Rec_endLine_60 : decode b_Rec_endLine 60 = .ok (.ifCond .eq 18, 3) := by decide +kernel
theorem d_Rec_endLine_63 : decode b_Rec_endLine 63 = .ok (.aload_n 0, 1) := by decide +kernel
theorem d_Rec_endLine_64 : decode b_Rec_endLine 64 = .ok (.getfield 12, 3) := by decide +kernel
theorem d_Rec_endLine_67 : decode b_Rec_endLine 67 = .ok (.aload_n 2, 1) := by decide +kernel
theorem d_Rec_endLine_68 : decode b_Rec_endLine 68 = .ok (.invokevirtual 116, 3) := by decide +kernel
theorem d_Rec_endLine_71 : decode b_Rec_endLine 71 = .ok (.ifCond .eq 7, 3) := by decide +kernel
theorem d_Rec_endLine_74 : decode b_Rec_endLine 74 = .ok (.iconst 1, 1) := by decide +kernel
theorem d_Rec_endLine_75 : decode b_Rec_endLine 75 = .ok (.goto 4, 3) := by decide +kernel
theorem d_Rec_endLine_78 : decode b_Rec_endLine 78 = .ok (.iconst 0, 1) := by decide +kernel
theorem d_Rec_endLine_79 : decode b_Rec_endLine 79 = .ok (.invokestatic 112, 3) := by decide +kernel
theorem d_Rec_endLine_82 : decode b_Rec_endLine 82 = .ok (.ireturn, 1) := by decide +kernel
theorem d_Rec_partOf_0 : decode b_Rec_partOf 0 = .ok (.iload_n 1, 1) := by decide +kernel
theorem d_Rec_partOf_1 : decode b_Rec_partOf 1 = .ok (.bipush 16, 2) := by decide +kernel
theorem d_Rec_partOf_3 : decode b_Rec_partOf 3 = .ok (.invokestatic 53, 3) := by decide +kernel
theorem d_Rec_partOf_6 : decode b_Rec_partOf 6 = .ok (.ifCond .ne 5, 3) := by decide +kernel
theorem d_Rec_partOf_9 : decode b_Rec_partOf 9 = .ok (.lconst 0, 1) := by decide +kernel
theorem d_Rec_partOf_10 : decode b_Rec_partOf 10 = .ok (.lreturn, 1) := by decide +kernel
theorem d_Rec_partOf_11 : decode b_Rec_partOf 11 = .ok (.iload_n 2, 1) := by decide +kernel
theorem d_Rec_partOf_12 : decode b_Rec_partOf 12 = .ok (.tableswitch 56 0 2 #[28, 38, 48], 28) := by decide +kernel
theorem d_Rec_partOf_40 : decode b_Rec_partOf 40 = .ok (.aload_n 0, 1) := by decide +kernel
theorem d_Rec_partOf_41 : decode b_Rec_partOf 41 = .ok (.getfield 22, 3) := by decide +kernel
theorem d_Rec_partOf_44 : decode b_Rec_partOf 44 = .ok (.iload_n 1, 1) := by decide +kernel
theorem d_Rec_partOf_45 : decode b_Rec_partOf 45 = .ok (.aaload, 1) := by decide +kernel
theorem d_Rec_partOf_46 : decode b_Rec_partOf 46 = .ok (.getfield 57, 3) := by decide +kernel
theorem d_Rec_partOf_49 : decode b_Rec_partOf 49 = .ok (.lreturn, 1) := by decide +kernel
theorem d_Rec_partOf_50 : decode b_Rec_partOf 50 = .ok (.aload_n 0, 1) := by decide +kernel
theorem d_Rec_partOf_51 : decode b_Rec_partOf 51 = .ok (.getfield 22, 3) := by decide +kernel
theorem d_Rec_partOf_54 : decode b_Rec_partOf 54 = .ok (.iload_n 1, 1) := by decide +kernel
theorem d_Rec_partOf_55 : decode b_Rec_partOf 55 = .ok (.aaload, 1) := by decide +kernel
theorem d_Rec_partOf_56 : decode b_Rec_partOf 56 = .ok (.getfield 61, 3) := by decide +kernel
theorem d_Rec_partOf_59 : decode b_Rec_partOf 59 = .ok (.lreturn, 1) := by decide +kernel
theorem d_Rec_partOf_60 : decode b_Rec_partOf 60 = .ok (.aload_n 0, 1) := by decide +kernel
theorem d_Rec_partOf_61 : decode b_Rec_partOf 61 = .ok (.getfield 25, 3) := by decide +kernel
theorem d_Rec_partOf_64 : decode b_Rec_partOf 64 = .ok (.iload_n 1, 1) := by decide +kernel
theorem d_Rec_partOf_65 : decode b_Rec_partOf 65 = .ok (.iaload, 1) := by decide +kernel
theorem d_Rec_partOf_66 : decode b_Rec_partOf 66 = .ok (.i2l, 1) := by decide +kernel
theorem d_Rec_partOf_67 : decode b_Rec_partOf 67 = .ok (.lreturn, 1) := by decide +kernel
theorem d_Rec_partOf_68 : decode b_Rec_partOf 68 = .ok (.aload_n 0, 1) := by decide +kernel
theorem d_Rec_partOf_69 : decode b_Rec_partOf 69 = .ok (.getfield 29, 3) := by decide +kernel
theorem d_Rec_partOf_72 : decode b_Rec_partOf 72 = .ok (.iload_n 1, 1) := by decide +kernel
theorem d_Rec_partOf_73 : decode b_Rec_partOf 73 = .ok (.iaload, 1) := by decide +kernel
theorem d_Rec_partOf_74 : decode b_Rec_partOf 74 = .ok (.i2l, 1) := by decide +kernel
theorem d_Rec_partOf_75 : decode b_Rec_partOf 75 = .ok (.lreturn, 1) := by decide +kernel
