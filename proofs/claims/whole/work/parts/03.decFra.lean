theorem d_Fac_init_0 : decode b_Fac_init 0 = .ok (.aload_n 0, 1) := by decide +kernel
theorem d_Fac_init_1 : decode b_Fac_init 1 = .ok (.invokespecial 3, 3) := by decide +kernel
theorem d_Fac_init_4 : decode b_Fac_init 4 = .ok (.aload_n 0, 1) := by decide +kernel
theorem d_Fac_init_5 : decode b_Fac_init 5 = .ok (.bipush 26, 2) := by decide +kernel
theorem d_Fac_init_7 : decode b_Fac_init 7 = .ok (.newarray .int, 2) := by decide +kernel
theorem d_Fac_init_9 : decode b_Fac_init 9 = .ok (.putfield 9, 3) := by decide +kernel
theorem d_Fac_init_12 : decode b_Fac_init 12 = .ok (.aload_n 0, 1) := by decide +kernel
theorem d_Fac_init_13 : decode b_Fac_init 13 = .ok (.bipush 26, 2) := by decide +kernel
theorem d_Fac_init_15 : decode b_Fac_init 15 = .ok (.newarray .int, 2) := by decide +kernel
theorem d_Fac_init_17 : decode b_Fac_init 17 = .ok (.putfield 15, 3) := by decide +kernel
theorem d_Fac_init_20 : decode b_Fac_init 20 = .ok (.return_, 1) := by decide +kernel
theorem d_Fra_init_0 : decode b_Fra_init 0 = .ok (.aload_n 0, 1) := by decide +kernel
theorem d_Fra_init_1 : decode b_Fra_init 1 = .ok (.invokespecial 3, 3) := by decide +kernel
theorem d_Fra_init_4 : decode b_Fra_init 4 = .ok (.aload_n 0, 1) := by decide +kernel
theorem d_Fra_init_5 : decode b_Fra_init 5 = .ok (.lconst 0, 1) := by decide +kernel
theorem d_Fra_init_6 : decode b_Fra_init 6 = .ok (.putfield 9, 3) := by decide +kernel
theorem d_Fra_init_9 : decode b_Fra_init 9 = .ok (.aload_n 0, 1) := by decide +kernel
theorem d_Fra_init_10 : decode b_Fra_init 10 = .ok (.lconst 1, 1) := by decide +kernel
theorem d_Fra_init_11 : decode b_Fra_init 11 = .ok (.putfield 15, 3) := by decide +kernel
theorem d_Fra_init_14 : decode b_Fra_init 14 = .ok (.return_, 1) := by decide +kernel
theorem d_Cur_init_0 : decode b_Cur_init 0 = .ok (.aload_n 0, 1) := by decide +kernel
theorem d_Cur_init_1 : decode b_Cur_init 1 = .ok (.invokespecial 3, 3) := by decide +kernel
theorem d_Cur_init_4 : decode b_Cur_init 4 = .ok (.aload_n 0, 1) := by decide +kernel
theorem d_Cur_init_5 : decode b_Cur_init 5 = .ok (.bipush 8, 2) := by decide +kernel
theorem d_Cur_init_7 : decode b_Cur_init 7 = .ok (.newarray .int, 2) := by decide +kernel
theorem d_Cur_init_9 : decode b_Cur_init 9 = .ok (.putfield 9, 3) := by decide +kernel
theorem d_Cur_init_12 : decode b_Cur_init 12 = .ok (.aload_n 0, 1) := by decide +kernel
theorem d_Cur_init_13 : decode b_Cur_init 13 = .ok (.bipush 8, 2) := by decide +kernel
theorem d_Cur_init_15 : decode b_Cur_init 15 = .ok (.newarray .int, 2) := by decide +kernel
theorem d_Cur_init_17 : decode b_Cur_init 17 = .ok (.putfield 15, 3) := by decide +kernel
theorem d_Cur_init_20 : decode b_Cur_init 20 = .ok (.aload_n 0, 1) := by decide +kernel
theorem d_Cur_init_21 : decode b_Cur_init 21 = .ok (.bipush 8, 2) := by decide +kernel
theorem d_Cur_init_23 : decode b_Cur_init 23 = .ok (.newarray .int, 2) := by decide +kernel
theorem d_Cur_init_25 : decode b_Cur_init 25 = .ok (.putfield 18, 3) := by decide +kernel
theorem d_Cur_init_28 : decode b_Cur_init 28 = .ok (.return_, 1) := by decide +kernel
theorem d_Off_init_0 : decode b_Off_init 0 = .ok (.aload_n 0, 1) := by decide +kernel
theorem d_Off_init_1 : decode b_Off_init 1 = .ok (.invokespecial 3, 3) := by decide +kernel
theorem d_Off_init_4 : decode b_Off_init 4 = .ok (.aload_n 0, 1) := by decide +kernel
theorem d_Off_init_5 : decode b_Off_init 5 = .ok (.bipush 8, 2) := by decide +kernel
theorem d_Off_init_7 : decode b_Off_init 7 = .ok (.newarray .long, 2) := by decide +kernel
theorem d_Off_init_9 : decode b_Off_init 9 = .ok (.putfield 9, 3) := by decide +kernel
theorem d_Off_init_12 : decode b_Off_init 12 = .ok (.aload_n 0, 1) := by decide +kernel
theorem d_Off_init_13 : decode b_Off_init 13 = .ok (.bipush 8, 2) := by decide +kernel
theorem d_Off_init_15 : decode b_Off_init 15 = .ok (.newarray .int, 2) := by decide +kernel
theorem d_Off_init_17 : decode b_Off_init 17 = .ok (.putfield 15, 3) := by decide +kernel
theorem d_Off_init_20 : decode b_Off_init 20 = .ok (.return_, 1) := by decide +kernel
theorem d_Inv_init_0 : decode b_Inv_init 0 = .ok (.aload_n 0, 1) := by decide +kernel
theorem d_Inv_init_1 : decode b_Inv_init 1 = .ok (.invokespecial 3, 3) := by decide +kernel
theorem d_Inv_init_4 : decode b_Inv_init 4 = .ok (.aload_n 0, 1) := by decide +kernel
theorem d_Inv_init_5 : decode b_Inv_init 5 = .ok (.bipush 8, 2) := by decide +kernel
theorem d_Inv_init_7 : decode b_Inv_init 7 = .ok (.newarray .long, 2) := by decide +kernel
theorem d_Inv_init_9 : decode b_Inv_init 9 = .ok (.putfield 9, 3) := by decide +kernel
theorem d_Inv_init_12 : decode b_Inv_init 12 = .ok (.return_, 1) := by decide +kernel
theorem d_Min_init_0 : decode b_Min_init 0 = .ok (.aload_n 0, 1) := by decide +kernel
theorem d_Min_init_1 : decode b_Min_init 1 = .ok (.invokespecial 3, 3) := by decide +kernel
theorem d_Min_init_4 : decode b_Min_init 4 = .ok (.aload_n 0, 1) := by decide +kernel
theorem d_Min_init_5 : decode b_Min_init 5 = .ok (.bipush 8, 2) := by decide +kernel
theorem d_Min_init_7 : decode b_Min_init 7 = .ok (.newarray .long, 2) := by decide +kernel
theorem d_Min_init_9 : decode b_Min_init 9 = .ok (.putfield 9, 3) := by decide +kernel
theorem d_Min_init_12 : decode b_Min_init 12 = .ok (.aload_n 0, 1) := by decide +kernel
theorem d_Min_init_13 : decode b_Min_init 13 = .ok (.bipush 8, 2) := by decide +kernel
theorem d_Min_init_15 : decode b_Min_init 15 = .ok (.newarray .long, 2) := by decide +kernel
theorem d_Min_init_17 : decode b_Min_init 17 = .ok (.putfield 15, 3) := by decide +kernel
theorem d_Min_init_20 : decode b_Min_init 20 = .ok (.return_, 1) := by decide +kernel
theorem d_She_init_0 : decode b_She_init 0 = .ok (.aload_n 0, 1) := by decide +kernel
theorem d_She_init_1 : decode b_She_init 1 = .ok (.invokespecial 3, 3) := by decide +kernel
theorem d_She_init_4 : decode b_She_init 4 = .ok (.aload_n 0, 1) := by decide +kernel
theorem d_She_init_5 : decode b_She_init 5 = .ok (.sipush 240, 3) := by decide +kernel
theorem d_She_init_8 : decode b_She_init 8 = .ok (.newarray .int, 2) := by decide +kernel
theorem d_She_init_10 : decode b_She_init 10 = .ok (.putfield 9, 3) := by decide +kernel
theorem d_She_init_13 : decode b_She_init 13 = .ok (.aload_n 0, 1) := by decide +kernel
theorem d_She_init_14 : decode b_She_init 14 = .ok (.bipush 16, 2) := by decide +kernel
theorem d_She_init_16 : decode b_She_init 16 = .ok (.newarray .int, 2) := by decide +kernel
theorem d_She_init_18 : decode b_She_init 18 = .ok (.putfield 15, 3) := by decide +kernel
theorem d_She_init_21 : decode b_She_init 21 = .ok (.return_, 1) := by decide +kernel
theorem d_She_clear_0 : decode b_She_clear 0 = .ok (.aload_n 0, 1) := by decide +kernel
theorem d_She_clear_1 : decode b_She_clear 1 = .ok (.iconst 0, 1) := by decide +kernel
theorem d_She_clear_2 : decode b_She_clear 2 = .ok (.putfield 18, 3) := by decide +kernel
theorem d_She_clear_5 : decode b_She_clear 5 = .ok (.aload_n 0, 1) := by decide +kernel
theorem d_She_clear_6 : decode b_She_clear 6 = .ok (.iconst 0, 1) := by decide +kernel
theorem d_She_clear_7 : decode b_She_clear 7 = .ok (.putfield 22, 3) := by decide +kernel
theorem d_She_clear_10 : decode b_She_clear 10 = .ok (.return_, 1) := by decide +kernel
theorem d_She_addDigit_0 : decode b_She_addDigit 0 = .ok (.aload_n 0, 1) := by decide +kernel
theorem d_She_addDigit_1 : decode b_She_addDigit 1 = .ok (.getfield 18, 3) := by decide +kernel
theorem d_She_addDigit_4 : decode b_She_addDigit 4 = .ok (.iconst 1, 1) := by decide +kernel
theorem d_She_addDigit_5 : decode b_She_addDigit 5 = .ok (.isub, 1) := by decide +kernel
theorem d_She_addDigit_6 : decode b_She_addDigit 6 = .ok (.istore_n 2, 1) := by decide +kernel
theorem d_She_addDigit_7 : decode b_She_addDigit 7 = .ok (.iload_n 2, 1) := by decide +kernel
theorem d_She_addDigit_8 : decode b_She_addDigit 8 = .ok (.aload_n 0, 1) := by decide +kernel
theorem d_She_addDigit_9 : decode b_She_addDigit 9 = .ok (.getfield 9, 3) := by decide +kernel
theorem d_She_addDigit_12 : decode b_She_addDigit 12 = .ok (.arraylength, 1) := by decide +kernel
theorem d_She_addDigit_13 : decode b_She_addDigit 13 = .ok (.invokestatic 29, 3) := by decide +kernel
theorem d_She_addDigit_16 : decode b_She_addDigit 16 = .ok (.ifCond .eq 20, 3) := by decide +kernel
theorem d_She_addDigit_19 : decode b_She_addDigit 19 = .ok (.aload_n 0, 1) := by decide +kernel
theorem d_She_addDigit_20 : decode b_She_addDigit 20 = .ok (.getfield 9, 3) := by decide +kernel
theorem d_She_addDigit_23 : decode b_She_addDigit 23 = .ok (.iload_n 2, 1) := by decide +kernel
theorem d_She_addDigit_24 : decode b_She_addDigit 24 = .ok (.aload_n 0, 1) := by decide +kernel
theorem d_She_addDigit_25 : decode b_She_addDigit 25 = .ok (.getfield 9, 3) := by decide +kernel
theorem d_She_addDigit_28 : decode b_She_addDigit 28 = .ok (.iload_n 2, 1) := by decide +kernel
theorem d_She_addDigit_29 : decode b_She_addDigit 29 = .ok (.iaload, 1) := by decide +kernel
theorem d_She_addDigit_30 : decode b_She_addDigit 30 = .ok (.bipush 10, 2) := by decide +kernel
theorem d_She_addDigit_32 : decode b_She_addDigit 32 = .ok (.imul, 1) := by decide +kernel
theorem d_She_addDigit_33 : decode b_She_addDigit 33 = .ok (.iload_n 1, 1) := by decide +kernel
theorem d_She_addDigit_34 : decode b_She_addDigit 34 = .ok (.iadd, 1) := by decide +kernel
theorem d_She_addDigit_35 : decode b_She_addDigit 35 = .ok (.iastore, 1) := by decide +kernel
theorem d_She_addDigit_36 : decode b_She_addDigit 36 = .ok (.return_, 1) := by decide +kernel
theorem d_She_addNumber_0 : decode b_She_addNumber 0 = .ok (.aload_n 0, 1) := by decide +kernel
theorem d_She_addNumber_1 : decode b_She_addNumber 1 = .ok (.iload_n 1, 1) := by decide +kernel
theorem d_She_addNumber_2 : decode b_She_addNumber 2 = .ok (.invokevirtual 25, 3) := by decide +kernel
theorem d_She_addNumber_5 : decode b_She_addNumber 5 = .ok (.return_, 1) := by decide +kernel
theorem d_She_addSign_0 : decode b_She_addSign 0 = .ok (.aload_n 0, 1) := by decide +kernel
theorem d_She_addSign_1 : decode b_She_addSign 1 = .ok (.getfield 18, 3) := by decide +kernel
theorem d_She_addSign_4 : decode b_She_addSign 4 = .ok (.aload_n 0, 1) := by decide +kernel
theorem d_She_addSign_5 : decode b_She_addSign 5 = .ok (.getfield 9, 3) := by decide +kernel
theorem d_She_addSign_8 : decode b_She_addSign 8 = .ok (.arraylength, 1) := by decide +kernel
theorem d_She_addSign_9 : decode b_She_addSign 9 = .ok (.invokestatic 29, 3) := by decide +kernel
theorem d_She_addSign_12 : decode b_She_addSign 12 = .ok (.ifCond .eq 23, 3) := by decide +kernel
theorem d_She_addSign_15 : decode b_She_addSign 15 = .ok (.aload_n 0, 1) := by decide +kernel
theorem d_She_addSign_16 : decode b_She_addSign 16 = .ok (.getfield 9, 3) := by decide +kernel
theorem d_She_addSign_19 : decode b_She_addSign 19 = .ok (.aload_n 0, 1) := by decide +kernel
theorem d_She_addSign_20 : decode b_She_addSign 20 = .ok (.getfield 18, 3) := by decide +kernel
theorem d_She_addSign_23 : decode b_She_addSign 23 = .ok (.iload_n 1, 1) := by decide +kernel
theorem d_She_addSign_24 : decode b_She_addSign 24 = .ok (.iastore, 1) := by decide +kernel
theorem d_She_addSign_25 : decode b_She_addSign 25 = .ok (.aload_n 0, 1) := by decide +kernel
theorem d_She_addSign_26 : decode b_She_addSign 26 = .ok (.dup, 1) := by decide +kernel
theorem d_She_addSign_27 : decode b_She_addSign 27 = .ok (.getfield 18, 3) := by decide +kernel
theorem d_She_addSign_30 : decode b_She_addSign 30 = .ok (.iconst 1, 1) := by decide +kernel
theorem d_She_addSign_31 : decode b_She_addSign 31 = .ok (.iadd, 1) := by decide +kernel
theorem d_She_addSign_32 : decode b_She_addSign 32 = .ok (.putfield 18, 3) := by decide +kernel
theorem d_She_addSign_35 : decode b_She_addSign 35 = .ok (.return_, 1) := by decide +kernel
theorem d_She_addCharacter_0 : decode b_She_addCharacter 0 = .ok (.aload_n 0, 1) := by decide +kernel
theorem d_She_addCharacter_1 : decode b_She_addCharacter 1 = .ok (.iload_n 1, 1) := by decide +kernel
theorem d_She_addCharacter_2 : decode b_She_addCharacter 2 = .ok (.ineg, 1) := by decide +kernel
theorem d_She_addCharacter_3 : decode b_She_addCharacter 3 = .ok (.invokevirtual 25, 3) := by decide +kernel
theorem d_She_addCharacter_6 : decode b_She_addCharacter 6 = .ok (.return_, 1) := by decide +kernel
theorem d_She_addEnd_0 : decode b_She_addEnd 0 = .ok (.aload_n 0, 1) := by decide +kernel
theorem d_She_addEnd_1 : decode b_She_addEnd 1 = .ok (.getfield 22, 3) := by decide +kernel
theorem d_She_addEnd_4 : decode b_She_addEnd 4 = .ok (.aload_n 0, 1) := by decide +kernel
theorem d_She_addEnd_5 : decode b_She_addEnd 5 = .ok (.getfield 15, 3) := by decide +kernel
theorem d_She_addEnd_8 : decode b_She_addEnd 8 = .ok (.arraylength, 1) := by decide +kernel
theorem d_She_addEnd_9 : decode b_She_addEnd 9 = .ok (.invokestatic 29, 3) := by decide +kernel
theorem d_She_addEnd_12 : decode b_She_addEnd 12 = .ok (.ifCond .eq 32, 3) := by decide +kernel
theorem d_She_addEnd_15 : decode b_She_addEnd 15 = .ok (.aload_n 0, 1) := by decide +kernel
theorem d_She_addEnd_16 : decode b_She_addEnd 16 = .ok (.getfield 15, 3) := by decide +kernel
theorem d_She_addEnd_19 : decode b_She_addEnd 19 = .ok (.aload_n 0, 1) := by decide +kernel
theorem d_She_addEnd_20 : decode b_She_addEnd 20 = .ok (.getfield 22, 3) := by decide +kernel
theorem d_She_addEnd_23 : decode b_She_addEnd 23 = .ok (.aload_n 0, 1) := by decide +kernel
theorem d_She_addEnd_24 : decode b_She_addEnd 24 = .ok (.getfield 18, 3) := by decide +kernel
theorem d_She_addEnd_27 : decode b_She_addEnd 27 = .ok (.iastore, 1) := by decide +kernel
theorem d_She_addEnd_28 : decode b_She_addEnd 28 = .ok (.aload_n 0, 1) := by decide +kernel
theorem d_She_addEnd_29 : decode b_She_addEnd 29 = .ok (.dup, 1) := by decide +kernel
theorem d_She_addEnd_30 : decode b_She_addEnd 30 = .ok (.getfield 22, 3) := by decide +kernel
theorem d_She_addEnd_33 : decode b_She_addEnd 33 = .ok (.iconst 1, 1) := by decide +kernel
theorem d_She_addEnd_34 : decode b_She_addEnd 34 = .ok (.iadd, 1) := by decide +kernel
theorem d_She_addEnd_35 : decode b_She_addEnd 35 = .ok (.putfield 22, 3) := by decide +kernel
theorem d_She_addEnd_38 : decode b_She_addEnd 38 = .ok (.aload_n 0, 1) := by decide +kernel
theorem d_She_addEnd_39 : decode b_She_addEnd 39 = .ok (.iload_n 1, 1) := by decide +kernel
theorem d_She_addEnd_40 : decode b_She_addEnd 40 = .ok (.ineg, 1) := by decide +kernel
theorem d_She_addEnd_41 : decode b_She_addEnd 41 = .ok (.invokevirtual 25, 3) := by decide +kernel
theorem d_She_addEnd_44 : decode b_She_addEnd 44 = .ok (.return_, 1) := by decide +kernel
theorem d_Fra_set_0 : decode b_Fra_set 0 = .ok (.lload_n 1, 1) := by decide +kernel
theorem d_Fra_set_1 : decode b_Fra_set 1 = .ok (.invokestatic 18, 3) := by decide +kernel
theorem d_Fra_set_4 : decode b_Fra_set 4 = .ok (.lload_n 3, 1) := by decide +kernel
theorem d_Fra_set_5 : decode b_Fra_set 5 = .ok (.invokestatic 18, 3) := by decide +kernel
theorem d_Fra_set_8 : decode b_Fra_set 8 = .ok (.invokestatic 24, 3) := by decide +kernel
theorem d_Fra_set_11 : decode b_Fra_set 11 = .ok (.lstore 5, 2) := by decide +kernel
theorem d_Fra_set_13 : decode b_Fra_set 13 = .ok (.lload 5, 2) := by decide +kernel
theorem d_Fra_set_15 : decode b_Fra_set 15 = .ok (.lconst 0, 1) := by decide +kernel
theorem d_Fra_set_16 : decode b_Fra_set 16 = .ok (.lcmp, 1) := by decide +kernel
theorem d_Fra_set_17 : decode b_Fra_set 17 = .ok (.ifCond .eq 9, 3) := by decide +kernel
theorem d_Fra_set_20 : decode b_Fra_set 20 = .ok (.lload_n 3, 1) := by decide +kernel
theorem d_Fra_set_21 : decode b_Fra_set 21 = .ok (.lconst 0, 1) := by decide +kernel
theorem d_Fra_set_22 : decode b_Fra_set 22 = .ok (.lcmp, 1) := by decide +kernel
theorem d_Fra_set_23 : decode b_Fra_set 23 = .ok (.ifCond .ne 5, 3) := by decide +kernel
theorem d_Fra_set_26 : decode b_Fra_set 26 = .ok (.iconst 0, 1) := by decide +kernel
theorem d_Fra_set_27 : decode b_Fra_set 27 = .ok (.ireturn, 1) := by decide +kernel
theorem d_Fra_set_28 : decode b_Fra_set 28 = .ok (.lload_n 1, 1) := by decide +kernel
theorem d_Fra_set_29 : decode b_Fra_set 29 = .ok (.lload 5, 2) := by decide +kernel
theorem d_Fra_set_31 : decode b_Fra_set 31 = .ok (.ldiv, 1) := by decide +kernel
theorem d_Fra_set_32 : decode b_Fra_set 32 = .ok (.lstore 7, 2) := by decide +kernel
theorem d_Fra_set_34 : decode b_Fra_set 34 = .ok (.lload_n 3, 1) := by decide +kernel
theorem d_Fra_set_35 : decode b_Fra_set 35 = .ok (.lload 5, 2) := by decide +kernel
theorem d_Fra_set_37 : decode b_Fra_set 37 = .ok (.ldiv, 1) := by decide +kernel
theorem d_Fra_set_38 : decode b_Fra_set 38 = .ok (.lstore 9, 2) := by decide +kernel
theorem d_Fra_set_40 : decode b_Fra_set 40 = .ok (.lload 7, 2) := by decide +kernel
theorem d_Fra_set_42 : decode b_Fra_set 42 = .ok (.invokestatic 18, 3) := by decide +kernel
theorem d_Fra_set_45 : decode b_Fra_set 45 = .ok (.ldc2_w 28, 3) := by decide +kernel
theorem d_Fra_set_48 : decode b_Fra_set 48 = .ok (.lcmp, 1) := by decide +kernel
theorem d_Fra_set_49 : decode b_Fra_set 49 = .ok (.ifCond .gt 15, 3) := by decide +kernel
theorem d_Fra_set_52 : decode b_Fra_set 52 = .ok (.lload 9, 2) := by decide +kernel
theorem d_Fra_set_54 : decode b_Fra_set 54 = .ok (.invokestatic 18, 3) := by decide +kernel
theorem d_Fra_set_57 : decode b_Fra_set 57 = .ok (.ldc2_w 28, 3) := by decide +kernel
theorem d_Fra_set_60 : decode b_Fra_set 60 = .ok (.lcmp, 1) := by decide +kernel
theorem d_Fra_set_61 : decode b_Fra_set 61 = .ok (.ifCond .le 5, 3) := by decide +kernel
theorem d_Fra_set_64 : decode b_Fra_set 64 = .ok (.iconst 0, 1) := by decide +kernel
theorem d_Fra_set_65 : decode b_Fra_set 65 = .ok (.ireturn, 1) := by decide +kernel
theorem d_Fra_set_66 : decode b_Fra_set 66 = .ok (.aload_n 0, 1) := by decide +kernel
theorem d_Fra_set_67 : decode b_Fra_set 67 = .ok (.lload 9, 2) := by decide +kernel
theorem d_Fra_set_69 : decode b_Fra_set 69 = .ok (.lconst 0, 1) := by decide +kernel
theorem d_Fra_set_70 : decode b_Fra_set 70 = .ok (.lcmp, 1) := by decide +kernel
theorem d_Fra_set_71 : decode b_Fra_set 71 = .ok (.ifCond .ge 9, 3) := by decide +kernel
theorem d_Fra_set_74 : decode b_Fra_set 74 = .ok (.lload 7, 2) := by decide +kernel
theorem d_Fra_set_76 : decode b_Fra_set 76 = .ok (.lneg, 1) := by decide +kernel
theorem d_Fra_set_77 : decode b_Fra_set 77 = .ok (.goto 5, 3) := by decide +kernel
theorem d_Fra_set_80 : decode b_Fra_set 80 = .ok (.lload 7, 2) := by decide +kernel
theorem d_Fra_set_82 : decode b_Fra_set 82 = .ok (.putfield 9, 3) := by decide +kernel
theorem d_Fra_set_85 : decode b_Fra_set 85 = .ok (.aload_n 0, 1) := by decide +kernel
theorem d_Fra_set_86 : decode b_Fra_set 86 = .ok (.lload 9, 2) := by decide +kernel
theorem d_Fra_set_88 : decode b_Fra_set 88 = .ok (.invokestatic 18, 3) := by decide +kernel
theorem d_Fra_set_91 : decode b_Fra_set 91 = .ok (.putfield 15, 3) := by decide +kernel
theorem d_Fra_set_94 : decode b_Fra_set 94 = .ok (.iconst 1, 1) := by decide +kernel
theorem d_Fra_set_95 : decode b_Fra_set 95 = .ok (.ireturn, 1) := by decide +kernel
theorem d_Mat_abs_0 : decode b_Mat_abs 0 = .ok (.lload_n 0, 1) := by decide +kernel
theorem d_Mat_abs_1 : decode b_Mat_abs 1 = .ok (.lconst 0, 1) := by decide +kernel
theorem d_Mat_abs_2 : decode b_Mat_abs 2 = .ok (.lcmp, 1) := by decide +kernel
theorem d_Mat_abs_3 : decode b_Mat_abs 3 = .ok (.ifCond .ge 8, 3) := by decide +kernel
theorem d_Mat_abs_6 : decode b_Mat_abs 6 = .ok (.lload_n 0, 1) := by decide +kernel
theorem d_Mat_abs_7 : decode b_Mat_abs 7 = .ok (.lneg, 1) := by decide +kernel
theorem d_Mat_abs_8 : decode b_Mat_abs 8 = .ok (.goto 4, 3) := by decide +kernel
theorem d_Mat_abs_11 : decode b_Mat_abs 11 = .ok (.lload_n 0, 1) := by decide +kernel
theorem d_Mat_abs_12 : decode b_Mat_abs 12 = .ok (.lreturn, 1) := by decide +kernel
theorem d_Fra_commonDivisor_0 : decode b_Fra_commonDivisor 0 = .ok (.lload_n 0, 1) := by decide +kernel
theorem d_Fra_commonDivisor_1 : decode b_Fra_commonDivisor 1 = .ok (.lstore 4, 2) := by decide +kernel
theorem d_Fra_commonDivisor_3 : decode b_Fra_commonDivisor 3 = .ok (.lload_n 2, 1) := by decide +kernel
theorem d_Fra_commonDivisor_4 : decode b_Fra_commonDivisor 4 = .ok (.lstore 6, 2) := by decide +kernel
theorem d_Fra_commonDivisor_6 : decode b_Fra_commonDivisor 6 = .ok (.iconst 0, 1) := by decide +kernel
theorem d_Fra_commonDivisor_7 : decode b_Fra_commonDivisor 7 = .ok (.istore 8, 2) := by decide +kernel
theorem d_Fra_commonDivisor_9 : decode b_Fra_commonDivisor 9 = .ok (.iload 8, 2) := by decide +kernel
theorem d_Fra_commonDivisor_11 : decode b_Fra_commonDivisor 11 = .ok (.sipush 128, 3) := by decide +kernel
theorem d_Fra_commonDivisor_14 : decode b_Fra_commonDivisor 14 = .ok (.if_icmp .ge 31, 3) := by decide +kernel
theorem d_Fra_commonDivisor_17 : decode b_Fra_commonDivisor 17 = .ok (.lload 6, 2) := by decide +kernel
theorem d_Fra_commonDivisor_19 : decode b_Fra_commonDivisor 19 = .ok (.lconst 0, 1) := by decide +kernel
theorem d_Fra_commonDivisor_20 : decode b_Fra_commonDivisor 20 = .ok (.lcmp, 1) := by decide +kernel
theorem d_Fra_commonDivisor_21 : decode b_Fra_commonDivisor 21 = .ok (.ifCond .eq 24, 3) := by decide +kernel
theorem d_Fra_commonDivisor_24 : decode b_Fra_commonDivisor 24 = .ok (.lload 4, 2) := by decide +kernel
theorem d_Fra_commonDivisor_26 : decode b_Fra_commonDivisor 26 = .ok (.lload 6, 2) := by decide +kernel
theorem d_Fra_commonDivisor_28 : decode b_Fra_commonDivisor 28 = .ok (.lrem, 1) := by decide +kernel
theorem d_Fra_commonDivisor_29 : decode b_Fra_commonDivisor 29 = .ok (.lstore 9, 2) := by decide +kernel
theorem d_Fra_commonDivisor_31 : decode b_Fra_commonDivisor 31 = .ok (.lload 6, 2) := by decide +kernel
theorem d_Fra_commonDivisor_33 : decode b_Fra_commonDivisor 33 = .ok (.lstore 4, 2) := by decide +kernel
theorem d_Fra_commonDivisor_35 : decode b_Fra_commonDivisor 35 = .ok (.lload 9, 2) := by decide +kernel
theorem d_Fra_commonDivisor_37 : decode b_Fra_commonDivisor 37 = .ok (.lstore 6, 2) := by decide +kernel
theorem d_Fra_commonDivisor_39 : decode b_Fra_commonDivisor 39 = .ok (.iinc 8 1, 3) := by decide +kernel
theorem d_Fra_commonDivisor_42 : decode b_Fra_commonDivisor 42 = .ok (.goto (-33), 3) := by decide +kernel
theorem d_Fra_commonDivisor_45 : decode b_Fra_commonDivisor 45 = .ok (.lload 4, 2) := by decide +kernel
theorem d_Fra_commonDivisor_47 : decode b_Fra_commonDivisor 47 = .ok (.lreturn, 1) := by decide +kernel
theorem d_She_firstOf_0 : decode b_She_firstOf 0 = .ok (.iload_n 1, 1) := by decide +kernel
theorem d_She_firstOf_1 : decode b_She_firstOf 1 = .ok (.ifCond .ne 7, 3) := by decide +kernel
theorem d_She_firstOf_4 : decode b_She_firstOf 4 = .ok (.iconst 0, 1) := by decide +kernel
theorem d_She_firstOf_5 : decode b_She_firstOf 5 = .ok (.goto 12, 3) := by decide +kernel
theorem d_She_firstOf_8 : decode b_She_firstOf 8 = .ok (.aload_n 0, 1) := by decide +kernel
theorem d_She_firstOf_9 : decode b_She_firstOf 9 = .ok (.iload_n 1, 1) := by decide +kernel
theorem d_She_firstOf_10 : decode b_She_firstOf 10 = .ok (.iconst 1, 1) := by decide +kernel
theorem d_She_firstOf_11 : decode b_She_firstOf 11 = .ok (.isub, 1) := by decide +kernel
theorem d_She_firstOf_12 : decode b_She_firstOf 12 = .ok (.invokevirtual 33, 3) := by decide +kernel
theorem d_She_firstOf_15 : decode b_She_firstOf 15 = .ok (.iconst 1, 1) := by decide +kernel
theorem d_She_firstOf_16 : decode b_She_firstOf 16 = .ok (.iadd, 1) := by decide +kernel
theorem d_She_firstOf_17 : decode b_She_firstOf 17 = .ok (.ireturn, 1) := by decide +kernel
theorem d_She_endOf_0 : decode b_She_endOf 0 = .ok (.iload_n 1, 1) := by decide +kernel
theorem d_She_endOf_1 : decode b_She_endOf 1 = .ok (.aload_n 0, 1) := by decide +kernel
theorem d_She_endOf_2 : decode b_She_endOf 2 = .ok (.getfield 15, 3) := by decide +kernel
theorem d_She_endOf_5 : decode b_She_endOf 5 = .ok (.arraylength, 1) := by decide +kernel
theorem d_She_endOf_6 : decode b_She_endOf 6 = .ok (.invokestatic 29, 3) := by decide +kernel
theorem d_She_endOf_9 : decode b_She_endOf 9 = .ok (.ifCond .eq 12, 3) := by decide +kernel
theorem d_She_endOf_12 : decode b_She_endOf 12 = .ok (.aload_n 0, 1) := by decide +kernel
theorem d_She_endOf_13 : decode b_She_endOf 13 = .ok (.getfield 15, 3) := by decide +kernel
theorem d_She_endOf_16 : decode b_She_endOf 16 = .ok (.iload_n 1, 1) := by decide +kernel
theorem d_She_endOf_17 : decode b_She_endOf 17 = .ok (.iaload, 1) := by decide +kernel
theorem d_She_endOf_18 : decode b_She_endOf 18 = .ok (.goto 4, 3) := by decide +kernel
theorem d_She_endOf_21 : decode b_She_endOf 21 = .ok (.iconst 0, 1) := by decide +kernel
theorem d_She_endOf_22 : decode b_She_endOf 22 = .ok (.ireturn, 1) := by decide +kernel
theorem d_She_signAt_0 : decode b_She_signAt 0 = .ok (.iload_n 1, 1) := by decide +kernel
theorem d_She_signAt_1 : decode b_She_signAt 1 = .ok (.aload_n 0, 1) := by decide +kernel
theorem d_She_signAt_2 : decode b_She_signAt 2 = .ok (.getfield 9, 3) := by decide +kernel
theorem d_She_signAt_5 : decode b_She_signAt 5 = .ok (.arraylength, 1) := by decide +kernel
theorem d_She_signAt_6 : decode b_She_signAt 6 = .ok (.invokestatic 29, 3) := by decide +kernel
theorem d_She_signAt_9 : decode b_She_signAt 9 = .ok (.ifCond .eq 12, 3) := by decide +kernel
theorem d_She_signAt_12 : decode b_She_signAt 12 = .ok (.aload_n 0, 1) := by decide +kernel
theorem d_She_signAt_13 : decode b_She_signAt 13 = .ok (.getfield 9, 3) := by decide +kernel
theorem d_She_signAt_16 : decode b_She_signAt 16 = .ok (.iload_n 1, 1) := by decide +kernel
theorem d_She_signAt_17 : decode b_She_signAt 17 = .ok (.iaload, 1) := by decide +kernel
theorem d_She_signAt_18 : decode b_She_signAt 18 = .ok (.goto 4, 3) := by decide +kernel
theorem d_She_signAt_21 : decode b_She_signAt 21 = .ok (.iconst 0, 1) := by decide +kernel
theorem d_She_signAt_22 : decode b_She_signAt 22 = .ok (.ireturn, 1) := by decide +kernel
theorem d_Fac_isTold_0 : decode b_Fac_isTold 0 = .ok (.aload_n 0, 1) := by decide +kernel
theorem d_Fac_isTold_1 : decode b_Fac_isTold 1 = .ok (.iload_n 1, 1) := by decide +kernel
theorem d_Fac_isTold_2 : decode b_Fac_isTold 2 = .ok (.invokevirtual 26, 3) := by decide +kernel
theorem d_Fac_isTold_5 : decode b_Fac_isTold 5 = .ok (.ifCond .le 7, 3) := by decide +kernel
theorem d_Fac_isTold_8 : decode b_Fac_isTold 8 = .ok (.iconst 1, 1) := by decide +kernel
theorem d_Fac_isTold_9 : decode b_Fac_isTold 9 = .ok (.goto 4, 3) := by decide +kernel
theorem d_Fac_isTold_12 : decode b_Fac_isTold 12 = .ok (.iconst 0, 1) := by decide +kernel
theorem d_Fac_isTold_13 : decode b_Fac_isTold 13 = .ok (.ireturn, 1) := by decide +kernel
theorem d_Fac_belowOf_0 : decode b_Fac_belowOf 0 = .ok (.iload_n 1, 1) := by decide +kernel
theorem d_Fac_belowOf_1 : decode b_Fac_belowOf 1 = .ok (.bipush 97, 2) := by decide +kernel
theorem d_Fac_belowOf_3 : decode b_Fac_belowOf 3 = .ok (.isub, 1) := by decide +kernel
theorem d_Fac_belowOf_4 : decode b_Fac_belowOf 4 = .ok (.istore_n 2, 1) := by decide +kernel
theorem d_Fac_belowOf_5 : decode b_Fac_belowOf 5 = .ok (.iload_n 2, 1) := by decide +kernel
theorem d_Fac_belowOf_6 : decode b_Fac_belowOf 6 = .ok (.bipush 26, 2) := by decide +kernel
theorem d_Fac_belowOf_8 : decode b_Fac_belowOf 8 = .ok (.invokestatic 18, 3) := by decide +kernel
theorem d_Fac_belowOf_11 : decode b_Fac_belowOf 11 = .ok (.ifCond .eq 12, 3) := by decide +kernel
theorem d_Fac_belowOf_14 : decode b_Fac_belowOf 14 = .ok (.aload_n 0, 1) := by decide +kernel
theorem d_Fac_belowOf_15 : decode b_Fac_belowOf 15 = .ok (.getfield 15, 3) := by decide +kernel
theorem d_Fac_belowOf_18 : decode b_Fac_belowOf 18 = .ok (.iload_n 2, 1) := by decide +kernel
theorem d_Fac_belowOf_19 : decode b_Fac_belowOf 19 = .ok (.iaload, 1) := by decide +kernel
theorem d_Fac_belowOf_20 : decode b_Fac_belowOf 20 = .ok (.goto 4, 3) := by decide +kernel
theorem d_Fac_belowOf_23 : decode b_Fac_belowOf 23 = .ok (.iconst 0, 1) := by decide +kernel
theorem d_Fac_belowOf_24 : decode b_Fac_belowOf 24 = .ok (.ireturn, 1) := by decide +kernel
theorem d_Fac_aboveOf_0 : decode b_Fac_aboveOf 0 = .ok (.iload_n 1, 1) := by decide +kernel
theorem d_Fac_aboveOf_1 : decode b_Fac_aboveOf 1 = .ok (.bipush 97, 2) := by decide +kernel
theorem d_Fac_aboveOf_3 : decode b_Fac_aboveOf 3 = .ok (.isub, 1) := by decide +kernel
theorem d_Fac_aboveOf_4 : decode b_Fac_aboveOf 4 = .ok (.istore_n 2, 1) := by decide +kernel
theorem d_Fac_aboveOf_5 : decode b_Fac_aboveOf 5 = .ok (.iload_n 2, 1) := by decide +kernel
theorem d_Fac_aboveOf_6 : decode b_Fac_aboveOf 6 = .ok (.bipush 26, 2) := by decide +kernel
theorem d_Fac_aboveOf_8 : decode b_Fac_aboveOf 8 = .ok (.invokestatic 18, 3) := by decide +kernel
theorem d_Fac_aboveOf_11 : decode b_Fac_aboveOf 11 = .ok (.ifCond .eq 12, 3) := by decide +kernel
theorem d_Fac_aboveOf_14 : decode b_Fac_aboveOf 14 = .ok (.aload_n 0, 1) := by decide +kernel
theorem d_Fac_aboveOf_15 : decode b_Fac_aboveOf 15 = .ok (.getfield 9, 3) := by decide +kernel
theorem d_Fac_aboveOf_18 : decode b_Fac_aboveOf 18 = .ok (.iload_n 2, 1) := by decide +kernel
theorem d_Fac_aboveOf_19 : decode b_Fac_aboveOf 19 = .ok (.iaload, 1) := by decide +kernel
theorem d_Fac_aboveOf_20 : decode b_Fac_aboveOf 20 = .ok (.goto 4, 3) := by decide +kernel
theorem d_Fac_aboveOf_23 : decode b_Fac_aboveOf 23 = .ok (.iconst 0, 1) := by decide +kernel
theorem d_Fac_aboveOf_24 : decode b_Fac_aboveOf 24 = .ok (.ireturn, 1) := by decide +kernel
theorem d_Fra_roundToHundredths_0 : decode b_Fra_roundToHundredths 0 = .ok (.aload_n 0, 1) := by decide +kernel
theorem d_Fra_roundToHundredths_1 : decode b_Fra_roundToHundredths 1 = .ok (.aload_n 0, 1) := by decide +kernel
theorem d_Fra_roundToHundredths_2 : decode b_Fra_roundToHundredths 2 = .ok (.invokevirtual 36, 3) := by decide +kernel
theorem d_Fra_roundToHundredths_5 : decode b_Fra_roundToHundredths 5 = .ok (.ldc2_w 34, 3) := by decide +kernel
theorem d_Fra_roundToHundredths_8 : decode b_Fra_roundToHundredths 8 = .ok (.invokevirtual 30, 3) := by decide +kernel
theorem d_Fra_roundToHundredths_11 : decode b_Fra_roundToHundredths 11 = .ok (.ireturn, 1) := by decide +kernel
theorem d_Fra_hundredths_0 : decode b_Fra_hundredths 0 = .ok (.aload_n 0, 1) := by decide +kernel
theorem d_Fra_hundredths_1 : decode b_Fra_hundredths 1 = .ok (.getfield 15, 3) := by decide +kernel
theorem d_Fra_hundredths_4 : decode b_Fra_hundredths 4 = .ok (.ldc2_w 40, 3) := by decide +kernel
theorem d_Fra_hundredths_7 : decode b_Fra_hundredths 7 = .ok (.lmul, 1) := by decide +kernel
theorem d_Fra_hundredths_8 : decode b_Fra_hundredths 8 = .ok (.lstore_n 1, 1) := by decide +kernel
theorem d_Fra_hundredths_9 : decode b_Fra_hundredths 9 = .ok (.lload_n 1, 1) := by decide +kernel
theorem d_Fra_hundredths_10 : decode b_Fra_hundredths 10 = .ok (.lconst 1, 1) := by decide +kernel
theorem d_Fra_hundredths_11 : decode b_Fra_hundredths 11 = .ok (.lcmp, 1) := by decide +kernel
theorem d_Fra_hundredths_12 : decode b_Fra_hundredths 12 = .ok (.ifCond .ge 7, 3) := by decide +kernel
theorem d_Fra_hundredths_15 : decode b_Fra_hundredths 15 = .ok (.lconst 0, 1) := by decide +kernel
theorem d_Fra_hundredths_16 : decode b_Fra_hundredths 16 = .ok (.goto 20, 3) := by decide +kernel
theorem d_Fra_hundredths_19 : decode b_Fra_hundredths 19 = .ok (.aload_n 0, 1) := by decide +kernel
theorem d_Fra_hundredths_20 : decode b_Fra_hundredths 20 = .ok (.getfield 9, 3) := by decide +kernel
theorem d_Fra_hundredths_23 : decode b_Fra_hundredths 23 = .ok (.ldc2_w 42, 3) := by decide +kernel
theorem d_Fra_hundredths_26 : decode b_Fra_hundredths 26 = .ok (.lmul, 1) := by decide +kernel
theorem d_Fra_hundredths_27 : decode b_Fra_hundredths 27 = .ok (.aload_n 0, 1) := by decide +kernel
theorem d_Fra_hundredths_28 : decode b_Fra_hundredths 28 = .ok (.getfield 15, 3) := by decide +kernel
theorem d_Fra_hundredths_31 : decode b_Fra_hundredths 31 = .ok (.ladd, 1) := by decide +kernel
theorem d_Fra_hundredths_32 : decode b_Fra_hundredths 32 = .ok (.lload_n 1, 1) := by decide +kernel
theorem d_Fra_hundredths_33 : decode b_Fra_hundredths 33 = .ok (.invokestatic 44, 3) := by decide +kernel
theorem d_Fra_hundredths_36 : decode b_Fra_hundredths 36 = .ok (.lreturn, 1) := by decide +kernel
theorem d_Mat_floorDiv_0 : decode b_Mat_floorDiv 0 = .ok (.lload_n 0, 1) := by decide +kernel
theorem d_Mat_floorDiv_1 : decode b_Mat_floorDiv 1 = .ok (.lload_n 2, 1) := by decide +kernel
theorem d_Mat_floorDiv_2 : decode b_Mat_floorDiv 2 = .ok (.ldiv, 1) := by decide +kernel
theorem d_Mat_floorDiv_3 : decode b_Mat_floorDiv 3 = .ok (.lstore 4, 2) := by decide +kernel
theorem d_Mat_floorDiv_5 : decode b_Mat_floorDiv 5 = .ok (.lload_n 0, 1) := by decide +kernel
theorem d_Mat_floorDiv_6 : decode b_Mat_floorDiv 6 = .ok (.lload_n 2, 1) := by decide +kernel
theorem d_Mat_floorDiv_7 : decode b_Mat_floorDiv 7 = .ok (.lxor, 1) := by decide +kernel
theorem d_Mat_floorDiv_8 : decode b_Mat_floorDiv 8 = .ok (.lconst 0, 1) := by decide +kernel
theorem d_Mat_floorDiv_9 : decode b_Mat_floorDiv 9 = .ok (.lcmp, 1) := by decide +kernel
theorem d_Mat_floorDiv_10 : decode b_Mat_floorDiv 10 = .ok (.ifCond .ge 17, 3) := by decide +kernel
theorem d_Mat_floorDiv_13 : decode b_Mat_floorDiv 13 = .ok (.lload 4, 2) := by decide +kernel
theorem d_Mat_floorDiv_15 : decode b_Mat_floorDiv 15 = .ok (.lload_n 2, 1) := by decide +kernel
theorem d_Mat_floorDiv_16 : decode b_Mat_floorDiv 16 = .ok (.lmul, 1) := by decide +kernel
theorem d_Mat_floorDiv_17 : decode b_Mat_floorDiv 17 = .ok (.lload_n 0, 1) := by decide +kernel
theorem d_Mat_floorDiv_18 : decode b_Mat_floorDiv 18 = .ok (.lcmp, 1) := by decide +kernel
theorem d_Mat_floorDiv_19 : decode b_Mat_floorDiv 19 = .ok (.ifCond .eq 8, 3) := by decide +kernel
theorem d_Mat_floorDiv_22 : decode b_Mat_floorDiv 22 = .ok (.lload 4, 2) := by decide +kernel
theorem d_Mat_floorDiv_24 : decode b_Mat_floorDiv 24 = .ok (.lconst 1, 1) := by decide +kernel
theorem d_Mat_floorDiv_25 : decode b_Mat_floorDiv 25 = .ok (.lsub, 1) := by decide +kernel
theorem d_Mat_floorDiv_26 : decode b_Mat_floorDiv 26 = .ok (.lreturn, 1) := by decide +kernel
theorem d_Mat_floorDiv_27 : decode b_Mat_floorDiv 27 = .ok (.lload 4, 2) := by decide +kernel
theorem d_Mat_floorDiv_29 : decode b_Mat_floorDiv 29 = .ok (.lreturn, 1) := by decide +kernel
theorem d_Fra_add_0 : decode b_Fra_add 0 = .ok (.aload_n 0, 1) := by decide +kernel
theorem d_Fra_add_1 : decode b_Fra_add 1 = .ok (.aload_n 0, 1) := by decide +kernel
theorem d_Fra_add_2 : decode b_Fra_add 2 = .ok (.getfield 9, 3) := by decide +kernel
theorem d_Fra_add_5 : decode b_Fra_add 5 = .ok (.aload_n 1, 1) := by decide +kernel
theorem d_Fra_add_6 : decode b_Fra_add 6 = .ok (.getfield 15, 3) := by decide +kernel
theorem d_Fra_add_9 : decode b_Fra_add 9 = .ok (.lmul, 1) := by decide +kernel
theorem d_Fra_add_10 : decode b_Fra_add 10 = .ok (.aload_n 1, 1) := by decide +kernel
theorem d_Fra_add_11 : decode b_Fra_add 11 = .ok (.getfield 9, 3) := by decide +kernel
theorem d_Fra_add_14 : decode b_Fra_add 14 = .ok (.aload_n 0, 1) := by decide +kernel
theorem d_Fra_add_15 : decode b_Fra_add 15 = .ok (.getfield 15, 3) := by decide +kernel
theorem d_Fra_add_18 : decode b_Fra_add 18 = .ok (.lmul, 1) := by decide +kernel
theorem d_Fra_add_19 : decode b_Fra_add 19 = .ok (.ladd, 1) := by decide +kernel
theorem d_Fra_add_20 : decode b_Fra_add 20 = .ok (.aload_n 0, 1) := by decide +kernel
theorem d_Fra_add_21 : decode b_Fra_add 21 = .ok (.getfield 15, 3) := by decide +kernel
theorem d_Fra_add_24 : decode b_Fra_add 24 = .ok (.aload_n 1, 1) := by decide +kernel
theorem d_Fra_add_25 : decode b_Fra_add 25 = .ok (.getfield 15, 3) := by decide +kernel
theorem d_Fra_add_28 : decode b_Fra_add 28 = .ok (.lmul, 1) := by decide +kernel
theorem d_Fra_add_29 : decode b_Fra_add 29 = .ok (.invokevirtual 30, 3) := by decide +kernel
theorem d_Fra_add_32 : decode b_Fra_add 32 = .ok (.ireturn, 1) := by decide +kernel
theorem d_Fra_subtract_0 : decode b_Fra_subtract 0 = .ok (.aload_n 0, 1) := by decide +kernel
theorem d_Fra_subtract_1 : decode b_Fra_subtract 1 = .ok (.aload_n 0, 1) := by decide +kernel
theorem d_Fra_subtract_2 : decode b_Fra_subtract 2 = .ok (.getfield 9, 3) := by decide +kernel
theorem d_Fra_subtract_5 : decode b_Fra_subtract 5 = .ok (.aload_n 1, 1) := by decide +kernel
theorem d_Fra_subtract_6 : decode b_Fra_subtract 6 = .ok (.getfield 15, 3) := by decide +kernel
theorem d_Fra_subtract_9 : decode b_Fra_subtract 9 = .ok (.lmul, 1) := by decide +kernel
theorem d_Fra_subtract_10 : decode b_Fra_subtract 10 = .ok (.aload_n 1, 1) := by decide +kernel
theorem d_Fra_subtract_11 : decode b_Fra_subtract 11 = .ok (.getfield 9, 3) := by decide +kernel
theorem d_Fra_subtract_14 : decode b_Fra_subtract 14 = .ok (.aload_n 0, 1) := by decide +kernel
theorem d_Fra_subtract_15 : decode b_Fra_subtract 15 = .ok (.getfield 15, 3) := by decide +kernel
theorem d_Fra_subtract_18 : decode b_Fra_subtract 18 = .ok (.lmul, 1) := by decide +kernel
theorem d_Fra_subtract_19 : decode b_Fra_subtract 19 = .ok (.lsub, 1) := by decide +kernel
theorem d_Fra_subtract_20 : decode b_Fra_subtract 20 = .ok (.aload_n 0, 1) := by decide +kernel
theorem d_Fra_subtract_21 : decode b_Fra_subtract 21 = .ok (.getfield 15, 3) := by decide +kernel
theorem d_Fra_subtract_24 : decode b_Fra_subtract 24 = .ok (.aload_n 1, 1) := by decide +kernel
theorem d_Fra_subtract_25 : decode b_Fra_subtract 25 = .ok (.getfield 15, 3) := by decide +kernel
theorem d_Fra_subtract_28 : decode b_Fra_subtract 28 = .ok (.lmul, 1) := by decide +kernel
theorem d_Fra_subtract_29 : decode b_Fra_subtract 29 = .ok (.invokevirtual 30, 3) := by decide +kernel
theorem d_Fra_subtract_32 : decode b_Fra_subtract 32 = .ok (.ireturn, 1) := by decide +kernel
theorem d_Fra_multiply_0 : decode b_Fra_multiply 0 = .ok (.aload_n 0, 1) := by decide +kernel
theorem d_Fra_multiply_1 : decode b_Fra_multiply 1 = .ok (.aload_n 0, 1) := by decide +kernel
theorem d_Fra_multiply_2 : decode b_Fra_multiply 2 = .ok (.getfield 9, 3) := by decide +kernel
theorem d_Fra_multiply_5 : decode b_Fra_multiply 5 = .ok (.aload_n 1, 1) := by decide +kernel
theorem d_Fra_multiply_6 : decode b_Fra_multiply 6 = .ok (.getfield 9, 3) := by decide +kernel
theorem d_Fra_multiply_9 : decode b_Fra_multiply 9 = .ok (.lmul, 1) := by decide +kernel
theorem d_Fra_multiply_10 : decode b_Fra_multiply 10 = .ok (.aload_n 0, 1) := by decide +kernel
theorem d_Fra_multiply_11 : decode b_Fra_multiply 11 = .ok (.getfield 15, 3) := by decide +kernel
theorem d_Fra_multiply_14 : decode b_Fra_multiply 14 = .ok (.aload_n 1, 1) := by decide +kernel
theorem d_Fra_multiply_15 : decode b_Fra_multiply 15 = .ok (.getfield 15, 3) := by decide +kernel
theorem d_Fra_multiply_18 : decode b_Fra_multiply 18 = .ok (.lmul, 1) := by decide +kernel
theorem d_Fra_multiply_19 : decode b_Fra_multiply 19 = .ok (.invokevirtual 30, 3) := by decide +kernel
theorem d_Fra_multiply_22 : decode b_Fra_multiply 22 = .ok (.ireturn, 1) := by decide +kernel
theorem d_Fra_divide_0 : decode b_Fra_divide 0 = .ok (.aload_n 0, 1) := by decide +kernel
theorem d_Fra_divide_1 : decode b_Fra_divide 1 = .ok (.aload_n 0, 1) := by decide +kernel
theorem d_Fra_divide_2 : decode b_Fra_divide 2 = .ok (.getfield 9, 3) := by decide +kernel
theorem d_Fra_divide_5 : decode b_Fra_divide 5 = .ok (.aload_n 1, 1) := by decide +kernel
theorem d_Fra_divide_6 : decode b_Fra_divide 6 = .ok (.getfield 15, 3) := by decide +kernel
theorem d_Fra_divide_9 : decode b_Fra_divide 9 = .ok (.lmul, 1) := by decide +kernel
theorem d_Fra_divide_10 : decode b_Fra_divide 10 = .ok (.aload_n 0, 1) := by decide +kernel
theorem d_Fra_divide_11 : decode b_Fra_divide 11 = .ok (.getfield 15, 3) := by decide +kernel
theorem d_Fra_divide_14 : decode b_Fra_divide 14 = .ok (.aload_n 1, 1) := by decide +kernel
theorem d_Fra_divide_15 : decode b_Fra_divide 15 = .ok (.getfield 9, 3) := by decide +kernel
theorem d_Fra_divide_18 : decode b_Fra_divide 18 = .ok (.lmul, 1) := by decide +kernel
theorem d_Fra_divide_19 : decode b_Fra_divide 19 = .ok (.invokevirtual 30, 3) := by decide +kernel
theorem d_Fra_divide_22 : decode b_Fra_divide 22 = .ok (.ireturn, 1) := by decide +kernel
theorem d_Fra_isLessThan_0 : decode b_Fra_isLessThan 0 = .ok (.aload_n 0, 1) := by decide +kernel
theorem d_Fra_isLessThan_1 : decode b_Fra_isLessThan 1 = .ok (.getfield 9, 3) := by decide +kernel
theorem d_Fra_isLessThan_4 : decode b_Fra_isLessThan 4 = .ok (.aload_n 1, 1) := by decide +kernel
theorem d_Fra_isLessThan_5 : decode b_Fra_isLessThan 5 = .ok (.getfield 15, 3) := by decide +kernel
theorem d_Fra_isLessThan_8 : decode b_Fra_isLessThan 8 = .ok (.lmul, 1) := by decide +kernel
theorem d_Fra_isLessThan_9 : decode b_Fra_isLessThan 9 = .ok (.aload_n 1, 1) := by decide +kernel
theorem d_Fra_isLessThan_10 : decode b_Fra_isLessThan 10 = .ok (.getfield 9, 3) := by decide +kernel
theorem d_Fra_isLessThan_13 : decode b_Fra_isLessThan 13 = .ok (.aload_n 0, 1) := by decide +kernel
theorem d_Fra_isLessThan_14 : decode b_Fra_isLessThan 14 = .ok (.getfield 15, 3) := by decide +kernel
theorem d_Fra_isLessThan_17 : decode b_Fra_isLessThan 17 = .ok (.lmul, 1) := by decide +kernel
theorem d_Fra_isLessThan_18 : decode b_Fra_isLessThan 18 = .ok (.lcmp, 1) := by decide +kernel
theorem d_Fra_isLessThan_19 : decode b_Fra_isLessThan 19 = .ok (.ifCond .ge 7, 3) := by decide +kernel
theorem d_Fra_isLessThan_22 : decode b_Fra_isLessThan 22 = .ok (.iconst 1, 1) := by decide +kernel
theorem d_Fra_isLessThan_23 : decode b_Fra_isLessThan 23 = .ok (.goto 4, 3) := by decide +kernel
theorem d_Fra_isLessThan_26 : decode b_Fra_isLessThan 26 = .ok (.iconst 0, 1) := by decide +kernel
theorem d_Fra_isLessThan_27 : decode b_Fra_isLessThan 27 = .ok (.ireturn, 1) := by decide +kernel
theorem d_Fra_copy_0 : decode b_Fra_copy 0 = .ok (.aload_n 0, 1) := by decide +kernel
theorem d_Fra_copy_1 : decode b_Fra_copy 1 = .ok (.aload_n 1, 1) := by decide +kernel
theorem d_Fra_copy_2 : decode b_Fra_copy 2 = .ok (.getfield 9, 3) := by decide +kernel
theorem d_Fra_copy_5 : decode b_Fra_copy 5 = .ok (.putfield 9, 3) := by decide +kernel
theorem d_Fra_copy_8 : decode b_Fra_copy 8 = .ok (.aload_n 0, 1) := by decide +kernel
theorem d_Fra_copy_9 : decode b_Fra_copy 9 = .ok (.aload_n 1, 1) := by decide +kernel
theorem d_Fra_copy_10 : decode b_Fra_copy 10 = .ok (.getfield 15, 3) := by decide +kernel
theorem d_Fra_copy_13 : decode b_Fra_copy 13 = .ok (.putfield 15, 3) := by decide +kernel
theorem d_Fra_copy_16 : decode b_Fra_copy 16 = .ok (.return_, 1) := by decide +kernel
theorem d_Fra_divideByHundred_0 : decode b_Fra_divideByHundred 0 = .ok (.aload_n 0, 1) := by decide +kernel
theorem d_Fra_divideByHundred_1 : decode b_Fra_divideByHundred 1 = .ok (.aload_n 0, 1) := by decide +kernel
theorem d_Fra_divideByHundred_2 : decode b_Fra_divideByHundred 2 = .ok (.getfield 9, 3) := by decide +kernel
theorem d_Fra_divideByHundred_5 : decode b_Fra_divideByHundred 5 = .ok (.aload_n 0, 1) := by decide +kernel
theorem d_Fra_divideByHundred_6 : decode b_Fra_divideByHundred 6 = .ok (.getfield 15, 3) := by decide +kernel
theorem d_Fra_divideByHundred_9 : decode b_Fra_divideByHundred 9 = .ok (.ldc2_w 34, 3) := by decide +kernel
theorem d_Fra_divideByHundred_12 : decode b_Fra_divideByHundred 12 = .ok (.lmul, 1) := by decide +kernel
theorem d_Fra_divideByHundred_13 : decode b_Fra_divideByHundred 13 = .ok (.invokevirtual 30, 3) := by decide +kernel
theorem d_Fra_divideByHundred_16 : decode b_Fra_divideByHundred 16 = .ok (.ireturn, 1) := by decide +kernel
theorem d_Fac_tell_0 : decode b_Fac_tell 0 = .ok (.iload_n 1, 1) := by decide +kernel
theorem d_Fac_tell_1 : decode b_Fac_tell 1 = .ok (.bipush 97, 2) := by decide +kernel
theorem d_Fac_tell_3 : decode b_Fac_tell 3 = .ok (.isub, 1) := by decide +kernel
theorem d_Fac_tell_4 : decode b_Fac_tell 4 = .ok (.istore 4, 2) := by decide +kernel
theorem d_Fac_tell_6 : decode b_Fac_tell 6 = .ok (.iload 4, 2) := by decide +kernel
theorem d_Fac_tell_8 : decode b_Fac_tell 8 = .ok (.bipush 26, 2) := by decide +kernel
theorem d_Fac_tell_10 : decode b_Fac_tell 10 = .ok (.invokestatic 18, 3) := by decide +kernel
theorem d_Fac_tell_13 : decode b_Fac_tell 13 = .ok (.ifCond .eq 19, 3) := by decide +kernel
theorem d_Fac_tell_16 : decode b_Fac_tell 16 = .ok (.aload_n 0, 1) := by decide +kernel
theorem d_Fac_tell_17 : decode b_Fac_tell 17 = .ok (.getfield 9, 3) := by decide +kernel
theorem d_Fac_tell_20 : decode b_Fac_tell 20 = .ok (.iload 4, 2) := by decide +kernel
theorem d_Fac_tell_22 : decode b_Fac_tell 22 = .ok (.iload_n 2, 1) := by decide +kernel
theorem d_Fac_tell_23 : decode b_Fac_tell 23 = .ok (.iastore, 1) := by decide +kernel
theorem d_Fac_tell_24 : decode b_Fac_tell 24 = .ok (.aload_n 0, 1) := by decide +kernel
theorem d_Fac_tell_25 : decode b_Fac_tell 25 = .ok (.getfield 15, 3) := by decide +kernel
theorem d_Fac_tell_28 : decode b_Fac_tell 28 = .ok (.iload 4, 2) := by decide +kernel
theorem d_Fac_tell_30 : decode b_Fac_tell 30 = .ok (.iload_n 3, 1) := by decide +kernel
theorem d_Fac_tell_31 : decode b_Fac_tell 31 = .ok (.iastore, 1) := by decide +kernel
theorem d_Fac_tell_32 : decode b_Fac_tell 32 = .ok (.return_, 1) := by decide +kernel
theorem d_Fac_drop_0 : decode b_Fac_drop 0 = .ok (.aload_n 0, 1) := by decide +kernel
theorem d_Fac_drop_1 : decode b_Fac_drop 1 = .ok (.iload_n 1, 1) := by decide +kernel
theorem d_Fac_drop_2 : decode b_Fac_drop 2 = .ok (.iconst 0, 1) := by decide +kernel
theorem d_Fac_drop_3 : decode b_Fac_drop 3 = .ok (.iconst 0, 1) := by decide +kernel
theorem d_Fac_drop_4 : decode b_Fac_drop 4 = .ok (.invokevirtual 22, 3) := by decide +kernel
theorem d_Fac_drop_7 : decode b_Fac_drop 7 = .ok (.return_, 1) := by decide +kernel
theorem d_Cur_isBehindLast_0 : decode b_Cur_isBehindLast 0 = .ok (.aload_n 0, 1) := by decide +kernel
theorem d_Cur_isBehindLast_1 : decode b_Cur_isBehindLast 1 = .ok (.getfield 21, 3) := by decide +kernel
theorem d_Cur_isBehindLast_4 : decode b_Cur_isBehindLast 4 = .ok (.iconst 1, 1) := by decide +kernel
theorem d_Cur_isBehindLast_5 : decode b_Cur_isBehindLast 5 = .ok (.isub, 1) := by decide +kernel
theorem d_Cur_isBehindLast_6 : decode b_Cur_isBehindLast 6 = .ok (.istore_n 2, 1) := by decide +kernel
theorem d_Cur_isBehindLast_7 : decode b_Cur_isBehindLast 7 = .ok (.iload_n 2, 1) := by decide +kernel
theorem d_Cur_isBehindLast_8 : decode b_Cur_isBehindLast 8 = .ok (.bipush 8, 2) := by decide +kernel
theorem d_Cur_isBehindLast_10 : decode b_Cur_isBehindLast 10 = .ok (.invokestatic 25, 3) := by decide +kernel
theorem d_Cur_isBehindLast_13 : decode b_Cur_isBehindLast 13 = .ok (.ifCond .eq 13, 3) := by decide +kernel
theorem d_Cur_isBehindLast_16 : decode b_Cur_isBehindLast 16 = .ok (.iload_n 1, 1) := by decide +kernel
theorem d_Cur_isBehindLast_17 : decode b_Cur_isBehindLast 17 = .ok (.aload_n 0, 1) := by decide +kernel
theorem d_Cur_isBehindLast_18 : decode b_Cur_isBehindLast 18 = .ok (.getfield 9, 3) := by decide +kernel
theorem d_Cur_isBehindLast_21 : decode b_Cur_isBehindLast 21 = .ok (.iload_n 2, 1) := by decide +kernel
theorem d_Cur_isBehindLast_22 : decode b_Cur_isBehindLast 22 = .ok (.iaload, 1) := by decide +kernel
theorem d_Cur_isBehindLast_23 : decode b_Cur_isBehindLast 23 = .ok (.if_icmp .le 7, 3) := by decide +kernel
theorem d_Cur_isBehindLast_26 : decode b_Cur_isBehindLast 26 = .ok (.iconst 1, 1) := by decide +kernel
theorem d_Cur_isBehindLast_27 : decode b_Cur_isBehindLast 27 = .ok (.goto 4, 3) := by decide +kernel
theorem d_Cur_isBehindLast_30 : decode b_Cur_isBehindLast 30 = .ok (.iconst 0, 1) := by decide +kernel
theorem d_Cur_isBehindLast_31 : decode b_Cur_isBehindLast 31 = .ok (.ireturn, 1) := by decide +kernel
theorem d_Cur_add_0 : decode b_Cur_add 0 = .ok (.aload_n 0, 1) := by decide +kernel
theorem d_Cur_add_1 : decode b_Cur_add 1 = .ok (.getfield 21, 3) := by decide +kernel
theorem d_Cur_add_4 : decode b_Cur_add 4 = .ok (.bipush 8, 2) := by decide +kernel
theorem d_Cur_add_6 : decode b_Cur_add 6 = .ok (.invokestatic 25, 3) := by decide +kernel
theorem d_Cur_add_9 : decode b_Cur_add 9 = .ok (.ifCond .eq 43, 3) := by decide +kernel
theorem d_Cur_add_12 : decode b_Cur_add 12 = .ok (.aload_n 0, 1) := by decide +kernel
theorem d_Cur_add_13 : decode b_Cur_add 13 = .ok (.getfield 9, 3) := by decide +kernel
theorem d_Cur_add_16 : decode b_Cur_add 16 = .ok (.aload_n 0, 1) := by decide +kernel
theorem d_Cur_add_17 : decode b_Cur_add 17 = .ok (.getfield 21, 3) := by decide +kernel
theorem d_Cur_add_20 : decode b_Cur_add 20 = .ok (.iload_n 1, 1) := by decide +kernel
theorem d_Cur_add_21 : decode b_Cur_add 21 = .ok (.iastore, 1) := by decide +kernel
theorem d_Cur_add_22 : decode b_Cur_add 22 = .ok (.aload_n 0, 1) := by decide +kernel
theorem d_Cur_add_23 : decode b_Cur_add 23 = .ok (.getfield 15, 3) := by decide +kernel
theorem d_Cur_add_26 : decode b_Cur_add 26 = .ok (.aload_n 0, 1) := by decide +kernel
theorem d_Cur_add_27 : decode b_Cur_add 27 = .ok (.getfield 21, 3) := by decide +kernel
theorem d_Cur_add_30 : decode b_Cur_add 30 = .ok (.iload_n 2, 1) := by decide +kernel
theorem d_Cur_add_31 : decode b_Cur_add 31 = .ok (.iastore, 1) := by decide +kernel
theorem d_Cur_add_32 : decode b_Cur_add 32 = .ok (.aload_n 0, 1) := by decide +kernel
theorem d_Cur_add_33 : decode b_Cur_add 33 = .ok (.getfield 18, 3) := by decide +kernel
theorem d_Cur_add_36 : decode b_Cur_add 36 = .ok (.aload_n 0, 1) := by decide +kernel
theorem d_Cur_add_37 : decode b_Cur_add 37 = .ok (.getfield 21, 3) := by decide +kernel
theorem d_Cur_add_40 : decode b_Cur_add 40 = .ok (.iload_n 3, 1) := by decide +kernel
theorem d_Cur_add_41 : decode b_Cur_add 41 = .ok (.iastore, 1) := by decide +kernel
theorem d_Cur_add_42 : decode b_Cur_add 42 = .ok (.aload_n 0, 1) := by decide +kernel
theorem d_Cur_add_43 : decode b_Cur_add 43 = .ok (.dup, 1) := by decide +kernel
theorem d_Cur_add_44 : decode b_Cur_add 44 = .ok (.getfield 21, 3) := by decide +kernel
theorem d_Cur_add_47 : decode b_Cur_add 47 = .ok (.iconst 1, 1) := by decide +kernel
theorem d_Cur_add_48 : decode b_Cur_add 48 = .ok (.iadd, 1) := by decide +kernel
theorem d_Cur_add_49 : decode b_Cur_add 49 = .ok (.putfield 21, 3) := by decide +kernel
theorem d_Cur_add_52 : decode b_Cur_add 52 = .ok (.return_, 1) := by decide +kernel
theorem d_Cur_convert_0 : decode b_Cur_convert 0 = .ok (.aload_n 0, 1) := by decide +kernel
theorem d_Cur_convert_1 : decode b_Cur_convert 1 = .ok (.iload_n 3, 1) := by decide +kernel
theorem d_Cur_convert_2 : decode b_Cur_convert 2 = .ok (.invokevirtual 29, 3) := by decide +kernel
theorem d_Cur_convert_5 : decode b_Cur_convert 5 = .ok (.istore 4, 2) := by decide +kernel
theorem d_Cur_convert_7 : decode b_Cur_convert 7 = .ok (.iload 4, 2) := by decide +kernel
theorem d_Cur_convert_9 : decode b_Cur_convert 9 = .ok (.bipush 8, 2) := by decide +kernel
theorem d_Cur_convert_11 : decode b_Cur_convert 11 = .ok (.invokestatic 25, 3) := by decide +kernel
theorem d_Cur_convert_14 : decode b_Cur_convert 14 = .ok (.ifCond .eq 14, 3) := by decide +kernel
theorem d_Cur_convert_17 : decode b_Cur_convert 17 = .ok (.aload_n 0, 1) := by decide +kernel
theorem d_Cur_convert_18 : decode b_Cur_convert 18 = .ok (.getfield 18, 3) := by decide +kernel
theorem d_Cur_convert_21 : decode b_Cur_convert 21 = .ok (.iload 4, 2) := by decide +kernel
theorem d_Cur_convert_23 : decode b_Cur_convert 23 = .ok (.iaload, 1) := by decide +kernel
theorem d_Cur_convert_24 : decode b_Cur_convert 24 = .ok (.iconst 1, 1) := by decide +kernel
theorem d_Cur_convert_25 : decode b_Cur_convert 25 = .ok (.if_icmp .ge 5, 3) := by decide +kernel
theorem d_Cur_convert_28 : decode b_Cur_convert 28 = .ok (.lload_n 1, 1) := by decide +kernel
theorem d_Cur_convert_29 : decode b_Cur_convert 29 = .ok (.lreturn, 1) := by decide +kernel
theorem d_Cur_convert_30 : decode b_Cur_convert 30 = .ok (.lload_n 1, 1) := by decide +kernel
theorem d_Cur_convert_31 : decode b_Cur_convert 31 = .ok (.aload_n 0, 1) := by decide +kernel
theorem d_Cur_convert_32 : decode b_Cur_convert 32 = .ok (.getfield 15, 3) := by decide +kernel
theorem d_Cur_convert_35 : decode b_Cur_convert 35 = .ok (.iload 4, 2) := by decide +kernel
theorem d_Cur_convert_37 : decode b_Cur_convert 37 = .ok (.iaload, 1) := by decide +kernel
theorem d_Cur_convert_38 : decode b_Cur_convert 38 = .ok (.i2l, 1) := by decide +kernel
theorem d_Cur_convert_39 : decode b_Cur_convert 39 = .ok (.lmul, 1) := by decide +kernel
theorem d_Cur_convert_40 : decode b_Cur_convert 40 = .ok (.aload_n 0, 1) := by decide +kernel
theorem d_Cur_convert_41 : decode b_Cur_convert 41 = .ok (.getfield 18, 3) := by decide +kernel
theorem d_Cur_convert_44 : decode b_Cur_convert 44 = .ok (.iload 4, 2) := by decide +kernel
theorem d_Cur_convert_46 : decode b_Cur_convert 46 = .ok (.iaload, 1) := by decide +kernel
theorem d_Cur_convert_47 : decode b_Cur_convert 47 = .ok (.i2l, 1) := by decide +kernel
theorem d_Cur_convert_48 : decode b_Cur_convert 48 = .ok (.invokestatic 33, 3) := by decide +kernel
theorem d_Cur_convert_51 : decode b_Cur_convert 51 = .ok (.lreturn, 1) := by decide +kernel
theorem d_Cur_rowAt_0 : decode b_Cur_rowAt 0 = .ok (.iconst (-1), 1) := by decide +kernel
theorem d_Cur_rowAt_1 : decode b_Cur_rowAt 1 = .ok (.istore_n 2, 1) := by decide +kernel
theorem d_Cur_rowAt_2 : decode b_Cur_rowAt 2 = .ok (.iconst 0, 1) := by decide +kernel
theorem d_Cur_rowAt_3 : decode b_Cur_rowAt 3 = .ok (.istore_n 3, 1) := by decide +kernel
theorem d_Cur_rowAt_4 : decode b_Cur_rowAt 4 = .ok (.iload_n 3, 1) := by decide +kernel
theorem d_Cur_rowAt_5 : decode b_Cur_rowAt 5 = .ok (.aload_n 0, 1) := by decide +kernel
theorem d_Cur_rowAt_6 : decode b_Cur_rowAt 6 = .ok (.getfield 21, 3) := by decide +kernel
theorem d_Cur_rowAt_9 : decode b_Cur_rowAt 9 = .ok (.if_icmp .ge 27, 3) := by decide +kernel
theorem d_Cur_rowAt_12 : decode b_Cur_rowAt 12 = .ok (.iload_n 3, 1) := by decide +kernel
theorem d_Cur_rowAt_13 : decode b_Cur_rowAt 13 = .ok (.bipush 8, 2) := by decide +kernel
theorem d_Cur_rowAt_15 : decode b_Cur_rowAt 15 = .ok (.if_icmp .ge 21, 3) := by decide +kernel
theorem d_Cur_rowAt_18 : decode b_Cur_rowAt 18 = .ok (.aload_n 0, 1) := by decide +kernel
theorem d_Cur_rowAt_19 : decode b_Cur_rowAt 19 = .ok (.getfield 9, 3) := by decide +kernel
theorem d_Cur_rowAt_22 : decode b_Cur_rowAt 22 = .ok (.iload_n 3, 1) := by decide +kernel
theorem d_Cur_rowAt_23 : decode b_Cur_rowAt 23 = .ok (.iaload, 1) := by decide +kernel
theorem d_Cur_rowAt_24 : decode b_Cur_rowAt 24 = .ok (.iload_n 1, 1) := by decide +kernel
theorem d_Cur_rowAt_25 : decode b_Cur_rowAt 25 = .ok (.if_icmp .gt 5, 3) := by decide +kernel
theorem d_Cur_rowAt_28 : decode b_Cur_rowAt 28 = .ok (.iload_n 3, 1) := by decide +kernel
theorem d_Cur_rowAt_29 : decode b_Cur_rowAt 29 = .ok (.istore_n 2, 1) := by decide +kernel
theorem d_Cur_rowAt_30 : decode b_Cur_rowAt 30 = .ok (.iinc 3 1, 3) := by decide +kernel
theorem d_Cur_rowAt_33 : decode b_Cur_rowAt 33 = .ok (.goto (-29), 3) := by decide +kernel
theorem d_Cur_rowAt_36 : decode b_Cur_rowAt 36 = .ok (.iload_n 2, 1) := by decide +kernel
theorem d_Cur_rowAt_37 : decode b_Cur_rowAt 37 = .ok (.ireturn, 1) := by decide +kernel
theorem d_Off_add_0 : decode b_Off_add 0 = .ok (.aload_n 0, 1) := by decide +kernel
theorem d_Off_add_1 : decode b_Off_add 1 = .ok (.getfield 19, 3) := by decide +kernel
theorem d_Off_add_4 : decode b_Off_add 4 = .ok (.istore 4, 2) := by decide +kernel
theorem d_Off_add_6 : decode b_Off_add 6 = .ok (.iload 4, 2) := by decide +kernel
theorem d_Off_add_8 : decode b_Off_add 8 = .ok (.bipush 8, 2) := by decide +kernel
theorem d_Off_add_10 : decode b_Off_add 10 = .ok (.invokestatic 23, 3) := by decide +kernel
theorem d_Off_add_13 : decode b_Off_add 13 = .ok (.ifCond .eq 29, 3) := by decide +kernel
theorem d_Off_add_16 : decode b_Off_add 16 = .ok (.aload_n 0, 1) := by decide +kernel
theorem d_Off_add_17 : decode b_Off_add 17 = .ok (.getfield 9, 3) := by decide +kernel
theorem d_Off_add_20 : decode b_Off_add 20 = .ok (.iload 4, 2) := by decide +kernel
theorem d_Off_add_22 : decode b_Off_add 22 = .ok (.lload_n 1, 1) := by decide +kernel
theorem d_Off_add_23 : decode b_Off_add 23 = .ok (.lastore, 1) := by decide +kernel
theorem d_Off_add_24 : decode b_Off_add 24 = .ok (.aload_n 0, 1) := by decide +kernel
theorem d_Off_add_25 : decode b_Off_add 25 = .ok (.getfield 15, 3) := by decide +kernel
theorem d_Off_add_28 : decode b_Off_add 28 = .ok (.iload 4, 2) := by decide +kernel
theorem d_Off_add_30 : decode b_Off_add 30 = .ok (.iload_n 3, 1) := by decide +kernel
theorem d_Off_add_31 : decode b_Off_add 31 = .ok (.iastore, 1) := by decide +kernel
theorem d_Off_add_32 : decode b_Off_add 32 = .ok (.aload_n 0, 1) := by decide +kernel
theorem d_Off_add_33 : decode b_Off_add 33 = .ok (.dup, 1) := by decide +kernel
theorem d_Off_add_34 : decode b_Off_add 34 = .ok (.getfield 19, 3) := by decide +kernel
theorem d_Off_add_37 : decode b_Off_add 37 = .ok (.iconst 1, 1) := by decide +kernel
theorem d_Off_add_38 : decode b_Off_add 38 = .ok (.iadd, 1) := by decide +kernel
theorem d_Off_add_39 : decode b_Off_add 39 = .ok (.putfield 19, 3) := by decide +kernel
theorem d_Off_add_42 : decode b_Off_add 42 = .ok (.iload 4, 2) := by decide +kernel
theorem d_Off_add_44 : decode b_Off_add 44 = .ok (.ireturn, 1) := by decide +kernel
theorem d_Off_lastDayOf_0 : decode b_Off_lastDayOf 0 = .ok (.iload_n 1, 1) := by decide +kernel
theorem d_Off_lastDayOf_1 : decode b_Off_lastDayOf 1 = .ok (.bipush 8, 2) := by decide +kernel
theorem d_Off_lastDayOf_3 : decode b_Off_lastDayOf 3 = .ok (.invokestatic 23, 3) := by decide +kernel
theorem d_Off_lastDayOf_6 : decode b_Off_lastDayOf 6 = .ok (.ifCond .eq 12, 3) := by decide +kernel
theorem d_Off_lastDayOf_9 : decode b_Off_lastDayOf 9 = .ok (.aload_n 0, 1) := by decide +kernel
theorem d_Off_lastDayOf_10 : decode b_Off_lastDayOf 10 = .ok (.getfield 15, 3) := by decide +kernel
theorem d_Off_lastDayOf_13 : decode b_Off_lastDayOf 13 = .ok (.iload_n 1, 1) := by decide +kernel
theorem d_Off_lastDayOf_14 : decode b_Off_lastDayOf 14 = .ok (.iaload, 1) := by decide +kernel
theorem d_Off_lastDayOf_15 : decode b_Off_lastDayOf 15 = .ok (.goto 4, 3) := by decide +kernel
theorem d_Off_lastDayOf_18 : decode b_Off_lastDayOf 18 = .ok (.iconst 0, 1) := by decide +kernel
theorem d_Off_lastDayOf_19 : decode b_Off_lastDayOf 19 = .ok (.ireturn, 1) := by decide +kernel
theorem d_Off_centsOf_0 : decode b_Off_centsOf 0 = .ok (.iload_n 1, 1) := by decide +kernel
theorem d_Off_centsOf_1 : decode b_Off_centsOf 1 = .ok (.bipush 8, 2) := by decide +kernel
theorem d_Off_centsOf_3 : decode b_Off_centsOf 3 = .ok (.invokestatic 23, 3) := by decide +kernel
theorem d_Off_centsOf_6 : decode b_Off_centsOf 6 = .ok (.ifCond .eq 12, 3) := by decide +kernel
theorem d_Off_centsOf_9 : decode b_Off_centsOf 9 = .ok (.aload_n 0, 1) := by decide +kernel
theorem d_Off_centsOf_10 : decode b_Off_centsOf 10 = .ok (.getfield 9, 3) := by decide +kernel
theorem d_Off_centsOf_13 : decode b_Off_centsOf 13 = .ok (.iload_n 1, 1) := by decide +kernel
theorem d_Off_centsOf_14 : decode b_Off_centsOf 14 = .ok (.laload, 1) := by decide +kernel
theorem d_Off_centsOf_15 : decode b_Off_centsOf 15 = .ok (.goto 4, 3) := by decide +kernel
theorem d_Off_centsOf_18 : decode b_Off_centsOf 18 = .ok (.lconst 0, 1) := by decide +kernel
theorem d_Off_centsOf_19 : decode b_Off_centsOf 19 = .ok (.lreturn, 1) := by decide +kernel
theorem d_Inv_add_0 : decode b_Inv_add 0 = .ok (.aload_n 0, 1) := by decide +kernel
theorem d_Inv_add_1 : decode b_Inv_add 1 = .ok (.getfield 15, 3) := by decide +kernel
theorem d_Inv_add_4 : decode b_Inv_add 4 = .ok (.istore_n 3, 1) := by decide +kernel
theorem d_Inv_add_5 : decode b_Inv_add 5 = .ok (.iload_n 3, 1) := by decide +kernel
theorem d_Inv_add_6 : decode b_Inv_add 6 = .ok (.bipush 8, 2) := by decide +kernel
theorem d_Inv_add_8 : decode b_Inv_add 8 = .ok (.invokestatic 19, 3) := by decide +kernel
theorem d_Inv_add_11 : decode b_Inv_add 11 = .ok (.ifCond .eq 20, 3) := by decide +kernel
theorem d_Inv_add_14 : decode b_Inv_add 14 = .ok (.aload_n 0, 1) := by decide +kernel
theorem d_Inv_add_15 : decode b_Inv_add 15 = .ok (.getfield 9, 3) := by decide +kernel
theorem d_Inv_add_18 : decode b_Inv_add 18 = .ok (.iload_n 3, 1) := by decide +kernel
theorem d_Inv_add_19 : decode b_Inv_add 19 = .ok (.lload_n 1, 1) := by decide +kernel
theorem d_Inv_add_20 : decode b_Inv_add 20 = .ok (.lastore, 1) := by decide +kernel
theorem d_Inv_add_21 : decode b_Inv_add 21 = .ok (.aload_n 0, 1) := by decide +kernel
theorem d_Inv_add_22 : decode b_Inv_add 22 = .ok (.dup, 1) := by decide +kernel
theorem d_Inv_add_23 : decode b_Inv_add 23 = .ok (.getfield 15, 3) := by decide +kernel
theorem d_Inv_add_26 : decode b_Inv_add 26 = .ok (.iconst 1, 1) := by decide +kernel
theorem d_Inv_add_27 : decode b_Inv_add 27 = .ok (.iadd, 1) := by decide +kernel
theorem d_Inv_add_28 : decode b_Inv_add 28 = .ok (.putfield 15, 3) := by decide +kernel
theorem d_Inv_add_31 : decode b_Inv_add 31 = .ok (.iload_n 3, 1) := by decide +kernel
theorem d_Inv_add_32 : decode b_Inv_add 32 = .ok (.ireturn, 1) := by decide +kernel
theorem d_Inv_leftOf_0 : decode b_Inv_leftOf 0 = .ok (.iload_n 1, 1) := by decide +kernel
theorem d_Inv_leftOf_1 : decode b_Inv_leftOf 1 = .ok (.bipush 8, 2) := by decide +kernel
theorem d_Inv_leftOf_3 : decode b_Inv_leftOf 3 = .ok (.invokestatic 19, 3) := by decide +kernel
theorem d_Inv_leftOf_6 : decode b_Inv_leftOf 6 = .ok (.ifCond .eq 12, 3) := by decide +kernel
theorem d_Inv_leftOf_9 : decode b_Inv_leftOf 9 = .ok (.aload_n 0, 1) := by decide +kernel
theorem d_Inv_leftOf_10 : decode b_Inv_leftOf 10 = .ok (.getfield 9, 3) := by decide +kernel
theorem d_Inv_leftOf_13 : decode b_Inv_leftOf 13 = .ok (.iload_n 1, 1) := by decide +kernel
theorem d_Inv_leftOf_14 : decode b_Inv_leftOf 14 = .ok (.laload, 1) := by decide +kernel
theorem d_Inv_leftOf_15 : decode b_Inv_leftOf 15 = .ok (.goto 4, 3) := by decide +kernel
theorem d_Inv_leftOf_18 : decode b_Inv_leftOf 18 = .ok (.lconst 0, 1) := by decide +kernel
theorem d_Inv_leftOf_19 : decode b_Inv_leftOf 19 = .ok (.lreturn, 1) := by decide +kernel
theorem d_Inv_takeOff_0 : decode b_Inv_takeOff 0 = .ok (.iload_n 1, 1) := by decide +kernel
theorem d_Inv_takeOff_1 : decode b_Inv_takeOff 1 = .ok (.bipush 8, 2) := by decide +kernel
theorem d_Inv_takeOff_3 : decode b_Inv_takeOff 3 = .ok (.invokestatic 19, 3) := by decide +kernel
theorem d_Inv_takeOff_6 : decode b_Inv_takeOff 6 = .ok (.ifCond .eq 15, 3) := by decide +kernel
theorem d_Inv_takeOff_9 : decode b_Inv_takeOff 9 = .ok (.iload_n 2, 1) := by decide +kernel
theorem d_Inv_takeOff_10 : decode b_Inv_takeOff 10 = .ok (.i2l, 1) := by decide +kernel
theorem d_Inv_takeOff_11 : decode b_Inv_takeOff 11 = .ok (.aload_n 0, 1) := by decide +kernel
theorem d_Inv_takeOff_12 : decode b_Inv_takeOff 12 = .ok (.getfield 9, 3) := by decide +kernel
theorem d_Inv_takeOff_15 : decode b_Inv_takeOff 15 = .ok (.iload_n 1, 1) := by decide +kernel
theorem d_Inv_takeOff_16 : decode b_Inv_takeOff 16 = .ok (.laload, 1) := by decide +kernel
theorem d_Inv_takeOff_17 : decode b_Inv_takeOff 17 = .ok (.lcmp, 1) := by decide +kernel
theorem d_Inv_takeOff_18 : decode b_Inv_takeOff 18 = .ok (.ifCond .le 5, 3) := by decide +kernel
theorem d_Inv_takeOff_21 : decode b_Inv_takeOff 21 = .ok (.iconst 0, 1) := by decide +kernel
theorem d_Inv_takeOff_22 : decode b_Inv_takeOff 22 = .ok (.ireturn, 1) := by decide +kernel
theorem d_Inv_takeOff_23 : decode b_Inv_takeOff 23 = .ok (.aload_n 0, 1) := by decide +kernel
theorem d_Inv_takeOff_24 : decode b_Inv_takeOff 24 = .ok (.getfield 9, 3) := by decide +kernel
theorem d_Inv_takeOff_27 : decode b_Inv_takeOff 27 = .ok (.iload_n 1, 1) := by decide +kernel
theorem d_Inv_takeOff_28 : decode b_Inv_takeOff 28 = .ok (.dup2, 1) := by decide +kernel
theorem d_Inv_takeOff_29 : decode b_Inv_takeOff 29 = .ok (.laload, 1) := by decide +kernel
theorem d_Inv_takeOff_30 : decode b_Inv_takeOff 30 = .ok (.iload_n 2, 1) := by decide +kernel
theorem d_Inv_takeOff_31 : decode b_Inv_takeOff 31 = .ok (.i2l, 1) := by decide +kernel
theorem d_Inv_takeOff_32 : decode b_Inv_takeOff 32 = .ok (.lsub, 1) := by decide +kernel
theorem d_Inv_takeOff_33 : decode b_Inv_takeOff 33 = .ok (.lastore, 1) := by decide +kernel
theorem d_Inv_takeOff_34 : decode b_Inv_takeOff 34 = .ok (.iconst 1, 1) := by decide +kernel
theorem d_Inv_takeOff_35 : decode b_Inv_takeOff 35 = .ok (.ireturn, 1) := by decide +kernel
theorem d_Min_add_0 : decode b_Min_add 0 = .ok (.iload_n 1, 1) := by decide +kernel
theorem d_Min_add_1 : decode b_Min_add 1 = .ok (.bipush 8, 2) := by decide +kernel
theorem d_Min_add_3 : decode b_Min_add 3 = .ok (.invokestatic 18, 3) := by decide +kernel
theorem d_Min_add_6 : decode b_Min_add 6 = .ok (.ifCond .eq 24, 3) := by decide +kernel
theorem d_Min_add_9 : decode b_Min_add 9 = .ok (.aload_n 0, 1) := by decide +kernel
theorem d_Min_add_10 : decode b_Min_add 10 = .ok (.getfield 9, 3) := by decide +kernel
theorem d_Min_add_13 : decode b_Min_add 13 = .ok (.iload_n 1, 1) := by decide +kernel
theorem d_Min_add_14 : decode b_Min_add 14 = .ok (.dup2, 1) := by decide +kernel
theorem d_Min_add_15 : decode b_Min_add 15 = .ok (.laload, 1) := by decide +kernel
theorem d_Min_add_16 : decode b_Min_add 16 = .ok (.iload_n 2, 1) := by decide +kernel
theorem d_Min_add_17 : decode b_Min_add 17 = .ok (.i2l, 1) := by decide +kernel
theorem d_Min_add_18 : decode b_Min_add 18 = .ok (.ladd, 1) := by decide +kernel
theorem d_Min_add_19 : decode b_Min_add 19 = .ok (.lastore, 1) := by decide +kernel
theorem d_Min_add_20 : decode b_Min_add 20 = .ok (.aload_n 0, 1) := by decide +kernel
theorem d_Min_add_21 : decode b_Min_add 21 = .ok (.getfield 15, 3) := by decide +kernel
theorem d_Min_add_24 : decode b_Min_add 24 = .ok (.iload_n 1, 1) := by decide +kernel
theorem d_Min_add_25 : decode b_Min_add 25 = .ok (.dup2, 1) := by decide +kernel
theorem d_Min_add_26 : decode b_Min_add 26 = .ok (.laload, 1) := by decide +kernel
theorem d_Min_add_27 : decode b_Min_add 27 = .ok (.lconst 1, 1) := by decide +kernel
theorem d_Min_add_28 : decode b_Min_add 28 = .ok (.ladd, 1) := by decide +kernel
theorem d_Min_add_29 : decode b_Min_add 29 = .ok (.lastore, 1) := by decide +kernel
theorem d_Min_add_30 : decode b_Min_add 30 = .ok (.return_, 1) := by decide +kernel
theorem d_Min_meanOf_0 : decode b_Min_meanOf 0 = .ok (.iload_n 1, 1) := by decide +kernel
theorem d_Min_meanOf_1 : decode b_Min_meanOf 1 = .ok (.bipush 8, 2) := by decide +kernel
theorem d_Min_meanOf_3 : decode b_Min_meanOf 3 = .ok (.invokestatic 18, 3) := by decide +kernel
theorem d_Min_meanOf_6 : decode b_Min_meanOf 6 = .ok (.ifCond .eq 14, 3) := by decide +kernel
theorem d_Min_meanOf_9 : decode b_Min_meanOf 9 = .ok (.aload_n 0, 1) := by decide +kernel
theorem d_Min_meanOf_10 : decode b_Min_meanOf 10 = .ok (.getfield 15, 3) := by decide +kernel
theorem d_Min_meanOf_13 : decode b_Min_meanOf 13 = .ok (.iload_n 1, 1) := by decide +kernel
theorem d_Min_meanOf_14 : decode b_Min_meanOf 14 = .ok (.laload, 1) := by decide +kernel
theorem d_Min_meanOf_15 : decode b_Min_meanOf 15 = .ok (.lconst 1, 1) := by decide +kernel
theorem d_Min_meanOf_16 : decode b_Min_meanOf 16 = .ok (.lcmp, 1) := by decide +kernel
theorem d_Min_meanOf_17 : decode b_Min_meanOf 17 = .ok (.ifCond .ge 5, 3) := by decide +kernel
theorem d_Min_meanOf_20 : decode b_Min_meanOf 20 = .ok (.iconst 0, 1) := by decide +kernel
theorem d_Min_meanOf_21 : decode b_Min_meanOf 21 = .ok (.ireturn, 1) := by decide +kernel
theorem d_Min_meanOf_22 : decode b_Min_meanOf 22 = .ok (.aload_n 0, 1) := by decide +kernel
theorem d_Min_meanOf_23 : decode b_Min_meanOf 23 = .ok (.getfield 9, 3) := by decide +kernel
theorem d_Min_meanOf_26 : decode b_Min_meanOf 26 = .ok (.iload_n 1, 1) := by decide +kernel
theorem d_Min_meanOf_27 : decode b_Min_meanOf 27 = .ok (.laload, 1) := by decide +kernel
theorem d_Min_meanOf_28 : decode b_Min_meanOf 28 = .ok (.aload_n 0, 1) := by decide +kernel
theorem d_Min_meanOf_29 : decode b_Min_meanOf 29 = .ok (.getfield 15, 3) := by decide +kernel
theorem d_Min_meanOf_32 : decode b_Min_meanOf 32 = .ok (.iload_n 1, 1) := by decide +kernel
theorem d_Min_meanOf_33 : decode b_Min_meanOf 33 = .ok (.laload, 1) := by decide +kernel
theorem d_Min_meanOf_34 : decode b_Min_meanOf 34 = .ok (.ldiv, 1) := by decide +kernel
theorem d_Min_meanOf_35 : decode b_Min_meanOf 35 = .ok (.l2i, 1) := by decide +kernel
theorem d_Min_meanOf_36 : decode b_Min_meanOf 36 = .ok (.ireturn, 1) := by decide +kernel
