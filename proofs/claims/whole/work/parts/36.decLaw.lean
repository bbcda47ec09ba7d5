abbrev b_Law_law : ByteArray := code
theorem d_Law_fact_0 : decode b_Law_fact 0 = .ok (.aload_n 0, 1) := by decide +kernel
theorem d_Law_fact_1 : decode b_Law_fact 1 = .ok (.iload_n 1, 1) := by decide +kernel
theorem d_Law_fact_2 : decode b_Law_fact 2 = .ok (.iload_n 2, 1) := by decide +kernel
theorem d_Law_fact_3 : decode b_Law_fact 3 = .ok (.iload_n 3, 1) := by decide +kernel
theorem d_Law_fact_4 : decode b_Law_fact 4 = .ok (.invokevirtual 7, 3) := by decide +kernel
theorem d_Law_fact_7 : decode b_Law_fact 7 = .ok (.goto 11, 3) := by decide +kernel
theorem d_Law_fact_10 : decode b_Law_fact 10 = .ok (.astore 4, 2) := by decide +kernel
theorem d_Law_fact_12 : decode b_Law_fact 12 = .ok (.iconst 1, 1) := by decide +kernel
theorem d_Law_fact_13 : decode b_Law_fact 13 = .ok (.ireturn, 1) := by decide +kernel
theorem d_Law_fact_14 : decode b_Law_fact 14 = .ok (.astore 4, 2) := by decide +kernel
theorem d_Law_fact_16 : decode b_Law_fact 16 = .ok (.iconst 2, 1) := by decide +kernel
theorem d_Law_fact_17 : decode b_Law_fact 17 = .ok (.ireturn, 1) := by decide +kernel
theorem d_Law_fact_18 : decode b_Law_fact 18 = .ok (.iconst 0, 1) := by decide +kernel
theorem d_Law_fact_19 : decode b_Law_fact 19 = .ok (.ireturn, 1) := by decide +kernel
theorem d_Law_forget_0 : decode b_Law_forget 0 = .ok (.aload_n 2, 1) := by decide +kernel
theorem d_Law_forget_1 : decode b_Law_forget 1 = .ok (.iconst 0, 1) := by decide +kernel
theorem d_Law_forget_2 : decode b_Law_forget 2 = .ok (.aload_n 0, 1) := by decide +kernel
theorem d_Law_forget_3 : decode b_Law_forget 3 = .ok (.iload_n 1, 1) := by decide +kernel
theorem d_Law_forget_4 : decode b_Law_forget 4 = .ok (.invokevirtual 17, 3) := by decide +kernel
theorem d_Law_forget_7 : decode b_Law_forget 7 = .ok (.ifCond .eq 7, 3) := by decide +kernel
theorem d_Law_forget_10 : decode b_Law_forget 10 = .ok (.lconst 1, 1) := by decide +kernel
theorem d_Law_forget_11 : decode b_Law_forget 11 = .ok (.goto 4, 3) := by decide +kernel
theorem d_Law_forget_14 : decode b_Law_forget 14 = .ok (.lconst 0, 1) := by decide +kernel
theorem d_Law_forget_15 : decode b_Law_forget 15 = .ok (.lastore, 1) := by decide +kernel
theorem d_Law_forget_16 : decode b_Law_forget 16 = .ok (.goto 6, 3) := by decide +kernel
theorem d_Law_forget_19 : decode b_Law_forget 19 = .ok (.astore_n 3, 1) := by decide +kernel
theorem d_Law_forget_20 : decode b_Law_forget 20 = .ok (.iconst 1, 1) := by decide +kernel
theorem d_Law_forget_21 : decode b_Law_forget 21 = .ok (.ireturn, 1) := by decide +kernel
theorem d_Law_forget_22 : decode b_Law_forget 22 = .ok (.iconst 0, 1) := by decide +kernel
theorem d_Law_forget_23 : decode b_Law_forget 23 = .ok (.ireturn, 1) := by decide +kernel
theorem d_Law_line_0 : decode b_Law_line 0 = .ok (.aload_n 3, 1) := by decide +kernel
theorem d_Law_line_1 : decode b_Law_line 1 = .ok (.iconst 0, 1) := by decide +kernel
theorem d_Law_line_2 : decode b_Law_line 2 = .ok (.aload_n 0, 1) := by decide +kernel
theorem d_Law_line_3 : decode b_Law_line 3 = .ok (.iload_n 1, 1) := by decide +kernel
theorem d_Law_line_4 : decode b_Law_line 4 = .ok (.iload_n 2, 1) := by decide +kernel
theorem d_Law_line_5 : decode b_Law_line 5 = .ok (.invokevirtual 21, 3) := by decide +kernel
theorem d_Law_line_8 : decode b_Law_line 8 = .ok (.lastore, 1) := by decide +kernel
theorem d_Law_line_9 : decode b_Law_line 9 = .ok (.goto 7, 3) := by decide +kernel
theorem d_Law_line_12 : decode b_Law_line 12 = .ok (.astore 4, 2) := by decide +kernel
theorem d_Law_line_14 : decode b_Law_line 14 = .ok (.iconst 1, 1) := by decide +kernel
theorem d_Law_line_15 : decode b_Law_line 15 = .ok (.ireturn, 1) := by decide +kernel
theorem d_Law_line_16 : decode b_Law_line 16 = .ok (.iconst 0, 1) := by decide +kernel
theorem d_Law_line_17 : decode b_Law_line 17 = .ok (.ireturn, 1) := by decide +kernel
theorem d_Law_changed_0 : decode b_Law_changed 0 = .ok (.aload 4, 2) := by decide +kernel
theorem d_Law_changed_2 : decode b_Law_changed 2 = .ok (.iconst 0, 1) := by decide +kernel
theorem d_Law_changed_3 : decode b_Law_changed 3 = .ok (.aload_n 0, 1) := by decide +kernel
theorem d_Law_changed_4 : decode b_Law_changed 4 = .ok (.iload_n 1, 1) := by decide +kernel
theorem d_Law_changed_5 : decode b_Law_changed 5 = .ok (.iload_n 2, 1) := by decide +kernel
theorem d_Law_changed_6 : decode b_Law_changed 6 = .ok (.iload_n 3, 1) := by decide +kernel
theorem d_Law_changed_7 : decode b_Law_changed 7 = .ok (.invokevirtual 25, 3) := by decide +kernel
theorem d_Law_changed_10 : decode b_Law_changed 10 = .ok (.lastore, 1) := by decide +kernel
theorem d_Law_changed_11 : decode b_Law_changed 11 = .ok (.goto 11, 3) := by decide +kernel
theorem d_Law_changed_14 : decode b_Law_changed 14 = .ok (.astore 5, 2) := by decide +kernel
theorem d_Law_changed_16 : decode b_Law_changed 16 = .ok (.iconst 1, 1) := by decide +kernel
theorem d_Law_changed_17 : decode b_Law_changed 17 = .ok (.ireturn, 1) := by decide +kernel
theorem d_Law_changed_18 : decode b_Law_changed 18 = .ok (.astore 5, 2) := by decide +kernel
theorem d_Law_changed_20 : decode b_Law_changed 20 = .ok (.iconst 2, 1) := by decide +kernel
theorem d_Law_changed_21 : decode b_Law_changed 21 = .ok (.ireturn, 1) := by decide +kernel
theorem d_Law_changed_22 : decode b_Law_changed 22 = .ok (.iconst 0, 1) := by decide +kernel
theorem d_Law_changed_23 : decode b_Law_changed 23 = .ok (.ireturn, 1) := by decide +kernel
theorem d_Law_currency_0 : decode b_Law_currency 0 = .ok (.aload 4, 2) := by decide +kernel
theorem d_Law_currency_2 : decode b_Law_currency 2 = .ok (.iconst 0, 1) := by decide +kernel
theorem d_Law_currency_3 : decode b_Law_currency 3 = .ok (.aload_n 0, 1) := by decide +kernel
theorem d_Law_currency_4 : decode b_Law_currency 4 = .ok (.iload_n 1, 1) := by decide +kernel
theorem d_Law_currency_5 : decode b_Law_currency 5 = .ok (.iload_n 2, 1) := by decide +kernel
theorem d_Law_currency_6 : decode b_Law_currency 6 = .ok (.iload_n 3, 1) := by decide +kernel
theorem d_Law_currency_7 : decode b_Law_currency 7 = .ok (.invokevirtual 29, 3) := by decide +kernel
theorem d_Law_currency_10 : decode b_Law_currency 10 = .ok (.i2l, 1) := by decide +kernel
theorem d_Law_currency_11 : decode b_Law_currency 11 = .ok (.lastore, 1) := by decide +kernel
theorem d_Law_currency_12 : decode b_Law_currency 12 = .ok (.goto 11, 3) := by decide +kernel
theorem d_Law_currency_15 : decode b_Law_currency 15 = .ok (.astore 5, 2) := by decide +kernel
theorem d_Law_currency_17 : decode b_Law_currency 17 = .ok (.iconst 1, 1) := by decide +kernel
theorem d_Law_currency_18 : decode b_Law_currency 18 = .ok (.ireturn, 1) := by decide +kernel
theorem d_Law_currency_19 : decode b_Law_currency 19 = .ok (.astore 5, 2) := by decide +kernel
theorem d_Law_currency_21 : decode b_Law_currency 21 = .ok (.iconst 2, 1) := by decide +kernel
theorem d_Law_currency_22 : decode b_Law_currency 22 = .ok (.ireturn, 1) := by decide +kernel
theorem d_Law_currency_23 : decode b_Law_currency 23 = .ok (.iconst 0, 1) := by decide +kernel
theorem d_Law_currency_24 : decode b_Law_currency 24 = .ok (.ireturn, 1) := by decide +kernel
theorem d_Law_centsAt_0 : decode b_Law_centsAt 0 = .ok (.aload_n 2, 1) := by decide +kernel
theorem d_Law_centsAt_1 : decode b_Law_centsAt 1 = .ok (.iconst 0, 1) := by decide +kernel
theorem d_Law_centsAt_2 : decode b_Law_centsAt 2 = .ok (.aload_n 0, 1) := by decide +kernel
theorem d_Law_centsAt_3 : decode b_Law_centsAt 3 = .ok (.iload_n 1, 1) := by decide +kernel
theorem d_Law_centsAt_4 : decode b_Law_centsAt 4 = .ok (.invokevirtual 35, 3) := by decide +kernel
theorem d_Law_centsAt_7 : decode b_Law_centsAt 7 = .ok (.lastore, 1) := by decide +kernel
theorem d_Law_centsAt_8 : decode b_Law_centsAt 8 = .ok (.goto 6, 3) := by decide +kernel
theorem d_Law_centsAt_11 : decode b_Law_centsAt 11 = .ok (.astore_n 3, 1) := by decide +kernel
theorem d_Law_centsAt_12 : decode b_Law_centsAt 12 = .ok (.iconst 1, 1) := by decide +kernel
theorem d_Law_centsAt_13 : decode b_Law_centsAt 13 = .ok (.ireturn, 1) := by decide +kernel
theorem d_Law_centsAt_14 : decode b_Law_centsAt 14 = .ok (.iconst 0, 1) := by decide +kernel
theorem d_Law_centsAt_15 : decode b_Law_centsAt 15 = .ok (.ireturn, 1) := by decide +kernel
theorem d_Law_offer_0 : decode b_Law_offer 0 = .ok (.aload_n 2, 1) := by decide +kernel
theorem d_Law_offer_1 : decode b_Law_offer 1 = .ok (.iconst 0, 1) := by decide +kernel
theorem d_Law_offer_2 : decode b_Law_offer 2 = .ok (.aload_n 0, 1) := by decide +kernel
theorem d_Law_offer_3 : decode b_Law_offer 3 = .ok (.iload_n 1, 1) := by decide +kernel
theorem d_Law_offer_4 : decode b_Law_offer 4 = .ok (.invokevirtual 39, 3) := by decide +kernel
theorem d_Law_offer_7 : decode b_Law_offer 7 = .ok (.i2l, 1) := by decide +kernel
theorem d_Law_offer_8 : decode b_Law_offer 8 = .ok (.lastore, 1) := by decide +kernel
theorem d_Law_offer_9 : decode b_Law_offer 9 = .ok (.goto 9, 3) := by decide +kernel
theorem d_Law_offer_12 : decode b_Law_offer 12 = .ok (.astore_n 3, 1) := by decide +kernel
theorem d_Law_offer_13 : decode b_Law_offer 13 = .ok (.iconst 1, 1) := by decide +kernel
theorem d_Law_offer_14 : decode b_Law_offer 14 = .ok (.ireturn, 1) := by decide +kernel
theorem d_Law_offer_15 : decode b_Law_offer 15 = .ok (.astore_n 3, 1) := by decide +kernel
theorem d_Law_offer_16 : decode b_Law_offer 16 = .ok (.iconst 2, 1) := by decide +kernel
theorem d_Law_offer_17 : decode b_Law_offer 17 = .ok (.ireturn, 1) := by decide +kernel
theorem d_Law_offer_18 : decode b_Law_offer 18 = .ok (.iconst 0, 1) := by decide +kernel
theorem d_Law_offer_19 : decode b_Law_offer 19 = .ok (.ireturn, 1) := by decide +kernel
theorem d_Law_offered_0 : decode b_Law_offered 0 = .ok (.aload_n 3, 1) := by decide +kernel
theorem d_Law_offered_1 : decode b_Law_offered 1 = .ok (.iconst 0, 1) := by decide +kernel
theorem d_Law_offered_2 : decode b_Law_offered 2 = .ok (.aload_n 0, 1) := by decide +kernel
theorem d_Law_offered_3 : decode b_Law_offered 3 = .ok (.iload_n 1, 1) := by decide +kernel
theorem d_Law_offered_4 : decode b_Law_offered 4 = .ok (.iload_n 2, 1) := by decide +kernel
theorem d_Law_offered_5 : decode b_Law_offered 5 = .ok (.invokevirtual 43, 3) := by decide +kernel
theorem d_Law_offered_8 : decode b_Law_offered 8 = .ok (.lastore, 1) := by decide +kernel
theorem d_Law_offered_9 : decode b_Law_offered 9 = .ok (.goto 15, 3) := by decide +kernel
theorem d_Law_offered_12 : decode b_Law_offered 12 = .ok (.astore 4, 2) := by decide +kernel
theorem d_Law_offered_14 : decode b_Law_offered 14 = .ok (.iconst 1, 1) := by decide +kernel
theorem d_Law_offered_15 : decode b_Law_offered 15 = .ok (.ireturn, 1) := by decide +kernel
theorem d_Law_offered_16 : decode b_Law_offered 16 = .ok (.astore 4, 2) := by decide +kernel
theorem d_Law_offered_18 : decode b_Law_offered 18 = .ok (.iconst 2, 1) := by decide +kernel
theorem d_Law_offered_19 : decode b_Law_offered 19 = .ok (.ireturn, 1) := by decide +kernel
theorem d_Law_offered_20 : decode b_Law_offered 20 = .ok (.astore 4, 2) := by decide +kernel
theorem d_Law_offered_22 : decode b_Law_offered 22 = .ok (.iconst 3, 1) := by decide +kernel
theorem d_Law_offered_23 : decode b_Law_offered 23 = .ok (.ireturn, 1) := by decide +kernel
theorem d_Law_offered_24 : decode b_Law_offered 24 = .ok (.iconst 0, 1) := by decide +kernel
theorem d_Law_offered_25 : decode b_Law_offered 25 = .ok (.ireturn, 1) := by decide +kernel
theorem d_Law_differs_0 : decode b_Law_differs 0 = .ok (.aload_n 3, 1) := by decide +kernel
theorem d_Law_differs_1 : decode b_Law_differs 1 = .ok (.iconst 0, 1) := by decide +kernel
theorem d_Law_differs_2 : decode b_Law_differs 2 = .ok (.aload_n 0, 1) := by decide +kernel
theorem d_Law_differs_3 : decode b_Law_differs 3 = .ok (.iload_n 1, 1) := by decide +kernel
theorem d_Law_differs_4 : decode b_Law_differs 4 = .ok (.iload_n 2, 1) := by decide +kernel
theorem d_Law_differs_5 : decode b_Law_differs 5 = .ok (.invokevirtual 46, 3) := by decide +kernel
theorem d_Law_differs_8 : decode b_Law_differs 8 = .ok (.lastore, 1) := by decide +kernel
theorem d_Law_differs_9 : decode b_Law_differs 9 = .ok (.goto 7, 3) := by decide +kernel
theorem d_Law_differs_12 : decode b_Law_differs 12 = .ok (.astore 4, 2) := by decide +kernel
theorem d_Law_differs_14 : decode b_Law_differs 14 = .ok (.iconst 1, 1) := by decide +kernel
theorem d_Law_differs_15 : decode b_Law_differs 15 = .ok (.ireturn, 1) := by decide +kernel
theorem d_Law_differs_16 : decode b_Law_differs 16 = .ok (.iconst 0, 1) := by decide +kernel
theorem d_Law_differs_17 : decode b_Law_differs 17 = .ok (.ireturn, 1) := by decide +kernel
theorem d_Law_invoice_0 : decode b_Law_invoice 0 = .ok (.aload_n 3, 1) := by decide +kernel
theorem d_Law_invoice_1 : decode b_Law_invoice 1 = .ok (.iconst 0, 1) := by decide +kernel
theorem d_Law_invoice_2 : decode b_Law_invoice 2 = .ok (.aload_n 0, 1) := by decide +kernel
theorem d_Law_invoice_3 : decode b_Law_invoice 3 = .ok (.iload_n 1, 1) := by decide +kernel
theorem d_Law_invoice_4 : decode b_Law_invoice 4 = .ok (.iload_n 2, 1) := by decide +kernel
theorem d_Law_invoice_5 : decode b_Law_invoice 5 = .ok (.invokevirtual 49, 3) := by decide +kernel
theorem d_Law_invoice_8 : decode b_Law_invoice 8 = .ok (.i2l, 1) := by decide +kernel
theorem d_Law_invoice_9 : decode b_Law_invoice 9 = .ok (.lastore, 1) := by decide +kernel
theorem d_Law_invoice_10 : decode b_Law_invoice 10 = .ok (.goto 15, 3) := by decide +kernel
theorem d_Law_invoice_13 : decode b_Law_invoice 13 = .ok (.astore 4, 2) := by decide +kernel
theorem d_Law_invoice_15 : decode b_Law_invoice 15 = .ok (.iconst 1, 1) := by decide +kernel
theorem d_Law_invoice_16 : decode b_Law_invoice 16 = .ok (.ireturn, 1) := by decide +kernel
theorem d_Law_invoice_17 : decode b_Law_invoice 17 = .ok (.astore 4, 2) := by decide +kernel
theorem d_Law_invoice_19 : decode b_Law_invoice 19 = .ok (.iconst 2, 1) := by decide +kernel
theorem d_Law_invoice_20 : decode b_Law_invoice 20 = .ok (.ireturn, 1) := by decide +kernel
theorem d_Law_invoice_21 : decode b_Law_invoice 21 = .ok (.astore 4, 2) := by decide +kernel
theorem d_Law_invoice_23 : decode b_Law_invoice 23 = .ok (.iconst 3, 1) := by decide +kernel
theorem d_Law_invoice_24 : decode b_Law_invoice 24 = .ok (.ireturn, 1) := by decide +kernel
theorem d_Law_invoice_25 : decode b_Law_invoice 25 = .ok (.iconst 0, 1) := by decide +kernel
theorem d_Law_invoice_26 : decode b_Law_invoice 26 = .ok (.ireturn, 1) := by decide +kernel
theorem d_Law_left_0 : decode b_Law_left 0 = .ok (.aload_n 2, 1) := by decide +kernel
theorem d_Law_left_1 : decode b_Law_left 1 = .ok (.iconst 0, 1) := by decide +kernel
theorem d_Law_left_2 : decode b_Law_left 2 = .ok (.aload_n 0, 1) := by decide +kernel
theorem d_Law_left_3 : decode b_Law_left 3 = .ok (.iload_n 1, 1) := by decide +kernel
theorem d_Law_left_4 : decode b_Law_left 4 = .ok (.invokevirtual 53, 3) := by decide +kernel
theorem d_Law_left_7 : decode b_Law_left 7 = .ok (.lastore, 1) := by decide +kernel
theorem d_Law_left_8 : decode b_Law_left 8 = .ok (.goto 6, 3) := by decide +kernel
theorem d_Law_left_11 : decode b_Law_left 11 = .ok (.astore_n 3, 1) := by decide +kernel
theorem d_Law_left_12 : decode b_Law_left 12 = .ok (.iconst 1, 1) := by decide +kernel
theorem d_Law_left_13 : decode b_Law_left 13 = .ok (.ireturn, 1) := by decide +kernel
theorem d_Law_left_14 : decode b_Law_left 14 = .ok (.iconst 0, 1) := by decide +kernel
theorem d_Law_left_15 : decode b_Law_left 15 = .ok (.ireturn, 1) := by decide +kernel
theorem d_Law_refund_0 : decode b_Law_refund 0 = .ok (.aload_n 3, 1) := by decide +kernel
theorem d_Law_refund_1 : decode b_Law_refund 1 = .ok (.iconst 0, 1) := by decide +kernel
theorem d_Law_refund_2 : decode b_Law_refund 2 = .ok (.aload_n 0, 1) := by decide +kernel
theorem d_Law_refund_3 : decode b_Law_refund 3 = .ok (.iload_n 1, 1) := by decide +kernel
theorem d_Law_refund_4 : decode b_Law_refund 4 = .ok (.iload_n 2, 1) := by decide +kernel
theorem d_Law_refund_5 : decode b_Law_refund 5 = .ok (.invokevirtual 56, 3) := by decide +kernel
theorem d_Law_refund_8 : decode b_Law_refund 8 = .ok (.ifCond .eq 7, 3) := by decide +kernel
theorem d_Law_refund_11 : decode b_Law_refund 11 = .ok (.lconst 1, 1) := by decide +kernel
theorem d_Law_refund_12 : decode b_Law_refund 12 = .ok (.goto 4, 3) := by decide +kernel
theorem d_Law_refund_15 : decode b_Law_refund 15 = .ok (.lconst 0, 1) := by decide +kernel
theorem d_Law_refund_16 : decode b_Law_refund 16 = .ok (.lastore, 1) := by decide +kernel
theorem d_Law_refund_17 : decode b_Law_refund 17 = .ok (.goto 11, 3) := by decide +kernel
theorem d_Law_refund_20 : decode b_Law_refund 20 = .ok (.astore 4, 2) := by decide +kernel
theorem d_Law_refund_22 : decode b_Law_refund 22 = .ok (.iconst 1, 1) := by decide +kernel
theorem d_Law_refund_23 : decode b_Law_refund 23 = .ok (.ireturn, 1) := by decide +kernel
theorem d_Law_refund_24 : decode b_Law_refund 24 = .ok (.astore 4, 2) := by decide +kernel
theorem d_Law_refund_26 : decode b_Law_refund 26 = .ok (.iconst 2, 1) := by decide +kernel
theorem d_Law_refund_27 : decode b_Law_refund 27 = .ok (.ireturn, 1) := by decide +kernel
theorem d_Law_refund_28 : decode b_Law_refund 28 = .ok (.iconst 0, 1) := by decide +kernel
theorem d_Law_refund_29 : decode b_Law_refund 29 = .ok (.ireturn, 1) := by decide +kernel
theorem d_Law_learn_0 : decode b_Law_learn 0 = .ok (.aload_n 3, 1) := by decide +kernel
theorem d_Law_learn_1 : decode b_Law_learn 1 = .ok (.iconst 0, 1) := by decide +kernel
theorem d_Law_learn_2 : decode b_Law_learn 2 = .ok (.aload_n 0, 1) := by decide +kernel
theorem d_Law_learn_3 : decode b_Law_learn 3 = .ok (.iload_n 1, 1) := by decide +kernel
theorem d_Law_learn_4 : decode b_Law_learn 4 = .ok (.iload_n 2, 1) := by decide +kernel
theorem d_Law_learn_5 : decode b_Law_learn 5 = .ok (.invokevirtual 60, 3) := by decide +kernel
theorem d_Law_learn_8 : decode b_Law_learn 8 = .ok (.i2l, 1) := by decide +kernel
theorem d_Law_learn_9 : decode b_Law_learn 9 = .ok (.lastore, 1) := by decide +kernel
theorem d_Law_learn_10 : decode b_Law_learn 10 = .ok (.goto 11, 3) := by decide +kernel
theorem d_Law_learn_13 : decode b_Law_learn 13 = .ok (.astore 4, 2) := by decide +kernel
theorem d_Law_learn_15 : decode b_Law_learn 15 = .ok (.iconst 1, 1) := by decide +kernel
theorem d_Law_learn_16 : decode b_Law_learn 16 = .ok (.ireturn, 1) := by decide +kernel
theorem d_Law_learn_17 : decode b_Law_learn 17 = .ok (.astore 4, 2) := by decide +kernel
theorem d_Law_learn_19 : decode b_Law_learn 19 = .ok (.iconst 2, 1) := by decide +kernel
theorem d_Law_learn_20 : decode b_Law_learn 20 = .ok (.ireturn, 1) := by decide +kernel
theorem d_Law_learn_21 : decode b_Law_learn 21 = .ok (.iconst 0, 1) := by decide +kernel
theorem d_Law_learn_22 : decode b_Law_learn 22 = .ok (.ireturn, 1) := by decide +kernel
theorem d_Law_law_0 : decode b_Law_law 0 = .ok (.new 8, 3) := by decide +kernel
theorem d_Law_law_3 : decode b_Law_law 3 = .ok (.dup, 1) := by decide +kernel
theorem d_Law_law_4 : decode b_Law_law 4 = .ok (.invokespecial 63, 3) := by decide +kernel
theorem d_Law_law_7 : decode b_Law_law 7 = .ok (.astore_n 1, 1) := by decide +kernel
theorem d_Law_law_8 : decode b_Law_law 8 = .ok (.new 64, 3) := by decide +kernel
theorem d_Law_law_11 : decode b_Law_law 11 = .ok (.dup, 1) := by decide +kernel
theorem d_Law_law_12 : decode b_Law_law 12 = .ok (.invokespecial 66, 3) := by decide +kernel
theorem d_Law_law_15 : decode b_Law_law 15 = .ok (.astore_n 2, 1) := by decide +kernel
theorem d_Law_law_16 : decode b_Law_law 16 = .ok (.iconst 1, 1) := by decide +kernel
theorem d_Law_law_17 : decode b_Law_law 17 = .ok (.newarray .long, 2) := by decide +kernel
theorem d_Law_law_19 : decode b_Law_law 19 = .ok (.astore_n 3, 1) := by decide +kernel
theorem d_Law_law_20 : decode b_Law_law 20 = .ok (.iconst 0, 1) := by decide +kernel
theorem d_Law_law_21 : decode b_Law_law 21 = .ok (.istore 4, 2) := by decide +kernel
theorem d_Law_law_23 : decode b_Law_law 23 = .ok (.iload 4, 2) := by decide +kernel
theorem d_Law_law_25 : decode b_Law_law 25 = .ok (.aload_n 0, 1) := by decide +kernel
theorem d_Law_law_26 : decode b_Law_law 26 = .ok (.arraylength, 1) := by decide +kernel
theorem d_Law_law_27 : decode b_Law_law 27 = .ok (.iconst 4, 1) := by decide +kernel
theorem d_Law_law_28 : decode b_Law_law 28 = .ok (.isub, 1) := by decide +kernel
theorem d_Law_law_29 : decode b_Law_law 29 = .ok (.if_icmp .gt 1022, 3) := by decide +kernel
theorem d_Law_law_32 : decode b_Law_law 32 = .ok (.aload_n 0, 1) := by decide +kernel
theorem d_Law_law_33 : decode b_Law_law 33 = .ok (.iload 4, 2) := by decide +kernel
theorem d_Law_law_35 : decode b_Law_law 35 = .ok (.iaload, 1) := by decide +kernel
theorem d_Law_law_36 : decode b_Law_law 36 = .ok (.bipush 31, 2) := by decide +kernel
theorem d_Law_law_38 : decode b_Law_law 38 = .ok (.iand, 1) := by decide +kernel
theorem d_Law_law_39 : decode b_Law_law 39 = .ok (.tableswitch 1006 0 16 #[81, 106, 119, 179, 242, 255, 269, 336, 415, 495, 550, 606, 673, 740, 808, 863, 938], 81) := by decide +kernel
theorem d_Law_law_120 : decode b_Law_law 120 = .ok (.aload_n 1, 1) := by decide +kernel
theorem d_Law_law_121 : decode b_Law_law 121 = .ok (.aload_n 0, 1) := by decide +kernel
theorem d_Law_law_122 : decode b_Law_law 122 = .ok (.iload 4, 2) := by decide +kernel
theorem d_Law_law_124 : decode b_Law_law 124 = .ok (.iconst 1, 1) := by decide +kernel
theorem d_Law_law_125 : decode b_Law_law 125 = .ok (.iadd, 1) := by decide +kernel
theorem d_Law_law_126 : decode b_Law_law 126 = .ok (.iaload, 1) := by decide +kernel
theorem d_Law_law_127 : decode b_Law_law 127 = .ok (.invokevirtual 67, 3) := by decide +kernel
theorem d_Law_law_130 : decode b_Law_law 130 = .ok (.aload_n 2, 1) := by decide +kernel
theorem d_Law_law_131 : decode b_Law_law 131 = .ok (.aload_n 0, 1) := by decide +kernel
theorem d_Law_law_132 : decode b_Law_law 132 = .ok (.iload 4, 2) := by decide +kernel
theorem d_Law_law_134 : decode b_Law_law 134 = .ok (.iconst 1, 1) := by decide +kernel
theorem d_Law_law_135 : decode b_Law_law 135 = .ok (.iadd, 1) := by decide +kernel
theorem d_Law_law_136 : decode b_Law_law 136 = .ok (.iaload, 1) := by decide +kernel
theorem d_Law_law_137 : decode b_Law_law 137 = .ok (.invokevirtual 70, 3) := by decide +kernel
theorem d_Law_law_140 : decode b_Law_law 140 = .ok (.if_icmp .eq 905, 3) := by decide +kernel
theorem d_Law_law_143 : decode b_Law_law 143 = .ok (.iconst 0, 1) := by decide +kernel
theorem d_Law_law_144 : decode b_Law_law 144 = .ok (.ireturn, 1) := by decide +kernel
theorem d_Law_law_145 : decode b_Law_law 145 = .ok (.aload_n 1, 1) := by decide +kernel
theorem d_Law_law_146 : decode b_Law_law 146 = .ok (.invokevirtual 71, 3) := by decide +kernel
theorem d_Law_law_149 : decode b_Law_law 149 = .ok (.aload_n 2, 1) := by decide +kernel
theorem d_Law_law_150 : decode b_Law_law 150 = .ok (.invokevirtual 75, 3) := by decide +kernel
theorem d_Law_law_153 : decode b_Law_law 153 = .ok (.if_icmp .eq 892, 3) := by decide +kernel
theorem d_Law_law_156 : decode b_Law_law 156 = .ok (.iconst 0, 1) := by decide +kernel
theorem d_Law_law_157 : decode b_Law_law 157 = .ok (.ireturn, 1) := by decide +kernel
theorem d_Law_law_158 : decode b_Law_law 158 = .ok (.aload_n 1, 1) := by decide +kernel
theorem d_Law_law_159 : decode b_Law_law 159 = .ok (.aload_n 0, 1) := by decide +kernel
theorem d_Law_law_160 : decode b_Law_law 160 = .ok (.iload 4, 2) := by decide +kernel
theorem d_Law_law_162 : decode b_Law_law 162 = .ok (.iconst 1, 1) := by decide +kernel
theorem d_Law_law_163 : decode b_Law_law 163 = .ok (.iadd, 1) := by decide +kernel
theorem d_Law_law_164 : decode b_Law_law 164 = .ok (.iaload, 1) := by decide +kernel
theorem d_Law_law_165 : decode b_Law_law 165 = .ok (.aload_n 0, 1) := by decide +kernel
theorem d_Law_law_166 : decode b_Law_law 166 = .ok (.iload 4, 2) := by decide +kernel
theorem d_Law_law_168 : decode b_Law_law 168 = .ok (.iconst 2, 1) := by decide +kernel
theorem d_Law_law_169 : decode b_Law_law 169 = .ok (.iadd, 1) := by decide +kernel
theorem d_Law_law_170 : decode b_Law_law 170 = .ok (.iaload, 1) := by decide +kernel
theorem d_Law_law_171 : decode b_Law_law 171 = .ok (.aload_n 0, 1) := by decide +kernel
theorem d_Law_law_172 : decode b_Law_law 172 = .ok (.iload 4, 2) := by decide +kernel
theorem d_Law_law_174 : decode b_Law_law 174 = .ok (.iconst 3, 1) := by decide +kernel
theorem d_Law_law_175 : decode b_Law_law 175 = .ok (.iadd, 1) := by decide +kernel
theorem d_Law_law_176 : decode b_Law_law 176 = .ok (.iaload, 1) := by decide +kernel
theorem d_Law_law_177 : decode b_Law_law 177 = .ok (.invokestatic 76, 3) := by decide +kernel
theorem d_Law_law_180 : decode b_Law_law 180 = .ok (.istore 5, 2) := by decide +kernel
theorem d_Law_law_182 : decode b_Law_law 182 = .ok (.aload_n 2, 1) := by decide +kernel
theorem d_Law_law_183 : decode b_Law_law 183 = .ok (.aload_n 0, 1) := by decide +kernel
theorem d_Law_law_184 : decode b_Law_law 184 = .ok (.iload 4, 2) := by decide +kernel
theorem d_Law_law_186 : decode b_Law_law 186 = .ok (.iconst 1, 1) := by decide +kernel
theorem d_Law_law_187 : decode b_Law_law 187 = .ok (.iadd, 1) := by decide +kernel
theorem d_Law_law_188 : decode b_Law_law 188 = .ok (.iaload, 1) := by decide +kernel
theorem d_Law_law_189 : decode b_Law_law 189 = .ok (.aload_n 0, 1) := by decide +kernel
theorem d_Law_law_190 : decode b_Law_law 190 = .ok (.iload 4, 2) := by decide +kernel
theorem d_Law_law_192 : decode b_Law_law 192 = .ok (.iconst 2, 1) := by decide +kernel
theorem d_Law_law_193 : decode b_Law_law 193 = .ok (.iadd, 1) := by decide +kernel
theorem d_Law_law_194 : decode b_Law_law 194 = .ok (.iaload, 1) := by decide +kernel
theorem d_Law_law_195 : decode b_Law_law 195 = .ok (.aload_n 0, 1) := by decide +kernel
theorem d_Law_law_196 : decode b_Law_law 196 = .ok (.iload 4, 2) := by decide +kernel
theorem d_Law_law_198 : decode b_Law_law 198 = .ok (.iconst 3, 1) := by decide +kernel
theorem d_Law_law_199 : decode b_Law_law 199 = .ok (.iadd, 1) := by decide +kernel
theorem d_Law_law_200 : decode b_Law_law 200 = .ok (.iaload, 1) := by decide +kernel
theorem d_Law_law_201 : decode b_Law_law 201 = .ok (.invokevirtual 81, 3) := by decide +kernel
theorem d_Law_law_204 : decode b_Law_law 204 = .ok (.aload_n 2, 1) := by decide +kernel
theorem d_Law_law_205 : decode b_Law_law 205 = .ok (.invokevirtual 82, 3) := by decide +kernel
theorem d_Law_law_208 : decode b_Law_law 208 = .ok (.iload 5, 2) := by decide +kernel
theorem d_Law_law_210 : decode b_Law_law 210 = .ok (.if_icmp .eq 5, 3) := by decide +kernel
theorem d_Law_law_213 : decode b_Law_law 213 = .ok (.iconst 0, 1) := by decide +kernel
theorem d_Law_law_214 : decode b_Law_law 214 = .ok (.ireturn, 1) := by decide +kernel
theorem d_Law_law_215 : decode b_Law_law 215 = .ok (.goto 830, 3) := by decide +kernel
theorem d_Law_law_218 : decode b_Law_law 218 = .ok (.aload_n 1, 1) := by decide +kernel
theorem d_Law_law_219 : decode b_Law_law 219 = .ok (.aload_n 0, 1) := by decide +kernel
theorem d_Law_law_220 : decode b_Law_law 220 = .ok (.iload 4, 2) := by decide +kernel
theorem d_Law_law_222 : decode b_Law_law 222 = .ok (.iconst 1, 1) := by decide +kernel
theorem d_Law_law_223 : decode b_Law_law 223 = .ok (.iadd, 1) := by decide +kernel
theorem d_Law_law_224 : decode b_Law_law 224 = .ok (.iaload, 1) := by decide +kernel
theorem d_Law_law_225 : decode b_Law_law 225 = .ok (.aload_n 3, 1) := by decide +kernel
theorem d_Law_law_226 : decode b_Law_law 226 = .ok (.invokestatic 85, 3) := by decide +kernel
theorem d_Law_law_229 : decode b_Law_law 229 = .ok (.istore 5, 2) := by decide +kernel
theorem d_Law_law_231 : decode b_Law_law 231 = .ok (.aload_n 2, 1) := by decide +kernel
theorem d_Law_law_232 : decode b_Law_law 232 = .ok (.aload_n 0, 1) := by decide +kernel
theorem d_Law_law_233 : decode b_Law_law 233 = .ok (.iload 4, 2) := by decide +kernel
theorem d_Law_law_235 : decode b_Law_law 235 = .ok (.iconst 1, 1) := by decide +kernel
theorem d_Law_law_236 : decode b_Law_law 236 = .ok (.iadd, 1) := by decide +kernel
theorem d_Law_law_237 : decode b_Law_law 237 = .ok (.iaload, 1) := by decide +kernel
theorem d_Law_law_238 : decode b_Law_law 238 = .ok (.invokevirtual 88, 3) := by decide +kernel
theorem d_Law_law_241 : decode b_Law_law 241 = .ok (.istore 6, 2) := by decide +kernel
theorem d_Law_law_243 : decode b_Law_law 243 = .ok (.aload_n 2, 1) := by decide +kernel
theorem d_Law_law_244 : decode b_Law_law 244 = .ok (.invokevirtual 82, 3) := by decide +kernel
theorem d_Law_law_247 : decode b_Law_law 247 = .ok (.iload 5, 2) := by decide +kernel
theorem d_Law_law_249 : decode b_Law_law 249 = .ok (.if_icmp .eq 5, 3) := by decide +kernel
theorem d_Law_law_252 : decode b_Law_law 252 = .ok (.iconst 0, 1) := by decide +kernel
theorem d_Law_law_253 : decode b_Law_law 253 = .ok (.ireturn, 1) := by decide +kernel
theorem d_Law_law_254 : decode b_Law_law 254 = .ok (.iload 5, 2) := by decide +kernel
theorem d_Law_law_256 : decode b_Law_law 256 = .ok (.ifCond .ne 22, 3) := by decide +kernel
theorem d_Law_law_259 : decode b_Law_law 259 = .ok (.aload_n 3, 1) := by decide +kernel
theorem d_Law_law_260 : decode b_Law_law 260 = .ok (.iconst 0, 1) := by decide +kernel
theorem d_Law_law_261 : decode b_Law_law 261 = .ok (.laload, 1) := by decide +kernel
theorem d_Law_law_262 : decode b_Law_law 262 = .ok (.iload 6, 2) := by decide +kernel
theorem d_Law_law_264 : decode b_Law_law 264 = .ok (.ifCond .eq 7, 3) := by decide +kernel
theorem d_Law_law_267 : decode b_Law_law 267 = .ok (.lconst 1, 1) := by decide +kernel
theorem d_Law_law_268 : decode b_Law_law 268 = .ok (.goto 4, 3) := by decide +kernel
theorem d_Law_law_271 : decode b_Law_law 271 = .ok (.lconst 0, 1) := by decide +kernel
theorem d_Law_law_272 : decode b_Law_law 272 = .ok (.lcmp, 1) := by decide +kernel
theorem d_Law_law_273 : decode b_Law_law 273 = .ok (.ifCond .eq 5, 3) := by decide +kernel
theorem d_Law_law_276 : decode b_Law_law 276 = .ok (.iconst 0, 1) := by decide +kernel
theorem d_Law_law_277 : decode b_Law_law 277 = .ok (.ireturn, 1) := by decide +kernel
theorem d_Law_law_278 : decode b_Law_law 278 = .ok (.goto 767, 3) := by decide +kernel
theorem d_Law_law_281 : decode b_Law_law 281 = .ok (.aload_n 1, 1) := by decide +kernel
theorem d_Law_law_282 : decode b_Law_law 282 = .ok (.invokevirtual 89, 3) := by decide +kernel
theorem d_Law_law_285 : decode b_Law_law 285 = .ok (.aload_n 2, 1) := by decide +kernel
theorem d_Law_law_286 : decode b_Law_law 286 = .ok (.invokevirtual 92, 3) := by decide +kernel
theorem d_Law_law_289 : decode b_Law_law 289 = .ok (.if_icmp .eq 756, 3) := by decide +kernel
theorem d_Law_law_292 : decode b_Law_law 292 = .ok (.iconst 0, 1) := by decide +kernel
theorem d_Law_law_293 : decode b_Law_law 293 = .ok (.ireturn, 1) := by decide +kernel
theorem d_Law_law_294 : decode b_Law_law 294 = .ok (.aload_n 1, 1) := by decide +kernel
theorem d_Law_law_295 : decode b_Law_law 295 = .ok (.invokevirtual 93, 3) := by decide +kernel
theorem d_Law_law_298 : decode b_Law_law 298 = .ok (.aload_n 2, 1) := by decide +kernel
theorem d_Law_law_299 : decode b_Law_law 299 = .ok (.invokevirtual 97, 3) := by decide +kernel
theorem d_Law_law_302 : decode b_Law_law 302 = .ok (.lcmp, 1) := by decide +kernel
theorem d_Law_law_303 : decode b_Law_law 303 = .ok (.ifCond .eq 742, 3) := by decide +kernel
theorem d_Law_law_306 : decode b_Law_law 306 = .ok (.iconst 0, 1) := by decide +kernel
theorem d_Law_law_307 : decode b_Law_law 307 = .ok (.ireturn, 1) := by decide +kernel
theorem d_Law_law_308 : decode b_Law_law 308 = .ok (.aload_n 1, 1) := by decide +kernel
theorem d_Law_law_309 : decode b_Law_law 309 = .ok (.aload_n 0, 1) := by decide +kernel
theorem d_Law_law_310 : decode b_Law_law 310 = .ok (.iload 4, 2) := by decide +kernel
theorem d_Law_law_312 : decode b_Law_law 312 = .ok (.iconst 1, 1) := by decide +kernel
theorem d_Law_law_313 : decode b_Law_law 313 = .ok (.iadd, 1) := by decide +kernel
theorem d_Law_law_314 : decode b_Law_law 314 = .ok (.iaload, 1) := by decide +kernel
theorem d_Law_law_315 : decode b_Law_law 315 = .ok (.aload_n 0, 1) := by decide +kernel
theorem d_Law_law_316 : decode b_Law_law 316 = .ok (.iload 4, 2) := by decide +kernel
theorem d_Law_law_318 : decode b_Law_law 318 = .ok (.iconst 2, 1) := by decide +kernel
theorem d_Law_law_319 : decode b_Law_law 319 = .ok (.iadd, 1) := by decide +kernel
theorem d_Law_law_320 : decode b_Law_law 320 = .ok (.iaload, 1) := by decide +kernel
theorem d_Law_law_321 : decode b_Law_law 321 = .ok (.aload_n 3, 1) := by decide +kernel
theorem d_Law_law_322 : decode b_Law_law 322 = .ok (.invokestatic 98, 3) := by decide +kernel
theorem d_Law_law_325 : decode b_Law_law 325 = .ok (.istore 5, 2) := by decide +kernel
theorem d_Law_law_327 : decode b_Law_law 327 = .ok (.aload_n 2, 1) := by decide +kernel
theorem d_Law_law_328 : decode b_Law_law 328 = .ok (.aload_n 0, 1) := by decide +kernel
theorem d_Law_law_329 : decode b_Law_law 329 = .ok (.iload 4, 2) := by decide +kernel
theorem d_Law_law_331 : decode b_Law_law 331 = .ok (.iconst 1, 1) := by decide +kernel
theorem d_Law_law_332 : decode b_Law_law 332 = .ok (.iadd, 1) := by decide +kernel
theorem d_Law_law_333 : decode b_Law_law 333 = .ok (.iaload, 1) := by decide +kernel
theorem d_Law_law_334 : decode b_Law_law 334 = .ok (.aload_n 0, 1) := by decide +kernel
theorem d_Law_law_335 : decode b_Law_law 335 = .ok (.iload 4, 2) := by decide +kernel
theorem d_Law_law_337 : decode b_Law_law 337 = .ok (.iconst 2, 1) := by decide +kernel
theorem d_Law_law_338 : decode b_Law_law 338 = .ok (.iadd, 1) := by decide +kernel
theorem d_Law_law_339 : decode b_Law_law 339 = .ok (.iaload, 1) := by decide +kernel
theorem d_Law_law_340 : decode b_Law_law 340 = .ok (.invokevirtual 101, 3) := by decide +kernel
theorem d_Law_law_343 : decode b_Law_law 343 = .ok (.lstore 6, 2) := by decide +kernel
theorem d_Law_law_345 : decode b_Law_law 345 = .ok (.aload_n 2, 1) := by decide +kernel
theorem d_Law_law_346 : decode b_Law_law 346 = .ok (.invokevirtual 82, 3) := by decide +kernel
theorem d_Law_law_349 : decode b_Law_law 349 = .ok (.iload 5, 2) := by decide +kernel
theorem d_Law_law_351 : decode b_Law_law 351 = .ok (.if_icmp .eq 5, 3) := by decide +kernel
theorem d_Law_law_354 : decode b_Law_law 354 = .ok (.iconst 0, 1) := by decide +kernel
theorem d_Law_law_355 : decode b_Law_law 355 = .ok (.ireturn, 1) := by decide +kernel
theorem d_Law_law_356 : decode b_Law_law 356 = .ok (.iload 5, 2) := by decide +kernel
theorem d_Law_law_358 : decode b_Law_law 358 = .ok (.ifCond .ne 14, 3) := by decide +kernel
theorem d_Law_law_361 : decode b_Law_law 361 = .ok (.aload_n 3, 1) := by decide +kernel
theorem d_Law_law_362 : decode b_Law_law 362 = .ok (.iconst 0, 1) := by decide +kernel
theorem d_Law_law_363 : decode b_Law_law 363 = .ok (.laload, 1) := by decide +kernel
theorem d_Law_law_364 : decode b_Law_law 364 = .ok (.lload 6, 2) := by decide +kernel
theorem d_Law_law_366 : decode b_Law_law 366 = .ok (.lcmp, 1) := by decide +kernel
theorem d_Law_law_367 : decode b_Law_law 367 = .ok (.ifCond .eq 5, 3) := by decide +kernel
theorem d_Law_law_370 : decode b_Law_law 370 = .ok (.iconst 0, 1) := by decide +kernel
theorem d_Law_law_371 : decode b_Law_law 371 = .ok (.ireturn, 1) := by decide +kernel
theorem d_Law_law_372 : decode b_Law_law 372 = .ok (.goto 673, 3) := by decide +kernel
theorem d_Law_law_375 : decode b_Law_law 375 = .ok (.aload_n 1, 1) := by decide +kernel
theorem d_Law_law_376 : decode b_Law_law 376 = .ok (.aload_n 0, 1) := by decide +kernel
theorem d_Law_law_377 : decode b_Law_law 377 = .ok (.iload 4, 2) := by decide +kernel
theorem d_Law_law_379 : decode b_Law_law 379 = .ok (.iconst 1, 1) := by decide +kernel
theorem d_Law_law_380 : decode b_Law_law 380 = .ok (.iadd, 1) := by decide +kernel
theorem d_Law_law_381 : decode b_Law_law 381 = .ok (.iaload, 1) := by decide +kernel
theorem d_Law_law_382 : decode b_Law_law 382 = .ok (.aload_n 0, 1) := by decide +kernel
theorem d_Law_law_383 : decode b_Law_law 383 = .ok (.iload 4, 2) := by decide +kernel
theorem d_Law_law_385 : decode b_Law_law 385 = .ok (.iconst 2, 1) := by decide +kernel
theorem d_Law_law_386 : decode b_Law_law 386 = .ok (.iadd, 1) := by decide +kernel
theorem d_Law_law_387 : decode b_Law_law 387 = .ok (.iaload, 1) := by decide +kernel
theorem d_Law_law_388 : decode b_Law_law 388 = .ok (.aload_n 0, 1) := by decide +kernel
theorem d_Law_law_389 : decode b_Law_law 389 = .ok (.iload 4, 2) := by decide +kernel
theorem d_Law_law_391 : decode b_Law_law 391 = .ok (.iconst 3, 1) := by decide +kernel
theorem d_Law_law_392 : decode b_Law_law 392 = .ok (.iadd, 1) := by decide +kernel
theorem d_Law_law_393 : decode b_Law_law 393 = .ok (.iaload, 1) := by decide +kernel
theorem d_Law_law_394 : decode b_Law_law 394 = .ok (.aload_n 3, 1) := by decide +kernel
theorem d_Law_law_395 : decode b_Law_law 395 = .ok (.invokestatic 102, 3) := by decide +kernel
theorem d_Law_law_398 : decode b_Law_law 398 = .ok (.istore 5, 2) := by decide +kernel
theorem d_Law_law_400 : decode b_Law_law 400 = .ok (.aload_n 2, 1) := by decide +kernel
theorem d_Law_law_401 : decode b_Law_law 401 = .ok (.aload_n 0, 1) := by decide +kernel
theorem d_Law_law_402 : decode b_Law_law 402 = .ok (.iload 4, 2) := by decide +kernel
theorem d_Law_law_404 : decode b_Law_law 404 = .ok (.iconst 1, 1) := by decide +kernel
theorem d_Law_law_405 : decode b_Law_law 405 = .ok (.iadd, 1) := by decide +kernel
theorem d_Law_law_406 : decode b_Law_law 406 = .ok (.iaload, 1) := by decide +kernel
theorem d_Law_law_407 : decode b_Law_law 407 = .ok (.aload_n 0, 1) := by decide +kernel
theorem d_Law_law_408 : decode b_Law_law 408 = .ok (.iload 4, 2) := by decide +kernel
theorem d_Law_law_410 : decode b_Law_law 410 = .ok (.iconst 2, 1) := by decide +kernel
theorem d_Law_law_411 : decode b_Law_law 411 = .ok (.iadd, 1) := by decide +kernel
theorem d_Law_law_412 : decode b_Law_law 412 = .ok (.iaload, 1) := by decide +kernel
theorem d_Law_law_413 : decode b_Law_law 413 = .ok (.aload_n 0, 1) := by decide +kernel
theorem d_Law_law_414 : decode b_Law_law 414 = .ok (.iload 4, 2) := by decide +kernel
theorem d_Law_law_416 : decode b_Law_law 416 = .ok (.iconst 3, 1) := by decide +kernel
theorem d_Law_law_417 : decode b_Law_law 417 = .ok (.iadd, 1) := by decide +kernel
theorem d_Law_law_418 : decode b_Law_law 418 = .ok (.iaload, 1) := by decide +kernel
theorem d_Law_law_419 : decode b_Law_law 419 = .ok (.invokevirtual 105, 3) := by decide +kernel
theorem d_Law_law_422 : decode b_Law_law 422 = .ok (.lstore 6, 2) := by decide +kernel
theorem d_Law_law_424 : decode b_Law_law 424 = .ok (.aload_n 2, 1) := by decide +kernel
theorem d_Law_law_425 : decode b_Law_law 425 = .ok (.invokevirtual 82, 3) := by decide +kernel
theorem d_Law_law_428 : decode b_Law_law 428 = .ok (.iload 5, 2) := by decide +kernel
theorem d_Law_law_430 : decode b_Law_law 430 = .ok (.if_icmp .eq 5, 3) := by decide +kernel
theorem d_Law_law_433 : decode b_Law_law 433 = .ok (.iconst 0, 1) := by decide +kernel
theorem d_Law_law_434 : decode b_Law_law 434 = .ok (.ireturn, 1) := by decide +kernel
theorem d_Law_law_435 : decode b_Law_law 435 = .ok (.iload 5, 2) := by decide +kernel
theorem d_Law_law_437 : decode b_Law_law 437 = .ok (.ifCond .ne 14, 3) := by decide +kernel
theorem d_Law_law_440 : decode b_Law_law 440 = .ok (.aload_n 3, 1) := by decide +kernel
theorem d_Law_law_441 : decode b_Law_law 441 = .ok (.iconst 0, 1) := by decide +kernel
theorem d_Law_law_442 : decode b_Law_law 442 = .ok (.laload, 1) := by decide +kernel
theorem d_Law_law_443 : decode b_Law_law 443 = .ok (.lload 6, 2) := by decide +kernel
theorem d_Law_law_445 : decode b_Law_law 445 = .ok (.lcmp, 1) := by decide +kernel
theorem d_Law_law_446 : decode b_Law_law 446 = .ok (.ifCond .eq 5, 3) := by decide +kernel
theorem d_Law_law_449 : decode b_Law_law 449 = .ok (.iconst 0, 1) := by decide +kernel
theorem d_Law_law_450 : decode b_Law_law 450 = .ok (.ireturn, 1) := by decide +kernel
theorem d_Law_law_451 : decode b_Law_law 451 = .ok (.goto 594, 3) := by decide +kernel
theorem d_Law_law_454 : decode b_Law_law 454 = .ok (.aload_n 1, 1) := by decide +kernel
theorem d_Law_law_455 : decode b_Law_law 455 = .ok (.aload_n 0, 1) := by decide +kernel
theorem d_Law_law_456 : decode b_Law_law 456 = .ok (.iload 4, 2) := by decide +kernel
theorem d_Law_law_458 : decode b_Law_law 458 = .ok (.iconst 1, 1) := by decide +kernel
theorem d_Law_law_459 : decode b_Law_law 459 = .ok (.iadd, 1) := by decide +kernel
theorem d_Law_law_460 : decode b_Law_law 460 = .ok (.iaload, 1) := by decide +kernel
theorem d_Law_law_461 : decode b_Law_law 461 = .ok (.aload_n 0, 1) := by decide +kernel
theorem d_Law_law_462 : decode b_Law_law 462 = .ok (.iload 4, 2) := by decide +kernel
theorem d_Law_law_464 : decode b_Law_law 464 = .ok (.iconst 2, 1) := by decide +kernel
theorem d_Law_law_465 : decode b_Law_law 465 = .ok (.iadd, 1) := by decide +kernel
theorem d_Law_law_466 : decode b_Law_law 466 = .ok (.iaload, 1) := by decide +kernel
theorem d_Law_law_467 : decode b_Law_law 467 = .ok (.aload_n 0, 1) := by decide +kernel
theorem d_Law_law_468 : decode b_Law_law 468 = .ok (.iload 4, 2) := by decide +kernel
theorem d_Law_law_470 : decode b_Law_law 470 = .ok (.iconst 3, 1) := by decide +kernel
theorem d_Law_law_471 : decode b_Law_law 471 = .ok (.iadd, 1) := by decide +kernel
theorem d_Law_law_472 : decode b_Law_law 472 = .ok (.iaload, 1) := by decide +kernel
theorem d_Law_law_473 : decode b_Law_law 473 = .ok (.aload_n 3, 1) := by decide +kernel
theorem d_Law_law_474 : decode b_Law_law 474 = .ok (.invokestatic 106, 3) := by decide +kernel
theorem d_Law_law_477 : decode b_Law_law 477 = .ok (.istore 5, 2) := by decide +kernel
theorem d_Law_law_479 : decode b_Law_law 479 = .ok (.aload_n 2, 1) := by decide +kernel
theorem d_Law_law_480 : decode b_Law_law 480 = .ok (.aload_n 0, 1) := by decide +kernel
theorem d_Law_law_481 : decode b_Law_law 481 = .ok (.iload 4, 2) := by decide +kernel
theorem d_Law_law_483 : decode b_Law_law 483 = .ok (.iconst 1, 1) := by decide +kernel
theorem d_Law_law_484 : decode b_Law_law 484 = .ok (.iadd, 1) := by decide +kernel
theorem d_Law_law_485 : decode b_Law_law 485 = .ok (.iaload, 1) := by decide +kernel
theorem d_Law_law_486 : decode b_Law_law 486 = .ok (.aload_n 0, 1) := by decide +kernel
theorem d_Law_law_487 : decode b_Law_law 487 = .ok (.iload 4, 2) := by decide +kernel
theorem d_Law_law_489 : decode b_Law_law 489 = .ok (.iconst 2, 1) := by decide +kernel
theorem d_Law_law_490 : decode b_Law_law 490 = .ok (.iadd, 1) := by decide +kernel
theorem d_Law_law_491 : decode b_Law_law 491 = .ok (.iaload, 1) := by decide +kernel
theorem d_Law_law_492 : decode b_Law_law 492 = .ok (.aload_n 0, 1) := by decide +kernel
theorem d_Law_law_493 : decode b_Law_law 493 = .ok (.iload 4, 2) := by decide +kernel
theorem d_Law_law_495 : decode b_Law_law 495 = .ok (.iconst 3, 1) := by decide +kernel
theorem d_Law_law_496 : decode b_Law_law 496 = .ok (.iadd, 1) := by decide +kernel
theorem d_Law_law_497 : decode b_Law_law 497 = .ok (.iaload, 1) := by decide +kernel
theorem d_Law_law_498 : decode b_Law_law 498 = .ok (.invokevirtual 108, 3) := by decide +kernel
theorem d_Law_law_501 : decode b_Law_law 501 = .ok (.istore 6, 2) := by decide +kernel
theorem d_Law_law_503 : decode b_Law_law 503 = .ok (.aload_n 2, 1) := by decide +kernel
theorem d_Law_law_504 : decode b_Law_law 504 = .ok (.invokevirtual 82, 3) := by decide +kernel
theorem d_Law_law_507 : decode b_Law_law 507 = .ok (.iload 5, 2) := by decide +kernel
theorem d_Law_law_509 : decode b_Law_law 509 = .ok (.if_icmp .eq 5, 3) := by decide +kernel
theorem d_Law_law_512 : decode b_Law_law 512 = .ok (.iconst 0, 1) := by decide +kernel
theorem d_Law_law_513 : decode b_Law_law 513 = .ok (.ireturn, 1) := by decide +kernel
theorem d_Law_law_514 : decode b_Law_law 514 = .ok (.iload 5, 2) := by decide +kernel
theorem d_Law_law_516 : decode b_Law_law 516 = .ok (.ifCond .ne 15, 3) := by decide +kernel
theorem d_Law_law_519 : decode b_Law_law 519 = .ok (.aload_n 3, 1) := by decide +kernel
theorem d_Law_law_520 : decode b_Law_law 520 = .ok (.iconst 0, 1) := by decide +kernel
theorem d_Law_law_521 : decode b_Law_law 521 = .ok (.laload, 1) := by decide +kernel
theorem d_Law_law_522 : decode b_Law_law 522 = .ok (.iload 6, 2) := by decide +kernel
theorem d_Law_law_524 : decode b_Law_law 524 = .ok (.i2l, 1) := by decide +kernel
theorem d_Law_law_525 : decode b_Law_law 525 = .ok (.lcmp, 1) := by decide +kernel
theorem d_Law_law_526 : decode b_Law_law 526 = .ok (.ifCond .eq 5, 3) := by decide +kernel
theorem d_Law_law_529 : decode b_Law_law 529 = .ok (.iconst 0, 1) := by decide +kernel
theorem d_Law_law_530 : decode b_Law_law 530 = .ok (.ireturn, 1) := by decide +kernel
theorem d_Law_law_531 : decode b_Law_law 531 = .ok (.goto 514, 3) := by decide +kernel
theorem d_Law_law_534 : decode b_Law_law 534 = .ok (.aload_n 1, 1) := by decide +kernel
theorem d_Law_law_535 : decode b_Law_law 535 = .ok (.aload_n 0, 1) := by decide +kernel
theorem d_Law_law_536 : decode b_Law_law 536 = .ok (.iload 4, 2) := by decide +kernel
theorem d_Law_law_538 : decode b_Law_law 538 = .ok (.iconst 1, 1) := by decide +kernel
theorem d_Law_law_539 : decode b_Law_law 539 = .ok (.iadd, 1) := by decide +kernel
theorem d_Law_law_540 : decode b_Law_law 540 = .ok (.iaload, 1) := by decide +kernel
theorem d_Law_law_541 : decode b_Law_law 541 = .ok (.aload_n 3, 1) := by decide +kernel
theorem d_Law_law_542 : decode b_Law_law 542 = .ok (.invokestatic 109, 3) := by decide +kernel
theorem d_Law_law_545 : decode b_Law_law 545 = .ok (.istore 5, 2) := by decide +kernel
theorem d_Law_law_547 : decode b_Law_law 547 = .ok (.aload_n 2, 1) := by decide +kernel
theorem d_Law_law_548 : decode b_Law_law 548 = .ok (.aload_n 0, 1) := by decide +kernel
theorem d_Law_law_549 : decode b_Law_law 549 = .ok (.iload 4, 2) := by decide +kernel
theorem d_Law_law_551 : decode b_Law_law 551 = .ok (.iconst 1, 1) := by decide +kernel
theorem d_Law_law_552 : decode b_Law_law 552 = .ok (.iadd, 1) := by decide +kernel
theorem d_Law_law_553 : decode b_Law_law 553 = .ok (.iaload, 1) := by decide +kernel
theorem d_Law_law_554 : decode b_Law_law 554 = .ok (.invokevirtual 111, 3) := by decide +kernel
theorem d_Law_law_557 : decode b_Law_law 557 = .ok (.lstore 6, 2) := by decide +kernel
theorem d_Law_law_559 : decode b_Law_law 559 = .ok (.aload_n 2, 1) := by decide +kernel
theorem d_Law_law_560 : decode b_Law_law 560 = .ok (.invokevirtual 82, 3) := by decide +kernel
theorem d_Law_law_563 : decode b_Law_law 563 = .ok (.iload 5, 2) := by decide +kernel
theorem d_Law_law_565 : decode b_Law_law 565 = .ok (.if_icmp .eq 5, 3) := by decide +kernel
theorem d_Law_law_568 : decode b_Law_law 568 = .ok (.iconst 0, 1) := by decide +kernel
theorem d_Law_law_569 : decode b_Law_law 569 = .ok (.ireturn, 1) := by decide +kernel
theorem d_Law_law_570 : decode b_Law_law 570 = .ok (.iload 5, 2) := by decide +kernel
theorem d_Law_law_572 : decode b_Law_law 572 = .ok (.ifCond .ne 14, 3) := by decide +kernel
theorem d_Law_law_575 : decode b_Law_law 575 = .ok (.aload_n 3, 1) := by decide +kernel
theorem d_Law_law_576 : decode b_Law_law 576 = .ok (.iconst 0, 1) := by decide +kernel
theorem d_Law_law_577 : decode b_Law_law 577 = .ok (.laload, 1) := by decide +kernel
theorem d_Law_law_578 : decode b_Law_law 578 = .ok (.lload 6, 2) := by decide +kernel
theorem d_Law_law_580 : decode b_Law_law 580 = .ok (.lcmp, 1) := by decide +kernel
theorem d_Law_law_581 : decode b_Law_law 581 = .ok (.ifCond .eq 5, 3) := by decide +kernel
theorem d_Law_law_584 : decode b_Law_law 584 = .ok (.iconst 0, 1) := by decide +kernel
theorem d_Law_law_585 : decode b_Law_law 585 = .ok (.ireturn, 1) := by decide +kernel
theorem d_Law_law_586 : decode b_Law_law 586 = .ok (.goto 459, 3) := by decide +kernel
theorem d_Law_law_589 : decode b_Law_law 589 = .ok (.aload_n 1, 1) := by decide +kernel
theorem d_Law_law_590 : decode b_Law_law 590 = .ok (.aload_n 0, 1) := by decide +kernel
theorem d_Law_law_591 : decode b_Law_law 591 = .ok (.iload 4, 2) := by decide +kernel
theorem d_Law_law_593 : decode b_Law_law 593 = .ok (.iconst 1, 1) := by decide +kernel
theorem d_Law_law_594 : decode b_Law_law 594 = .ok (.iadd, 1) := by decide +kernel
theorem d_Law_law_595 : decode b_Law_law 595 = .ok (.iaload, 1) := by decide +kernel
theorem d_Law_law_596 : decode b_Law_law 596 = .ok (.aload_n 3, 1) := by decide +kernel
theorem d_Law_law_597 : decode b_Law_law 597 = .ok (.invokestatic 112, 3) := by decide +kernel
theorem d_Law_law_600 : decode b_Law_law 600 = .ok (.istore 5, 2) := by decide +kernel
theorem d_Law_law_602 : decode b_Law_law 602 = .ok (.aload_n 2, 1) := by decide +kernel
theorem d_Law_law_603 : decode b_Law_law 603 = .ok (.aload_n 0, 1) := by decide +kernel
theorem d_Law_law_604 : decode b_Law_law 604 = .ok (.iload 4, 2) := by decide +kernel
theorem d_Law_law_606 : decode b_Law_law 606 = .ok (.iconst 1, 1) := by decide +kernel
theorem d_Law_law_607 : decode b_Law_law 607 = .ok (.iadd, 1) := by decide +kernel
theorem d_Law_law_608 : decode b_Law_law 608 = .ok (.iaload, 1) := by decide +kernel
theorem d_Law_law_609 : decode b_Law_law 609 = .ok (.invokevirtual 114, 3) := by decide +kernel
theorem d_Law_law_612 : decode b_Law_law 612 = .ok (.istore 6, 2) := by decide +kernel
theorem d_Law_law_614 : decode b_Law_law 614 = .ok (.aload_n 2, 1) := by decide +kernel
theorem d_Law_law_615 : decode b_Law_law 615 = .ok (.invokevirtual 82, 3) := by decide +kernel
theorem d_Law_law_618 : decode b_Law_law 618 = .ok (.iload 5, 2) := by decide +kernel
theorem d_Law_law_620 : decode b_Law_law 620 = .ok (.if_icmp .eq 5, 3) := by decide +kernel
theorem d_Law_law_623 : decode b_Law_law 623 = .ok (.iconst 0, 1) := by decide +kernel
theorem d_Law_law_624 : decode b_Law_law 624 = .ok (.ireturn, 1) := by decide +kernel
theorem d_Law_law_625 : decode b_Law_law 625 = .ok (.iload 5, 2) := by decide +kernel
theorem d_Law_law_627 : decode b_Law_law 627 = .ok (.ifCond .ne 15, 3) := by decide +kernel
theorem d_Law_law_630 : decode b_Law_law 630 = .ok (.aload_n 3, 1) := by decide +kernel
theorem d_Law_law_631 : decode b_Law_law 631 = .ok (.iconst 0, 1) := by decide +kernel
theorem d_Law_law_632 : decode b_Law_law 632 = .ok (.laload, 1) := by decide +kernel
theorem d_Law_law_633 : decode b_Law_law 633 = .ok (.iload 6, 2) := by decide +kernel
theorem d_Law_law_635 : decode b_Law_law 635 = .ok (.i2l, 1) := by decide +kernel
theorem d_Law_law_636 : decode b_Law_law 636 = .ok (.lcmp, 1) := by decide +kernel
theorem d_Law_law_637 : decode b_Law_law 637 = .ok (.ifCond .eq 5, 3) := by decide +kernel
theorem d_Law_law_640 : decode b_Law_law 640 = .ok (.iconst 0, 1) := by decide +kernel
theorem d_Law_law_641 : decode b_Law_law 641 = .ok (.ireturn, 1) := by decide +kernel
theorem d_Law_law_642 : decode b_Law_law 642 = .ok (.goto 403, 3) := by decide +kernel
theorem d_Law_law_645 : decode b_Law_law 645 = .ok (.aload_n 1, 1) := by decide +kernel
theorem d_Law_law_646 : decode b_Law_law 646 = .ok (.aload_n 0, 1) := by decide +kernel
theorem d_Law_law_647 : decode b_Law_law 647 = .ok (.iload 4, 2) := by decide +kernel
theorem d_Law_law_649 : decode b_Law_law 649 = .ok (.iconst 1, 1) := by decide +kernel
theorem d_Law_law_650 : decode b_Law_law 650 = .ok (.iadd, 1) := by decide +kernel
theorem d_Law_law_651 : decode b_Law_law 651 = .ok (.iaload, 1) := by decide +kernel
theorem d_Law_law_652 : decode b_Law_law 652 = .ok (.aload_n 0, 1) := by decide +kernel
theorem d_Law_law_653 : decode b_Law_law 653 = .ok (.iload 4, 2) := by decide +kernel
theorem d_Law_law_655 : decode b_Law_law 655 = .ok (.iconst 2, 1) := by decide +kernel
theorem d_Law_law_656 : decode b_Law_law 656 = .ok (.iadd, 1) := by decide +kernel
theorem d_Law_law_657 : decode b_Law_law 657 = .ok (.iaload, 1) := by decide +kernel
theorem d_Law_law_658 : decode b_Law_law 658 = .ok (.aload_n 3, 1) := by decide +kernel
theorem d_Law_law_659 : decode b_Law_law 659 = .ok (.invokestatic 115, 3) := by decide +kernel
theorem d_Law_law_662 : decode b_Law_law 662 = .ok (.istore 5, 2) := by decide +kernel
theorem d_Law_law_664 : decode b_Law_law 664 = .ok (.aload_n 2, 1) := by decide +kernel
theorem d_Law_law_665 : decode b_Law_law 665 = .ok (.aload_n 0, 1) := by decide +kernel
theorem d_Law_law_666 : decode b_Law_law 666 = .ok (.iload 4, 2) := by decide +kernel
theorem d_Law_law_668 : decode b_Law_law 668 = .ok (.iconst 1, 1) := by decide +kernel
theorem d_Law_law_669 : decode b_Law_law 669 = .ok (.iadd, 1) := by decide +kernel
theorem d_Law_law_670 : decode b_Law_law 670 = .ok (.iaload, 1) := by decide +kernel
theorem d_Law_law_671 : decode b_Law_law 671 = .ok (.aload_n 0, 1) := by decide +kernel
theorem d_Law_law_672 : decode b_Law_law 672 = .ok (.iload 4, 2) := by decide +kernel
theorem d_Law_law_674 : decode b_Law_law 674 = .ok (.iconst 2, 1) := by decide +kernel
theorem d_Law_law_675 : decode b_Law_law 675 = .ok (.iadd, 1) := by decide +kernel
theorem d_Law_law_676 : decode b_Law_law 676 = .ok (.iaload, 1) := by decide +kernel
theorem d_Law_law_677 : decode b_Law_law 677 = .ok (.invokevirtual 117, 3) := by decide +kernel
theorem d_Law_law_680 : decode b_Law_law 680 = .ok (.lstore 6, 2) := by decide +kernel
theorem d_Law_law_682 : decode b_Law_law 682 = .ok (.aload_n 2, 1) := by decide +kernel
theorem d_Law_law_683 : decode b_Law_law 683 = .ok (.invokevirtual 82, 3) := by decide +kernel
theorem d_Law_law_686 : decode b_Law_law 686 = .ok (.iload 5, 2) := by decide +kernel
theorem d_Law_law_688 : decode b_Law_law 688 = .ok (.if_icmp .eq 5, 3) := by decide +kernel
theorem d_Law_law_691 : decode b_Law_law 691 = .ok (.iconst 0, 1) := by decide +kernel
theorem d_Law_law_692 : decode b_Law_law 692 = .ok (.ireturn, 1) := by decide +kernel
theorem d_Law_law_693 : decode b_Law_law 693 = .ok (.iload 5, 2) := by decide +kernel
theorem d_Law_law_695 : decode b_Law_law 695 = .ok (.ifCond .ne 14, 3) := by decide +kernel
theorem d_Law_law_698 : decode b_Law_law 698 = .ok (.aload_n 3, 1) := by decide +kernel
theorem d_Law_law_699 : decode b_Law_law 699 = .ok (.iconst 0, 1) := by decide +kernel
theorem d_Law_law_700 : decode b_Law_law 700 = .ok (.laload, 1) := by decide +kernel
theorem d_Law_law_701 : decode b_Law_law 701 = .ok (.lload 6, 2) := by decide +kernel
theorem d_Law_law_703 : decode b_Law_law 703 = .ok (.lcmp, 1) := by decide +kernel
theorem d_Law_law_704 : decode b_Law_law 704 = .ok (.ifCond .eq 5, 3) := by decide +kernel
theorem d_Law_law_707 : decode b_Law_law 707 = .ok (.iconst 0, 1) := by decide +kernel
theorem d_Law_law_708 : decode b_Law_law 708 = .ok (.ireturn, 1) := by decide +kernel
theorem d_Law_law_709 : decode b_Law_law 709 = .ok (.goto 336, 3) := by decide +kernel
theorem d_Law_law_712 : decode b_Law_law 712 = .ok (.aload_n 1, 1) := by decide +kernel
theorem d_Law_law_713 : decode b_Law_law 713 = .ok (.aload_n 0, 1) := by decide +kernel
theorem d_Law_law_714 : decode b_Law_law 714 = .ok (.iload 4, 2) := by decide +kernel
theorem d_Law_law_716 : decode b_Law_law 716 = .ok (.iconst 1, 1) := by decide +kernel
theorem d_Law_law_717 : decode b_Law_law 717 = .ok (.iadd, 1) := by decide +kernel
theorem d_Law_law_718 : decode b_Law_law 718 = .ok (.iaload, 1) := by decide +kernel
theorem d_Law_law_719 : decode b_Law_law 719 = .ok (.aload_n 0, 1) := by decide +kernel
theorem d_Law_law_720 : decode b_Law_law 720 = .ok (.iload 4, 2) := by decide +kernel
theorem d_Law_law_722 : decode b_Law_law 722 = .ok (.iconst 2, 1) := by decide +kernel
theorem d_Law_law_723 : decode b_Law_law 723 = .ok (.iadd, 1) := by decide +kernel
theorem d_Law_law_724 : decode b_Law_law 724 = .ok (.iaload, 1) := by decide +kernel
theorem d_Law_law_725 : decode b_Law_law 725 = .ok (.aload_n 3, 1) := by decide +kernel
theorem d_Law_law_726 : decode b_Law_law 726 = .ok (.invokestatic 118, 3) := by decide +kernel
theorem d_Law_law_729 : decode b_Law_law 729 = .ok (.istore 5, 2) := by decide +kernel
theorem d_Law_law_731 : decode b_Law_law 731 = .ok (.aload_n 2, 1) := by decide +kernel
theorem d_Law_law_732 : decode b_Law_law 732 = .ok (.aload_n 0, 1) := by decide +kernel
theorem d_Law_law_733 : decode b_Law_law 733 = .ok (.iload 4, 2) := by decide +kernel
theorem d_Law_law_735 : decode b_Law_law 735 = .ok (.iconst 1, 1) := by decide +kernel
theorem d_Law_law_736 : decode b_Law_law 736 = .ok (.iadd, 1) := by decide +kernel
theorem d_Law_law_737 : decode b_Law_law 737 = .ok (.iaload, 1) := by decide +kernel
theorem d_Law_law_738 : decode b_Law_law 738 = .ok (.aload_n 0, 1) := by decide +kernel
theorem d_Law_law_739 : decode b_Law_law 739 = .ok (.iload 4, 2) := by decide +kernel
theorem d_Law_law_741 : decode b_Law_law 741 = .ok (.iconst 2, 1) := by decide +kernel
theorem d_Law_law_742 : decode b_Law_law 742 = .ok (.iadd, 1) := by decide +kernel
theorem d_Law_law_743 : decode b_Law_law 743 = .ok (.iaload, 1) := by decide +kernel
theorem d_Law_law_744 : decode b_Law_law 744 = .ok (.invokevirtual 120, 3) := by decide +kernel
theorem d_Law_law_747 : decode b_Law_law 747 = .ok (.lstore 6, 2) := by decide +kernel
theorem d_Law_law_749 : decode b_Law_law 749 = .ok (.aload_n 2, 1) := by decide +kernel
theorem d_Law_law_750 : decode b_Law_law 750 = .ok (.invokevirtual 82, 3) := by decide +kernel
theorem d_Law_law_753 : decode b_Law_law 753 = .ok (.iload 5, 2) := by decide +kernel
theorem d_Law_law_755 : decode b_Law_law 755 = .ok (.if_icmp .eq 5, 3) := by decide +kernel
theorem d_Law_law_758 : decode b_Law_law 758 = .ok (.iconst 0, 1) := by decide +kernel
theorem d_Law_law_759 : decode b_Law_law 759 = .ok (.ireturn, 1) := by decide +kernel
theorem d_Law_law_760 : decode b_Law_law 760 = .ok (.iload 5, 2) := by decide +kernel
theorem d_Law_law_762 : decode b_Law_law 762 = .ok (.ifCond .ne 14, 3) := by decide +kernel
theorem d_Law_law_765 : decode b_Law_law 765 = .ok (.aload_n 3, 1) := by decide +kernel
theorem d_Law_law_766 : decode b_Law_law 766 = .ok (.iconst 0, 1) := by decide +kernel
theorem d_Law_law_767 : decode b_Law_law 767 = .ok (.laload, 1) := by decide +kernel
theorem d_Law_law_768 : decode b_Law_law 768 = .ok (.lload 6, 2) := by decide +kernel
theorem d_Law_law_770 : decode b_Law_law 770 = .ok (.lcmp, 1) := by decide +kernel
theorem d_Law_law_771 : decode b_Law_law 771 = .ok (.ifCond .eq 5, 3) := by decide +kernel
theorem d_Law_law_774 : decode b_Law_law 774 = .ok (.iconst 0, 1) := by decide +kernel
theorem d_Law_law_775 : decode b_Law_law 775 = .ok (.ireturn, 1) := by decide +kernel
theorem d_Law_law_776 : decode b_Law_law 776 = .ok (.goto 269, 3) := by decide +kernel
theorem d_Law_law_779 : decode b_Law_law 779 = .ok (.aload_n 1, 1) := by decide +kernel
theorem d_Law_law_780 : decode b_Law_law 780 = .ok (.aload_n 0, 1) := by decide +kernel
theorem d_Law_law_781 : decode b_Law_law 781 = .ok (.iload 4, 2) := by decide +kernel
theorem d_Law_law_783 : decode b_Law_law 783 = .ok (.iconst 1, 1) := by decide +kernel
theorem d_Law_law_784 : decode b_Law_law 784 = .ok (.iadd, 1) := by decide +kernel
theorem d_Law_law_785 : decode b_Law_law 785 = .ok (.iaload, 1) := by decide +kernel
theorem d_Law_law_786 : decode b_Law_law 786 = .ok (.aload_n 0, 1) := by decide +kernel
theorem d_Law_law_787 : decode b_Law_law 787 = .ok (.iload 4, 2) := by decide +kernel
theorem d_Law_law_789 : decode b_Law_law 789 = .ok (.iconst 2, 1) := by decide +kernel
theorem d_Law_law_790 : decode b_Law_law 790 = .ok (.iadd, 1) := by decide +kernel
theorem d_Law_law_791 : decode b_Law_law 791 = .ok (.iaload, 1) := by decide +kernel
theorem d_Law_law_792 : decode b_Law_law 792 = .ok (.aload_n 3, 1) := by decide +kernel
theorem d_Law_law_793 : decode b_Law_law 793 = .ok (.invokestatic 121, 3) := by decide +kernel
theorem d_Law_law_796 : decode b_Law_law 796 = .ok (.istore 5, 2) := by decide +kernel
theorem d_Law_law_798 : decode b_Law_law 798 = .ok (.aload_n 2, 1) := by decide +kernel
theorem d_Law_law_799 : decode b_Law_law 799 = .ok (.aload_n 0, 1) := by decide +kernel
theorem d_Law_law_800 : decode b_Law_law 800 = .ok (.iload 4, 2) := by decide +kernel
theorem d_Law_law_802 : decode b_Law_law 802 = .ok (.iconst 1, 1) := by decide +kernel
theorem d_Law_law_803 : decode b_Law_law 803 = .ok (.iadd, 1) := by decide +kernel
theorem d_Law_law_804 : decode b_Law_law 804 = .ok (.iaload, 1) := by decide +kernel
theorem d_Law_law_805 : decode b_Law_law 805 = .ok (.aload_n 0, 1) := by decide +kernel
theorem d_Law_law_806 : decode b_Law_law 806 = .ok (.iload 4, 2) := by decide +kernel
theorem d_Law_law_808 : decode b_Law_law 808 = .ok (.iconst 2, 1) := by decide +kernel
theorem d_Law_law_809 : decode b_Law_law 809 = .ok (.iadd, 1) := by decide +kernel
theorem d_Law_law_810 : decode b_Law_law 810 = .ok (.iaload, 1) := by decide +kernel
theorem d_Law_law_811 : decode b_Law_law 811 = .ok (.invokevirtual 123, 3) := by decide +kernel
theorem d_Law_law_814 : decode b_Law_law 814 = .ok (.istore 6, 2) := by decide +kernel
theorem d_Law_law_816 : decode b_Law_law 816 = .ok (.aload_n 2, 1) := by decide +kernel
theorem d_Law_law_817 : decode b_Law_law 817 = .ok (.invokevirtual 82, 3) := by decide +kernel
theorem d_Law_law_820 : decode b_Law_law 820 = .ok (.iload 5, 2) := by decide +kernel
theorem d_Law_law_822 : decode b_Law_law 822 = .ok (.if_icmp .eq 5, 3) := by decide +kernel
theorem d_Law_law_825 : decode b_Law_law 825 = .ok (.iconst 0, 1) := by decide +kernel
theorem d_Law_law_826 : decode b_Law_law 826 = .ok (.ireturn, 1) := by decide +kernel
theorem d_Law_law_827 : decode b_Law_law 827 = .ok (.iload 5, 2) := by decide +kernel
theorem d_Law_law_829 : decode b_Law_law 829 = .ok (.ifCond .ne 15, 3) := by decide +kernel
theorem d_Law_law_832 : decode b_Law_law 832 = .ok (.aload_n 3, 1) := by decide +kernel
theorem d_Law_law_833 : decode b_Law_law 833 = .ok (.iconst 0, 1) := by decide +kernel
theorem d_Law_law_834 : decode b_Law_law 834 = .ok (.laload, 1) := by decide +kernel
theorem d_Law_law_835 : decode b_Law_law 835 = .ok (.iload 6, 2) := by decide +kernel
theorem d_Law_law_837 : decode b_Law_law 837 = .ok (.i2l, 1) := by decide +kernel
theorem d_Law_law_838 : decode b_Law_law 838 = .ok (.lcmp, 1) := by decide +kernel
theorem d_Law_law_839 : decode b_Law_law 839 = .ok (.ifCond .eq 5, 3) := by decide +kernel
theorem d_Law_law_842 : decode b_Law_law 842 = .ok (.iconst 0, 1) := by decide +kernel
theorem d_Law_law_843 : decode b_Law_law 843 = .ok (.ireturn, 1) := by decide +kernel
theorem d_Law_law_844 : decode b_Law_law 844 = .ok (.goto 201, 3) := by decide +kernel
theorem d_Law_law_847 : decode b_Law_law 847 = .ok (.aload_n 1, 1) := by decide +kernel
theorem d_Law_law_848 : decode b_Law_law 848 = .ok (.aload_n 0, 1) := by decide +kernel
theorem d_Law_law_849 : decode b_Law_law 849 = .ok (.iload 4, 2) := by decide +kernel
theorem d_Law_law_851 : decode b_Law_law 851 = .ok (.iconst 1, 1) := by decide +kernel
theorem d_Law_law_852 : decode b_Law_law 852 = .ok (.iadd, 1) := by decide +kernel
theorem d_Law_law_853 : decode b_Law_law 853 = .ok (.iaload, 1) := by decide +kernel
theorem d_Law_law_854 : decode b_Law_law 854 = .ok (.aload_n 3, 1) := by decide +kernel
theorem d_Law_law_855 : decode b_Law_law 855 = .ok (.invokestatic 124, 3) := by decide +kernel
theorem d_Law_law_858 : decode b_Law_law 858 = .ok (.istore 5, 2) := by decide +kernel
theorem d_Law_law_860 : decode b_Law_law 860 = .ok (.aload_n 2, 1) := by decide +kernel
theorem d_Law_law_861 : decode b_Law_law 861 = .ok (.aload_n 0, 1) := by decide +kernel
theorem d_Law_law_862 : decode b_Law_law 862 = .ok (.iload 4, 2) := by decide +kernel
theorem d_Law_law_864 : decode b_Law_law 864 = .ok (.iconst 1, 1) := by decide +kernel
theorem d_Law_law_865 : decode b_Law_law 865 = .ok (.iadd, 1) := by decide +kernel
theorem d_Law_law_866 : decode b_Law_law 866 = .ok (.iaload, 1) := by decide +kernel
theorem d_Law_law_867 : decode b_Law_law 867 = .ok (.invokevirtual 126, 3) := by decide +kernel
theorem d_Law_law_870 : decode b_Law_law 870 = .ok (.lstore 6, 2) := by decide +kernel
theorem d_Law_law_872 : decode b_Law_law 872 = .ok (.aload_n 2, 1) := by decide +kernel
theorem d_Law_law_873 : decode b_Law_law 873 = .ok (.invokevirtual 82, 3) := by decide +kernel
theorem d_Law_law_876 : decode b_Law_law 876 = .ok (.iload 5, 2) := by decide +kernel
theorem d_Law_law_878 : decode b_Law_law 878 = .ok (.if_icmp .eq 5, 3) := by decide +kernel
theorem d_Law_law_881 : decode b_Law_law 881 = .ok (.iconst 0, 1) := by decide +kernel
theorem d_Law_law_882 : decode b_Law_law 882 = .ok (.ireturn, 1) := by decide +kernel
theorem d_Law_law_883 : decode b_Law_law 883 = .ok (.iload 5, 2) := by decide +kernel
theorem d_Law_law_885 : decode b_Law_law 885 = .ok (.ifCond .ne 14, 3) := by decide +kernel
theorem d_Law_law_888 : decode b_Law_law 888 = .ok (.aload_n 3, 1) := by decide +kernel
theorem d_Law_law_889 : decode b_Law_law 889 = .ok (.iconst 0, 1) := by decide +kernel
theorem d_Law_law_890 : decode b_Law_law 890 = .ok (.laload, 1) := by decide +kernel
theorem d_Law_law_891 : decode b_Law_law 891 = .ok (.lload 6, 2) := by decide +kernel
theorem d_Law_law_893 : decode b_Law_law 893 = .ok (.lcmp, 1) := by decide +kernel
theorem d_Law_law_894 : decode b_Law_law 894 = .ok (.ifCond .eq 5, 3) := by decide +kernel
theorem d_Law_law_897 : decode b_Law_law 897 = .ok (.iconst 0, 1) := by decide +kernel
theorem d_Law_law_898 : decode b_Law_law 898 = .ok (.ireturn, 1) := by decide +kernel
theorem d_Law_law_899 : decode b_Law_law 899 = .ok (.goto 146, 3) := by decide +kernel
theorem d_Law_law_902 : decode b_Law_law 902 = .ok (.aload_n 1, 1) := by decide +kernel
theorem d_Law_law_903 : decode b_Law_law 903 = .ok (.aload_n 0, 1) := by decide +kernel
theorem d_Law_law_904 : decode b_Law_law 904 = .ok (.iload 4, 2) := by decide +kernel
theorem d_Law_law_906 : decode b_Law_law 906 = .ok (.iconst 1, 1) := by decide +kernel
theorem d_Law_law_907 : decode b_Law_law 907 = .ok (.iadd, 1) := by decide +kernel
theorem d_Law_law_908 : decode b_Law_law 908 = .ok (.iaload, 1) := by decide +kernel
theorem d_Law_law_909 : decode b_Law_law 909 = .ok (.aload_n 0, 1) := by decide +kernel
theorem d_Law_law_910 : decode b_Law_law 910 = .ok (.iload 4, 2) := by decide +kernel
theorem d_Law_law_912 : decode b_Law_law 912 = .ok (.iconst 2, 1) := by decide +kernel
theorem d_Law_law_913 : decode b_Law_law 913 = .ok (.iadd, 1) := by decide +kernel
theorem d_Law_law_914 : decode b_Law_law 914 = .ok (.iaload, 1) := by decide +kernel
theorem d_Law_law_915 : decode b_Law_law 915 = .ok (.aload_n 3, 1) := by decide +kernel
theorem d_Law_law_916 : decode b_Law_law 916 = .ok (.invokestatic 127, 3) := by decide +kernel
theorem d_Law_law_919 : decode b_Law_law 919 = .ok (.istore 5, 2) := by decide +kernel
theorem d_Law_law_921 : decode b_Law_law 921 = .ok (.aload_n 2, 1) := by decide +kernel
theorem d_Law_law_922 : decode b_Law_law 922 = .ok (.aload_n 0, 1) := by decide +kernel
theorem d_Law_law_923 : decode b_Law_law 923 = .ok (.iload 4, 2) := by decide +kernel
theorem d_Law_law_925 : decode b_Law_law 925 = .ok (.iconst 1, 1) := by decide +kernel
theorem d_Law_law_926 : decode b_Law_law 926 = .ok (.iadd, 1) := by decide +kernel
theorem d_Law_law_927 : decode b_Law_law 927 = .ok (.iaload, 1) := by decide +kernel
theorem d_Law_law_928 : decode b_Law_law 928 = .ok (.aload_n 0, 1) := by decide +kernel
theorem d_Law_law_929 : decode b_Law_law 929 = .ok (.iload 4, 2) := by decide +kernel
theorem d_Law_law_931 : decode b_Law_law 931 = .ok (.iconst 2, 1) := by decide +kernel
theorem d_Law_law_932 : decode b_Law_law 932 = .ok (.iadd, 1) := by decide +kernel
theorem d_Law_law_933 : decode b_Law_law 933 = .ok (.iaload, 1) := by decide +kernel
theorem d_Law_law_934 : decode b_Law_law 934 = .ok (.invokevirtual 129, 3) := by decide +kernel
theorem d_Law_law_937 : decode b_Law_law 937 = .ok (.istore 6, 2) := by decide +kernel
theorem d_Law_law_939 : decode b_Law_law 939 = .ok (.aload_n 2, 1) := by decide +kernel
theorem d_Law_law_940 : decode b_Law_law 940 = .ok (.invokevirtual 82, 3) := by decide +kernel
theorem d_Law_law_943 : decode b_Law_law 943 = .ok (.iload 5, 2) := by decide +kernel
theorem d_Law_law_945 : decode b_Law_law 945 = .ok (.if_icmp .eq 5, 3) := by decide +kernel
theorem d_Law_law_948 : decode b_Law_law 948 = .ok (.iconst 0, 1) := by decide +kernel
theorem d_Law_law_949 : decode b_Law_law 949 = .ok (.ireturn, 1) := by decide +kernel
theorem d_Law_law_950 : decode b_Law_law 950 = .ok (.iload 5, 2) := by decide +kernel
theorem d_Law_law_952 : decode b_Law_law 952 = .ok (.ifCond .ne 22, 3) := by decide +kernel
theorem d_Law_law_955 : decode b_Law_law 955 = .ok (.aload_n 3, 1) := by decide +kernel
theorem d_Law_law_956 : decode b_Law_law 956 = .ok (.iconst 0, 1) := by decide +kernel
theorem d_Law_law_957 : decode b_Law_law 957 = .ok (.laload, 1) := by decide +kernel
theorem d_Law_law_958 : decode b_Law_law 958 = .ok (.iload 6, 2) := by decide +kernel
theorem d_Law_law_960 : decode b_Law_law 960 = .ok (.ifCond .eq 7, 3) := by decide +kernel
theorem d_Law_law_963 : decode b_Law_law 963 = .ok (.lconst 1, 1) := by decide +kernel
theorem d_Law_law_964 : decode b_Law_law 964 = .ok (.goto 4, 3) := by decide +kernel
theorem d_Law_law_967 : decode b_Law_law 967 = .ok (.lconst 0, 1) := by decide +kernel
theorem d_Law_law_968 : decode b_Law_law 968 = .ok (.lcmp, 1) := by decide +kernel
theorem d_Law_law_969 : decode b_Law_law 969 = .ok (.ifCond .eq 5, 3) := by decide +kernel
theorem d_Law_law_972 : decode b_Law_law 972 = .ok (.iconst 0, 1) := by decide +kernel
theorem d_Law_law_973 : decode b_Law_law 973 = .ok (.ireturn, 1) := by decide +kernel
theorem d_Law_law_974 : decode b_Law_law 974 = .ok (.goto 71, 3) := by decide +kernel
theorem d_Law_law_977 : decode b_Law_law 977 = .ok (.aload_n 1, 1) := by decide +kernel
theorem d_Law_law_978 : decode b_Law_law 978 = .ok (.aload_n 0, 1) := by decide +kernel
theorem d_Law_law_979 : decode b_Law_law 979 = .ok (.iload 4, 2) := by decide +kernel
theorem d_Law_law_981 : decode b_Law_law 981 = .ok (.iconst 1, 1) := by decide +kernel
theorem d_Law_law_982 : decode b_Law_law 982 = .ok (.iadd, 1) := by decide +kernel
theorem d_Law_law_983 : decode b_Law_law 983 = .ok (.iaload, 1) := by decide +kernel
theorem d_Law_law_984 : decode b_Law_law 984 = .ok (.aload_n 0, 1) := by decide +kernel
theorem d_Law_law_985 : decode b_Law_law 985 = .ok (.iload 4, 2) := by decide +kernel
theorem d_Law_law_987 : decode b_Law_law 987 = .ok (.iconst 2, 1) := by decide +kernel
theorem d_Law_law_988 : decode b_Law_law 988 = .ok (.iadd, 1) := by decide +kernel
theorem d_Law_law_989 : decode b_Law_law 989 = .ok (.iaload, 1) := by decide +kernel
theorem d_Law_law_990 : decode b_Law_law 990 = .ok (.aload_n 3, 1) := by decide +kernel
theorem d_Law_law_991 : decode b_Law_law 991 = .ok (.invokestatic 130, 3) := by decide +kernel
theorem d_Law_law_994 : decode b_Law_law 994 = .ok (.istore 5, 2) := by decide +kernel
theorem d_Law_law_996 : decode b_Law_law 996 = .ok (.aload_n 2, 1) := by decide +kernel
theorem d_Law_law_997 : decode b_Law_law 997 = .ok (.aload_n 0, 1) := by decide +kernel
theorem d_Law_law_998 : decode b_Law_law 998 = .ok (.iload 4, 2) := by decide +kernel
theorem d_Law_law_1000 : decode b_Law_law 1000 = .ok (.iconst 1, 1) := by decide +kernel
theorem d_Law_law_1001 : decode b_Law_law 1001 = .ok (.iadd, 1) := by decide +kernel
theorem d_Law_law_1002 : decode b_Law_law 1002 = .ok (.iaload, 1) := by decide +kernel
theorem d_Law_law_1003 : decode b_Law_law 1003 = .ok (.aload_n 0, 1) := by decide +kernel
theorem d_Law_law_1004 : decode b_Law_law 1004 = .ok (.iload 4, 2) := by decide +kernel
theorem d_Law_law_1006 : decode b_Law_law 1006 = .ok (.iconst 2, 1) := by decide +kernel
theorem d_Law_law_1007 : decode b_Law_law 1007 = .ok (.iadd, 1) := by decide +kernel
theorem d_Law_law_1008 : decode b_Law_law 1008 = .ok (.iaload, 1) := by decide +kernel
theorem d_Law_law_1009 : decode b_Law_law 1009 = .ok (.invokevirtual 132, 3) := by decide +kernel
theorem d_Law_law_1012 : decode b_Law_law 1012 = .ok (.istore 6, 2) := by decide +kernel
theorem d_Law_law_1014 : decode b_Law_law 1014 = .ok (.aload_n 2, 1) := by decide +kernel
theorem d_Law_law_1015 : decode b_Law_law 1015 = .ok (.invokevirtual 82, 3) := by decide +kernel
theorem d_Law_law_1018 : decode b_Law_law 1018 = .ok (.iload 5, 2) := by decide +kernel
theorem d_Law_law_1020 : decode b_Law_law 1020 = .ok (.if_icmp .eq 5, 3) := by decide +kernel
theorem d_Law_law_1023 : decode b_Law_law 1023 = .ok (.iconst 0, 1) := by decide +kernel
theorem d_Law_law_1024 : decode b_Law_law 1024 = .ok (.ireturn, 1) := by decide +kernel
theorem d_Law_law_1025 : decode b_Law_law 1025 = .ok (.iload 5, 2) := by decide +kernel
theorem d_Law_law_1027 : decode b_Law_law 1027 = .ok (.ifCond .ne 15, 3) := by decide +kernel
theorem d_Law_law_1030 : decode b_Law_law 1030 = .ok (.aload_n 3, 1) := by decide +kernel
theorem d_Law_law_1031 : decode b_Law_law 1031 = .ok (.iconst 0, 1) := by decide +kernel
theorem d_Law_law_1032 : decode b_Law_law 1032 = .ok (.laload, 1) := by decide +kernel
theorem d_Law_law_1033 : decode b_Law_law 1033 = .ok (.iload 6, 2) := by decide +kernel
theorem d_Law_law_1035 : decode b_Law_law 1035 = .ok (.i2l, 1) := by decide +kernel
theorem d_Law_law_1036 : decode b_Law_law 1036 = .ok (.lcmp, 1) := by decide +kernel
theorem d_Law_law_1037 : decode b_Law_law 1037 = .ok (.ifCond .eq 5, 3) := by decide +kernel
theorem d_Law_law_1040 : decode b_Law_law 1040 = .ok (.iconst 0, 1) := by decide +kernel
theorem d_Law_law_1041 : decode b_Law_law 1041 = .ok (.ireturn, 1) := by decide +kernel
theorem d_Law_law_1042 : decode b_Law_law 1042 = .ok (.goto 3, 3) := by decide +kernel
theorem d_Law_law_1045 : decode b_Law_law 1045 = .ok (.iinc 4 4, 3) := by decide +kernel
theorem d_Law_law_1048 : decode b_Law_law 1048 = .ok (.goto (-1025), 3) := by decide +kernel
theorem d_Law_law_1051 : decode b_Law_law 1051 = .ok (.iconst 1, 1) := by decide +kernel
theorem d_Law_law_1052 : decode b_Law_law 1052 = .ok (.ireturn, 1) := by decide +kernel
