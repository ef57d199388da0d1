theorem d_lw_text_0 : decode b_lw_text 0 = .ok (.aload_n 3, 1) := by decide +kernel
theorem d_lw_text_1 : decode b_lw_text 1 = .ok (.iconst 0, 1) := by decide +kernel
theorem d_lw_text_2 : decode b_lw_text 2 = .ok (.aload_n 0, 1) := by decide +kernel
theorem d_lw_text_3 : decode b_lw_text 3 = .ok (.lload_n 1, 1) := by decide +kernel
theorem d_lw_text_4 : decode b_lw_text 4 = .ok (.invokevirtual 7, 3) := by decide +kernel
theorem d_lw_text_7 : decode b_lw_text 7 = .ok (.i2l, 1) := by decide +kernel
theorem d_lw_text_8 : decode b_lw_text 8 = .ok (.lastore, 1) := by decide +kernel
theorem d_lw_text_9 : decode b_lw_text 9 = .ok (.goto 11, 3) := by decide +kernel
theorem d_lw_text_12 : decode b_lw_text 12 = .ok (.astore 4, 2) := by decide +kernel
theorem d_lw_text_14 : decode b_lw_text 14 = .ok (.iconst 1, 1) := by decide +kernel
theorem d_lw_text_15 : decode b_lw_text 15 = .ok (.ireturn, 1) := by decide +kernel
theorem d_lw_text_16 : decode b_lw_text 16 = .ok (.astore 4, 2) := by decide +kernel
theorem d_lw_text_18 : decode b_lw_text 18 = .ok (.iconst 2, 1) := by decide +kernel
theorem d_lw_text_19 : decode b_lw_text 19 = .ok (.ireturn, 1) := by decide +kernel
theorem d_lw_text_20 : decode b_lw_text 20 = .ok (.iconst 0, 1) := by decide +kernel
theorem d_lw_text_21 : decode b_lw_text 21 = .ok (.ireturn, 1) := by decide +kernel
theorem d_lw_tariff_0 : decode b_lw_tariff 0 = .ok (.aload_n 2, 1) := by decide +kernel
theorem d_lw_tariff_1 : decode b_lw_tariff 1 = .ok (.iconst 0, 1) := by decide +kernel
theorem d_lw_tariff_2 : decode b_lw_tariff 2 = .ok (.aload_n 0, 1) := by decide +kernel
theorem d_lw_tariff_3 : decode b_lw_tariff 3 = .ok (.iload_n 1, 1) := by decide +kernel
theorem d_lw_tariff_4 : decode b_lw_tariff 4 = .ok (.invokevirtual 17, 3) := by decide +kernel
theorem d_lw_tariff_7 : decode b_lw_tariff 7 = .ok (.i2l, 1) := by decide +kernel
theorem d_lw_tariff_8 : decode b_lw_tariff 8 = .ok (.lastore, 1) := by decide +kernel
theorem d_lw_tariff_9 : decode b_lw_tariff 9 = .ok (.goto 6, 3) := by decide +kernel
theorem d_lw_tariff_12 : decode b_lw_tariff 12 = .ok (.astore_n 3, 1) := by decide +kernel
theorem d_lw_tariff_13 : decode b_lw_tariff 13 = .ok (.iconst 1, 1) := by decide +kernel
theorem d_lw_tariff_14 : decode b_lw_tariff 14 = .ok (.ireturn, 1) := by decide +kernel
theorem d_lw_tariff_15 : decode b_lw_tariff 15 = .ok (.iconst 0, 1) := by decide +kernel
theorem d_lw_tariff_16 : decode b_lw_tariff 16 = .ok (.ireturn, 1) := by decide +kernel
theorem d_lw_use_0 : decode b_lw_use 0 = .ok (.aload_n 3, 1) := by decide +kernel
theorem d_lw_use_1 : decode b_lw_use 1 = .ok (.iconst 0, 1) := by decide +kernel
theorem d_lw_use_2 : decode b_lw_use 2 = .ok (.aload_n 0, 1) := by decide +kernel
theorem d_lw_use_3 : decode b_lw_use 3 = .ok (.iload_n 1, 1) := by decide +kernel
theorem d_lw_use_4 : decode b_lw_use 4 = .ok (.iload_n 2, 1) := by decide +kernel
theorem d_lw_use_5 : decode b_lw_use 5 = .ok (.invokevirtual 21, 3) := by decide +kernel
theorem d_lw_use_8 : decode b_lw_use 8 = .ok (.lastore, 1) := by decide +kernel
theorem d_lw_use_9 : decode b_lw_use 9 = .ok (.goto 7, 3) := by decide +kernel
theorem d_lw_use_12 : decode b_lw_use 12 = .ok (.astore 4, 2) := by decide +kernel
theorem d_lw_use_14 : decode b_lw_use 14 = .ok (.iconst 1, 1) := by decide +kernel
theorem d_lw_use_15 : decode b_lw_use 15 = .ok (.ireturn, 1) := by decide +kernel
theorem d_lw_use_16 : decode b_lw_use 16 = .ok (.iconst 0, 1) := by decide +kernel
theorem d_lw_use_17 : decode b_lw_use 17 = .ok (.ireturn, 1) := by decide +kernel
theorem d_lw_subscribe_0 : decode b_lw_subscribe 0 = .ok (.aload_n 3, 1) := by decide +kernel
theorem d_lw_subscribe_1 : decode b_lw_subscribe 1 = .ok (.iconst 0, 1) := by decide +kernel
theorem d_lw_subscribe_2 : decode b_lw_subscribe 2 = .ok (.aload_n 0, 1) := by decide +kernel
theorem d_lw_subscribe_3 : decode b_lw_subscribe 3 = .ok (.iload_n 1, 1) := by decide +kernel
theorem d_lw_subscribe_4 : decode b_lw_subscribe 4 = .ok (.iload_n 2, 1) := by decide +kernel
theorem d_lw_subscribe_5 : decode b_lw_subscribe 5 = .ok (.invokevirtual 25, 3) := by decide +kernel
theorem d_lw_subscribe_8 : decode b_lw_subscribe 8 = .ok (.i2l, 1) := by decide +kernel
theorem d_lw_subscribe_9 : decode b_lw_subscribe 9 = .ok (.lastore, 1) := by decide +kernel
theorem d_lw_subscribe_10 : decode b_lw_subscribe 10 = .ok (.goto 7, 3) := by decide +kernel
theorem d_lw_subscribe_13 : decode b_lw_subscribe 13 = .ok (.astore 4, 2) := by decide +kernel
theorem d_lw_subscribe_15 : decode b_lw_subscribe 15 = .ok (.iconst 1, 1) := by decide +kernel
theorem d_lw_subscribe_16 : decode b_lw_subscribe 16 = .ok (.ireturn, 1) := by decide +kernel
theorem d_lw_subscribe_17 : decode b_lw_subscribe 17 = .ok (.iconst 0, 1) := by decide +kernel
theorem d_lw_subscribe_18 : decode b_lw_subscribe 18 = .ok (.ireturn, 1) := by decide +kernel
theorem d_lw_pause_0 : decode b_lw_pause 0 = .ok (.aload_n 3, 1) := by decide +kernel
theorem d_lw_pause_1 : decode b_lw_pause 1 = .ok (.iconst 0, 1) := by decide +kernel
theorem d_lw_pause_2 : decode b_lw_pause 2 = .ok (.aload_n 0, 1) := by decide +kernel
theorem d_lw_pause_3 : decode b_lw_pause 3 = .ok (.iload_n 1, 1) := by decide +kernel
theorem d_lw_pause_4 : decode b_lw_pause 4 = .ok (.iload_n 2, 1) := by decide +kernel
theorem d_lw_pause_5 : decode b_lw_pause 5 = .ok (.invokevirtual 29, 3) := by decide +kernel
theorem d_lw_pause_8 : decode b_lw_pause 8 = .ok (.ifCond .eq 7, 3) := by decide +kernel
theorem d_lw_pause_11 : decode b_lw_pause 11 = .ok (.lconst 1, 1) := by decide +kernel
theorem d_lw_pause_12 : decode b_lw_pause 12 = .ok (.goto 4, 3) := by decide +kernel
theorem d_lw_pause_15 : decode b_lw_pause 15 = .ok (.lconst 0, 1) := by decide +kernel
theorem d_lw_pause_16 : decode b_lw_pause 16 = .ok (.lastore, 1) := by decide +kernel
theorem d_lw_pause_17 : decode b_lw_pause 17 = .ok (.goto 11, 3) := by decide +kernel
theorem d_lw_pause_20 : decode b_lw_pause 20 = .ok (.astore 4, 2) := by decide +kernel
theorem d_lw_pause_22 : decode b_lw_pause 22 = .ok (.iconst 1, 1) := by decide +kernel
theorem d_lw_pause_23 : decode b_lw_pause 23 = .ok (.ireturn, 1) := by decide +kernel
theorem d_lw_pause_24 : decode b_lw_pause 24 = .ok (.astore 4, 2) := by decide +kernel
theorem d_lw_pause_26 : decode b_lw_pause 26 = .ok (.iconst 2, 1) := by decide +kernel
theorem d_lw_pause_27 : decode b_lw_pause 27 = .ok (.ireturn, 1) := by decide +kernel
theorem d_lw_pause_28 : decode b_lw_pause 28 = .ok (.iconst 0, 1) := by decide +kernel
theorem d_lw_pause_29 : decode b_lw_pause 29 = .ok (.ireturn, 1) := by decide +kernel
theorem d_lw_event_0 : decode b_lw_event 0 = .ok (.aload 5, 2) := by decide +kernel
theorem d_lw_event_2 : decode b_lw_event 2 = .ok (.iconst 0, 1) := by decide +kernel
theorem d_lw_event_3 : decode b_lw_event 3 = .ok (.aload_n 0, 1) := by decide +kernel
theorem d_lw_event_4 : decode b_lw_event 4 = .ok (.iload_n 1, 1) := by decide +kernel
theorem d_lw_event_5 : decode b_lw_event 5 = .ok (.iload_n 2, 1) := by decide +kernel
theorem d_lw_event_6 : decode b_lw_event 6 = .ok (.iload_n 3, 1) := by decide +kernel
theorem d_lw_event_7 : decode b_lw_event 7 = .ok (.iload 4, 2) := by decide +kernel
theorem d_lw_event_9 : decode b_lw_event 9 = .ok (.invokevirtual 33, 3) := by decide +kernel
theorem d_lw_event_12 : decode b_lw_event 12 = .ok (.i2l, 1) := by decide +kernel
theorem d_lw_event_13 : decode b_lw_event 13 = .ok (.lastore, 1) := by decide +kernel
theorem d_lw_event_14 : decode b_lw_event 14 = .ok (.goto 15, 3) := by decide +kernel
theorem d_lw_event_17 : decode b_lw_event 17 = .ok (.astore 6, 2) := by decide +kernel
theorem d_lw_event_19 : decode b_lw_event 19 = .ok (.iconst 1, 1) := by decide +kernel
theorem d_lw_event_20 : decode b_lw_event 20 = .ok (.ireturn, 1) := by decide +kernel
theorem d_lw_event_21 : decode b_lw_event 21 = .ok (.astore 6, 2) := by decide +kernel
theorem d_lw_event_23 : decode b_lw_event 23 = .ok (.iconst 2, 1) := by decide +kernel
theorem d_lw_event_24 : decode b_lw_event 24 = .ok (.ireturn, 1) := by decide +kernel
theorem d_lw_event_25 : decode b_lw_event 25 = .ok (.astore 6, 2) := by decide +kernel
theorem d_lw_event_27 : decode b_lw_event 27 = .ok (.iconst 3, 1) := by decide +kernel
theorem d_lw_event_28 : decode b_lw_event 28 = .ok (.ireturn, 1) := by decide +kernel
theorem d_lw_event_29 : decode b_lw_event 29 = .ok (.iconst 0, 1) := by decide +kernel
theorem d_lw_event_30 : decode b_lw_event 30 = .ok (.ireturn, 1) := by decide +kernel
theorem d_lw_tick_0 : decode b_lw_tick 0 = .ok (.aload_n 2, 1) := by decide +kernel
theorem d_lw_tick_1 : decode b_lw_tick 1 = .ok (.iconst 0, 1) := by decide +kernel
theorem d_lw_tick_2 : decode b_lw_tick 2 = .ok (.aload_n 0, 1) := by decide +kernel
theorem d_lw_tick_3 : decode b_lw_tick 3 = .ok (.iload_n 1, 1) := by decide +kernel
theorem d_lw_tick_4 : decode b_lw_tick 4 = .ok (.invokevirtual 39, 3) := by decide +kernel
theorem d_lw_tick_7 : decode b_lw_tick 7 = .ok (.i2l, 1) := by decide +kernel
theorem d_lw_tick_8 : decode b_lw_tick 8 = .ok (.lastore, 1) := by decide +kernel
theorem d_lw_tick_9 : decode b_lw_tick 9 = .ok (.goto 9, 3) := by decide +kernel
theorem d_lw_tick_12 : decode b_lw_tick 12 = .ok (.astore_n 3, 1) := by decide +kernel
theorem d_lw_tick_13 : decode b_lw_tick 13 = .ok (.iconst 1, 1) := by decide +kernel
theorem d_lw_tick_14 : decode b_lw_tick 14 = .ok (.ireturn, 1) := by decide +kernel
theorem d_lw_tick_15 : decode b_lw_tick 15 = .ok (.astore_n 3, 1) := by decide +kernel
theorem d_lw_tick_16 : decode b_lw_tick 16 = .ok (.iconst 2, 1) := by decide +kernel
theorem d_lw_tick_17 : decode b_lw_tick 17 = .ok (.ireturn, 1) := by decide +kernel
theorem d_lw_tick_18 : decode b_lw_tick 18 = .ok (.iconst 0, 1) := by decide +kernel
theorem d_lw_tick_19 : decode b_lw_tick 19 = .ok (.ireturn, 1) := by decide +kernel
theorem d_lw_pay_0 : decode b_lw_pay 0 = .ok (.aload 4, 2) := by decide +kernel
theorem d_lw_pay_2 : decode b_lw_pay 2 = .ok (.iconst 0, 1) := by decide +kernel
theorem d_lw_pay_3 : decode b_lw_pay 3 = .ok (.aload_n 0, 1) := by decide +kernel
theorem d_lw_pay_4 : decode b_lw_pay 4 = .ok (.iload_n 1, 1) := by decide +kernel
theorem d_lw_pay_5 : decode b_lw_pay 5 = .ok (.lload_n 2, 1) := by decide +kernel
theorem d_lw_pay_6 : decode b_lw_pay 6 = .ok (.invokevirtual 42, 3) := by decide +kernel
theorem d_lw_pay_9 : decode b_lw_pay 9 = .ok (.lastore, 1) := by decide +kernel
theorem d_lw_pay_10 : decode b_lw_pay 10 = .ok (.goto 7, 3) := by decide +kernel
theorem d_lw_pay_13 : decode b_lw_pay 13 = .ok (.astore 5, 2) := by decide +kernel
theorem d_lw_pay_15 : decode b_lw_pay 15 = .ok (.iconst 1, 1) := by decide +kernel
theorem d_lw_pay_16 : decode b_lw_pay 16 = .ok (.ireturn, 1) := by decide +kernel
theorem d_lw_pay_17 : decode b_lw_pay 17 = .ok (.iconst 0, 1) := by decide +kernel
theorem d_lw_pay_18 : decode b_lw_pay 18 = .ok (.ireturn, 1) := by decide +kernel
theorem d_lw_plan_0 : decode b_lw_plan 0 = .ok (.aload 5, 2) := by decide +kernel
theorem d_lw_plan_2 : decode b_lw_plan 2 = .ok (.iconst 0, 1) := by decide +kernel
theorem d_lw_plan_3 : decode b_lw_plan 3 = .ok (.aload_n 0, 1) := by decide +kernel
theorem d_lw_plan_4 : decode b_lw_plan 4 = .ok (.iload_n 1, 1) := by decide +kernel
theorem d_lw_plan_5 : decode b_lw_plan 5 = .ok (.lload_n 2, 1) := by decide +kernel
theorem d_lw_plan_6 : decode b_lw_plan 6 = .ok (.iload 4, 2) := by decide +kernel
theorem d_lw_plan_8 : decode b_lw_plan 8 = .ok (.invokevirtual 46, 3) := by decide +kernel
theorem d_lw_plan_11 : decode b_lw_plan 11 = .ok (.i2l, 1) := by decide +kernel
theorem d_lw_plan_12 : decode b_lw_plan 12 = .ok (.lastore, 1) := by decide +kernel
theorem d_lw_plan_13 : decode b_lw_plan 13 = .ok (.goto 11, 3) := by decide +kernel
theorem d_lw_plan_16 : decode b_lw_plan 16 = .ok (.astore 6, 2) := by decide +kernel
theorem d_lw_plan_18 : decode b_lw_plan 18 = .ok (.iconst 1, 1) := by decide +kernel
theorem d_lw_plan_19 : decode b_lw_plan 19 = .ok (.ireturn, 1) := by decide +kernel
theorem d_lw_plan_20 : decode b_lw_plan 20 = .ok (.astore 6, 2) := by decide +kernel
theorem d_lw_plan_22 : decode b_lw_plan 22 = .ok (.iconst 2, 1) := by decide +kernel
theorem d_lw_plan_23 : decode b_lw_plan 23 = .ok (.ireturn, 1) := by decide +kernel
theorem d_lw_plan_24 : decode b_lw_plan 24 = .ok (.iconst 0, 1) := by decide +kernel
theorem d_lw_plan_25 : decode b_lw_plan 25 = .ok (.ireturn, 1) := by decide +kernel
theorem d_lw_charge_0 : decode b_lw_charge 0 = .ok (.aload_n 3, 1) := by decide +kernel
theorem d_lw_charge_1 : decode b_lw_charge 1 = .ok (.iconst 0, 1) := by decide +kernel
theorem d_lw_charge_2 : decode b_lw_charge 2 = .ok (.aload_n 0, 1) := by decide +kernel
theorem d_lw_charge_3 : decode b_lw_charge 3 = .ok (.iload_n 1, 1) := by decide +kernel
theorem d_lw_charge_4 : decode b_lw_charge 4 = .ok (.iload_n 2, 1) := by decide +kernel
theorem d_lw_charge_5 : decode b_lw_charge 5 = .ok (.invokevirtual 50, 3) := by decide +kernel
theorem d_lw_charge_8 : decode b_lw_charge 8 = .ok (.lastore, 1) := by decide +kernel
theorem d_lw_charge_9 : decode b_lw_charge 9 = .ok (.goto 7, 3) := by decide +kernel
theorem d_lw_charge_12 : decode b_lw_charge 12 = .ok (.astore 4, 2) := by decide +kernel
theorem d_lw_charge_14 : decode b_lw_charge 14 = .ok (.iconst 1, 1) := by decide +kernel
theorem d_lw_charge_15 : decode b_lw_charge 15 = .ok (.ireturn, 1) := by decide +kernel
theorem d_lw_charge_16 : decode b_lw_charge 16 = .ok (.iconst 0, 1) := by decide +kernel
theorem d_lw_charge_17 : decode b_lw_charge 17 = .ok (.ireturn, 1) := by decide +kernel
theorem d_lw_invoice_0 : decode b_lw_invoice 0 = .ok (.aload_n 3, 1) := by decide +kernel
theorem d_lw_invoice_1 : decode b_lw_invoice 1 = .ok (.iconst 0, 1) := by decide +kernel
theorem d_lw_invoice_2 : decode b_lw_invoice 2 = .ok (.aload_n 0, 1) := by decide +kernel
theorem d_lw_invoice_3 : decode b_lw_invoice 3 = .ok (.iload_n 1, 1) := by decide +kernel
theorem d_lw_invoice_4 : decode b_lw_invoice 4 = .ok (.iload_n 2, 1) := by decide +kernel
theorem d_lw_invoice_5 : decode b_lw_invoice 5 = .ok (.invokevirtual 53, 3) := by decide +kernel
theorem d_lw_invoice_8 : decode b_lw_invoice 8 = .ok (.lastore, 1) := by decide +kernel
theorem d_lw_invoice_9 : decode b_lw_invoice 9 = .ok (.goto 11, 3) := by decide +kernel
theorem d_lw_invoice_12 : decode b_lw_invoice 12 = .ok (.astore 4, 2) := by decide +kernel
theorem d_lw_invoice_14 : decode b_lw_invoice 14 = .ok (.iconst 1, 1) := by decide +kernel
theorem d_lw_invoice_15 : decode b_lw_invoice 15 = .ok (.ireturn, 1) := by decide +kernel
theorem d_lw_invoice_16 : decode b_lw_invoice 16 = .ok (.astore 4, 2) := by decide +kernel
theorem d_lw_invoice_18 : decode b_lw_invoice 18 = .ok (.iconst 2, 1) := by decide +kernel
theorem d_lw_invoice_19 : decode b_lw_invoice 19 = .ok (.ireturn, 1) := by decide +kernel
theorem d_lw_invoice_20 : decode b_lw_invoice 20 = .ok (.iconst 0, 1) := by decide +kernel
theorem d_lw_invoice_21 : decode b_lw_invoice 21 = .ok (.ireturn, 1) := by decide +kernel
theorem d_lw_told_0 : decode b_lw_told 0 = .ok (.aload_n 3, 1) := by decide +kernel
theorem d_lw_told_1 : decode b_lw_told 1 = .ok (.iconst 0, 1) := by decide +kernel
theorem d_lw_told_2 : decode b_lw_told 2 = .ok (.aload_n 0, 1) := by decide +kernel
theorem d_lw_told_3 : decode b_lw_told 3 = .ok (.iload_n 1, 1) := by decide +kernel
theorem d_lw_told_4 : decode b_lw_told 4 = .ok (.iload_n 2, 1) := by decide +kernel
theorem d_lw_told_5 : decode b_lw_told 5 = .ok (.invokevirtual 58, 3) := by decide +kernel
theorem d_lw_told_8 : decode b_lw_told 8 = .ok (.lastore, 1) := by decide +kernel
theorem d_lw_told_9 : decode b_lw_told 9 = .ok (.goto 7, 3) := by decide +kernel
theorem d_lw_told_12 : decode b_lw_told 12 = .ok (.astore 4, 2) := by decide +kernel
theorem d_lw_told_14 : decode b_lw_told 14 = .ok (.iconst 1, 1) := by decide +kernel
theorem d_lw_told_15 : decode b_lw_told 15 = .ok (.ireturn, 1) := by decide +kernel
theorem d_lw_told_16 : decode b_lw_told 16 = .ok (.iconst 0, 1) := by decide +kernel
theorem d_lw_told_17 : decode b_lw_told 17 = .ok (.ireturn, 1) := by decide +kernel
theorem d_lw_books_0 : decode b_lw_books 0 = .ok (.aload_n 2, 1) := by decide +kernel
theorem d_lw_books_1 : decode b_lw_books 1 = .ok (.iconst 0, 1) := by decide +kernel
theorem d_lw_books_2 : decode b_lw_books 2 = .ok (.aload_n 0, 1) := by decide +kernel
theorem d_lw_books_3 : decode b_lw_books 3 = .ok (.iload_n 1, 1) := by decide +kernel
theorem d_lw_books_4 : decode b_lw_books 4 = .ok (.invokevirtual 61, 3) := by decide +kernel
theorem d_lw_books_7 : decode b_lw_books 7 = .ok (.lastore, 1) := by decide +kernel
theorem d_lw_books_8 : decode b_lw_books 8 = .ok (.goto 6, 3) := by decide +kernel
theorem d_lw_books_11 : decode b_lw_books 11 = .ok (.astore_n 3, 1) := by decide +kernel
theorem d_lw_books_12 : decode b_lw_books 12 = .ok (.iconst 1, 1) := by decide +kernel
theorem d_lw_books_13 : decode b_lw_books 13 = .ok (.ireturn, 1) := by decide +kernel
theorem d_lw_books_14 : decode b_lw_books 14 = .ok (.iconst 0, 1) := by decide +kernel
theorem d_lw_books_15 : decode b_lw_books 15 = .ok (.ireturn, 1) := by decide +kernel
theorem d_lw_date_0 : decode b_lw_date 0 = .ok (.aload_n 3, 1) := by decide +kernel
theorem d_lw_date_1 : decode b_lw_date 1 = .ok (.iconst 0, 1) := by decide +kernel
theorem d_lw_date_2 : decode b_lw_date 2 = .ok (.aload_n 0, 1) := by decide +kernel
theorem d_lw_date_3 : decode b_lw_date 3 = .ok (.iload_n 1, 1) := by decide +kernel
theorem d_lw_date_4 : decode b_lw_date 4 = .ok (.iload_n 2, 1) := by decide +kernel
theorem d_lw_date_5 : decode b_lw_date 5 = .ok (.invokevirtual 65, 3) := by decide +kernel
theorem d_lw_date_8 : decode b_lw_date 8 = .ok (.i2l, 1) := by decide +kernel
theorem d_lw_date_9 : decode b_lw_date 9 = .ok (.lastore, 1) := by decide +kernel
theorem d_lw_date_10 : decode b_lw_date 10 = .ok (.goto 7, 3) := by decide +kernel
theorem d_lw_date_13 : decode b_lw_date 13 = .ok (.astore 4, 2) := by decide +kernel
theorem d_lw_date_15 : decode b_lw_date 15 = .ok (.iconst 1, 1) := by decide +kernel
theorem d_lw_date_16 : decode b_lw_date 16 = .ok (.ireturn, 1) := by decide +kernel
theorem d_lw_date_17 : decode b_lw_date 17 = .ok (.iconst 0, 1) := by decide +kernel
theorem d_lw_date_18 : decode b_lw_date 18 = .ok (.ireturn, 1) := by decide +kernel
theorem d_lw_count_0 : decode b_lw_count 0 = .ok (.aload_n 2, 1) := by decide +kernel
theorem d_lw_count_1 : decode b_lw_count 1 = .ok (.iconst 0, 1) := by decide +kernel
theorem d_lw_count_2 : decode b_lw_count 2 = .ok (.aload_n 0, 1) := by decide +kernel
theorem d_lw_count_3 : decode b_lw_count 3 = .ok (.iload_n 1, 1) := by decide +kernel
theorem d_lw_count_4 : decode b_lw_count 4 = .ok (.invokevirtual 68, 3) := by decide +kernel
theorem d_lw_count_7 : decode b_lw_count 7 = .ok (.i2l, 1) := by decide +kernel
theorem d_lw_count_8 : decode b_lw_count 8 = .ok (.lastore, 1) := by decide +kernel
theorem d_lw_count_9 : decode b_lw_count 9 = .ok (.goto 6, 3) := by decide +kernel
theorem d_lw_count_12 : decode b_lw_count 12 = .ok (.astore_n 3, 1) := by decide +kernel
theorem d_lw_count_13 : decode b_lw_count 13 = .ok (.iconst 1, 1) := by decide +kernel
theorem d_lw_count_14 : decode b_lw_count 14 = .ok (.ireturn, 1) := by decide +kernel
theorem d_lw_count_15 : decode b_lw_count 15 = .ok (.iconst 0, 1) := by decide +kernel
theorem d_lw_count_16 : decode b_lw_count 16 = .ok (.ireturn, 1) := by decide +kernel
theorem d_lw_law_0 : decode b_lw_law 0 = .ok (.new 8, 3) := by decide +kernel
theorem d_lw_law_3 : decode b_lw_law 3 = .ok (.dup, 1) := by decide +kernel
theorem d_lw_law_4 : decode b_lw_law 4 = .ok (.invokespecial 71, 3) := by decide +kernel
theorem d_lw_law_7 : decode b_lw_law 7 = .ok (.astore_n 1, 1) := by decide +kernel
theorem d_lw_law_8 : decode b_lw_law 8 = .ok (.new 72, 3) := by decide +kernel
theorem d_lw_law_11 : decode b_lw_law 11 = .ok (.dup, 1) := by decide +kernel
theorem d_lw_law_12 : decode b_lw_law 12 = .ok (.invokespecial 74, 3) := by decide +kernel
theorem d_lw_law_15 : decode b_lw_law 15 = .ok (.astore_n 2, 1) := by decide +kernel
theorem d_lw_law_16 : decode b_lw_law 16 = .ok (.iconst 1, 1) := by decide +kernel
theorem d_lw_law_17 : decode b_lw_law 17 = .ok (.newarray .long, 2) := by decide +kernel
theorem d_lw_law_19 : decode b_lw_law 19 = .ok (.astore_n 3, 1) := by decide +kernel
theorem d_lw_law_20 : decode b_lw_law 20 = .ok (.iconst 0, 1) := by decide +kernel
theorem d_lw_law_21 : decode b_lw_law 21 = .ok (.istore 4, 2) := by decide +kernel
theorem d_lw_law_23 : decode b_lw_law 23 = .ok (.iload 4, 2) := by decide +kernel
theorem d_lw_law_25 : decode b_lw_law 25 = .ok (.aload_n 0, 1) := by decide +kernel
theorem d_lw_law_26 : decode b_lw_law 26 = .ok (.arraylength, 1) := by decide +kernel
theorem d_lw_law_27 : decode b_lw_law 27 = .ok (.iconst 5, 1) := by decide +kernel
theorem d_lw_law_28 : decode b_lw_law 28 = .ok (.isub, 1) := by decide +kernel
theorem d_lw_law_29 : decode b_lw_law 29 = .ok (.if_icmp .gt 811, 3) := by decide +kernel
theorem d_lw_law_32 : decode b_lw_law 32 = .ok (.aload_n 0, 1) := by decide +kernel
theorem d_lw_law_33 : decode b_lw_law 33 = .ok (.iload 4, 2) := by decide +kernel
theorem d_lw_law_35 : decode b_lw_law 35 = .ok (.iaload, 1) := by decide +kernel
theorem d_lw_law_36 : decode b_lw_law 36 = .ok (.bipush 31, 2) := by decide +kernel
theorem d_lw_law_38 : decode b_lw_law 38 = .ok (.iand, 1) := by decide +kernel
theorem d_lw_law_39 : decode b_lw_law 39 = .ok (.tableswitch 795 0 16 #[81, 141, 169, 182, 222, 262, 318, 382, 410, 423, 495, 579, 619, 659, 699, 727, 767], 81) := by decide +kernel
theorem d_lw_law_120 : decode b_lw_law 120 = .ok (.aload_n 1, 1) := by decide +kernel
theorem d_lw_law_121 : decode b_lw_law 121 = .ok (.aload_n 0, 1) := by decide +kernel
theorem d_lw_law_122 : decode b_lw_law 122 = .ok (.iload 4, 2) := by decide +kernel
theorem d_lw_law_124 : decode b_lw_law 124 = .ok (.iconst 1, 1) := by decide +kernel
theorem d_lw_law_125 : decode b_lw_law 125 = .ok (.iadd, 1) := by decide +kernel
theorem d_lw_law_126 : decode b_lw_law 126 = .ok (.iaload, 1) := by decide +kernel
theorem d_lw_law_127 : decode b_lw_law 127 = .ok (.i2l, 1) := by decide +kernel
theorem d_lw_law_128 : decode b_lw_law 128 = .ok (.bipush 32, 2) := by decide +kernel
theorem d_lw_law_130 : decode b_lw_law 130 = .ok (.lshl, 1) := by decide +kernel
theorem d_lw_law_131 : decode b_lw_law 131 = .ok (.aload_n 0, 1) := by decide +kernel
theorem d_lw_law_132 : decode b_lw_law 132 = .ok (.iload 4, 2) := by decide +kernel
theorem d_lw_law_134 : decode b_lw_law 134 = .ok (.iconst 2, 1) := by decide +kernel
theorem d_lw_law_135 : decode b_lw_law 135 = .ok (.iadd, 1) := by decide +kernel
theorem d_lw_law_136 : decode b_lw_law 136 = .ok (.iaload, 1) := by decide +kernel
theorem d_lw_law_137 : decode b_lw_law 137 = .ok (.i2l, 1) := by decide +kernel
theorem d_lw_law_138 : decode b_lw_law 138 = .ok (.ldc2_w 75, 3) := by decide +kernel
theorem d_lw_law_141 : decode b_lw_law 141 = .ok (.land, 1) := by decide +kernel
theorem d_lw_law_142 : decode b_lw_law 142 = .ok (.lor, 1) := by decide +kernel
theorem d_lw_law_143 : decode b_lw_law 143 = .ok (.aload_n 3, 1) := by decide +kernel
theorem d_lw_law_144 : decode b_lw_law 144 = .ok (.invokestatic 77, 3) := by decide +kernel
theorem d_lw_law_147 : decode b_lw_law 147 = .ok (.istore 5, 2) := by decide +kernel
theorem d_lw_law_149 : decode b_lw_law 149 = .ok (.aload_n 2, 1) := by decide +kernel
theorem d_lw_law_150 : decode b_lw_law 150 = .ok (.aload_n 0, 1) := by decide +kernel
theorem d_lw_law_151 : decode b_lw_law 151 = .ok (.iload 4, 2) := by decide +kernel
theorem d_lw_law_153 : decode b_lw_law 153 = .ok (.iconst 1, 1) := by decide +kernel
theorem d_lw_law_154 : decode b_lw_law 154 = .ok (.iadd, 1) := by decide +kernel
theorem d_lw_law_155 : decode b_lw_law 155 = .ok (.iaload, 1) := by decide +kernel
theorem d_lw_law_156 : decode b_lw_law 156 = .ok (.i2l, 1) := by decide +kernel
theorem d_lw_law_157 : decode b_lw_law 157 = .ok (.bipush 32, 2) := by decide +kernel
theorem d_lw_law_159 : decode b_lw_law 159 = .ok (.lshl, 1) := by decide +kernel
theorem d_lw_law_160 : decode b_lw_law 160 = .ok (.aload_n 0, 1) := by decide +kernel
theorem d_lw_law_161 : decode b_lw_law 161 = .ok (.iload 4, 2) := by decide +kernel
theorem d_lw_law_163 : decode b_lw_law 163 = .ok (.iconst 2, 1) := by decide +kernel
theorem d_lw_law_164 : decode b_lw_law 164 = .ok (.iadd, 1) := by decide +kernel
theorem d_lw_law_165 : decode b_lw_law 165 = .ok (.iaload, 1) := by decide +kernel
theorem d_lw_law_166 : decode b_lw_law 166 = .ok (.i2l, 1) := by decide +kernel
theorem d_lw_law_167 : decode b_lw_law 167 = .ok (.ldc2_w 75, 3) := by decide +kernel
theorem d_lw_law_170 : decode b_lw_law 170 = .ok (.land, 1) := by decide +kernel
theorem d_lw_law_171 : decode b_lw_law 171 = .ok (.lor, 1) := by decide +kernel
theorem d_lw_law_172 : decode b_lw_law 172 = .ok (.invokevirtual 82, 3) := by decide +kernel
theorem d_lw_law_175 : decode b_lw_law 175 = .ok (.istore 6, 2) := by decide +kernel
theorem d_lw_law_177 : decode b_lw_law 177 = .ok (.goto 657, 3) := by decide +kernel
theorem d_lw_law_180 : decode b_lw_law 180 = .ok (.aload_n 1, 1) := by decide +kernel
theorem d_lw_law_181 : decode b_lw_law 181 = .ok (.aload_n 0, 1) := by decide +kernel
theorem d_lw_law_182 : decode b_lw_law 182 = .ok (.iload 4, 2) := by decide +kernel
theorem d_lw_law_184 : decode b_lw_law 184 = .ok (.iconst 1, 1) := by decide +kernel
theorem d_lw_law_185 : decode b_lw_law 185 = .ok (.iadd, 1) := by decide +kernel
theorem d_lw_law_186 : decode b_lw_law 186 = .ok (.iaload, 1) := by decide +kernel
theorem d_lw_law_187 : decode b_lw_law 187 = .ok (.aload_n 3, 1) := by decide +kernel
theorem d_lw_law_188 : decode b_lw_law 188 = .ok (.invokestatic 83, 3) := by decide +kernel
theorem d_lw_law_191 : decode b_lw_law 191 = .ok (.istore 5, 2) := by decide +kernel
theorem d_lw_law_193 : decode b_lw_law 193 = .ok (.aload_n 2, 1) := by decide +kernel
theorem d_lw_law_194 : decode b_lw_law 194 = .ok (.aload_n 0, 1) := by decide +kernel
theorem d_lw_law_195 : decode b_lw_law 195 = .ok (.iload 4, 2) := by decide +kernel
theorem d_lw_law_197 : decode b_lw_law 197 = .ok (.iconst 1, 1) := by decide +kernel
theorem d_lw_law_198 : decode b_lw_law 198 = .ok (.iadd, 1) := by decide +kernel
theorem d_lw_law_199 : decode b_lw_law 199 = .ok (.iaload, 1) := by decide +kernel
theorem d_lw_law_200 : decode b_lw_law 200 = .ok (.invokevirtual 86, 3) := by decide +kernel
theorem d_lw_law_203 : decode b_lw_law 203 = .ok (.istore 6, 2) := by decide +kernel
theorem d_lw_law_205 : decode b_lw_law 205 = .ok (.goto 629, 3) := by decide +kernel
theorem d_lw_law_208 : decode b_lw_law 208 = .ok (.aload_n 1, 1) := by decide +kernel
theorem d_lw_law_209 : decode b_lw_law 209 = .ok (.invokevirtual 87, 3) := by decide +kernel
theorem d_lw_law_212 : decode b_lw_law 212 = .ok (.aload_n 2, 1) := by decide +kernel
theorem d_lw_law_213 : decode b_lw_law 213 = .ok (.invokevirtual 91, 3) := by decide +kernel
theorem d_lw_law_216 : decode b_lw_law 216 = .ok (.if_icmp .eq 618, 3) := by decide +kernel
theorem d_lw_law_219 : decode b_lw_law 219 = .ok (.iconst 0, 1) := by decide +kernel
theorem d_lw_law_220 : decode b_lw_law 220 = .ok (.ireturn, 1) := by decide +kernel
theorem d_lw_law_221 : decode b_lw_law 221 = .ok (.aload_n 1, 1) := by decide +kernel
theorem d_lw_law_222 : decode b_lw_law 222 = .ok (.aload_n 0, 1) := by decide +kernel
theorem d_lw_law_223 : decode b_lw_law 223 = .ok (.iload 4, 2) := by decide +kernel
theorem d_lw_law_225 : decode b_lw_law 225 = .ok (.iconst 1, 1) := by decide +kernel
theorem d_lw_law_226 : decode b_lw_law 226 = .ok (.iadd, 1) := by decide +kernel
theorem d_lw_law_227 : decode b_lw_law 227 = .ok (.iaload, 1) := by decide +kernel
theorem d_lw_law_228 : decode b_lw_law 228 = .ok (.aload_n 0, 1) := by decide +kernel
theorem d_lw_law_229 : decode b_lw_law 229 = .ok (.iload 4, 2) := by decide +kernel
theorem d_lw_law_231 : decode b_lw_law 231 = .ok (.iconst 2, 1) := by decide +kernel
theorem d_lw_law_232 : decode b_lw_law 232 = .ok (.iadd, 1) := by decide +kernel
theorem d_lw_law_233 : decode b_lw_law 233 = .ok (.iaload, 1) := by decide +kernel
theorem d_lw_law_234 : decode b_lw_law 234 = .ok (.aload_n 3, 1) := by decide +kernel
theorem d_lw_law_235 : decode b_lw_law 235 = .ok (.invokestatic 92, 3) := by decide +kernel
theorem d_lw_law_238 : decode b_lw_law 238 = .ok (.istore 5, 2) := by decide +kernel
theorem d_lw_law_240 : decode b_lw_law 240 = .ok (.aload_n 2, 1) := by decide +kernel
theorem d_lw_law_241 : decode b_lw_law 241 = .ok (.aload_n 0, 1) := by decide +kernel
theorem d_lw_law_242 : decode b_lw_law 242 = .ok (.iload 4, 2) := by decide +kernel
theorem d_lw_law_244 : decode b_lw_law 244 = .ok (.iconst 1, 1) := by decide +kernel
theorem d_lw_law_245 : decode b_lw_law 245 = .ok (.iadd, 1) := by decide +kernel
theorem d_lw_law_246 : decode b_lw_law 246 = .ok (.iaload, 1) := by decide +kernel
theorem d_lw_law_247 : decode b_lw_law 247 = .ok (.aload_n 0, 1) := by decide +kernel
theorem d_lw_law_248 : decode b_lw_law 248 = .ok (.iload 4, 2) := by decide +kernel
theorem d_lw_law_250 : decode b_lw_law 250 = .ok (.iconst 2, 1) := by decide +kernel
theorem d_lw_law_251 : decode b_lw_law 251 = .ok (.iadd, 1) := by decide +kernel
theorem d_lw_law_252 : decode b_lw_law 252 = .ok (.iaload, 1) := by decide +kernel
theorem d_lw_law_253 : decode b_lw_law 253 = .ok (.invokevirtual 95, 3) := by decide +kernel
theorem d_lw_law_256 : decode b_lw_law 256 = .ok (.lstore 6, 2) := by decide +kernel
theorem d_lw_law_258 : decode b_lw_law 258 = .ok (.goto 576, 3) := by decide +kernel
theorem d_lw_law_261 : decode b_lw_law 261 = .ok (.aload_n 1, 1) := by decide +kernel
theorem d_lw_law_262 : decode b_lw_law 262 = .ok (.aload_n 0, 1) := by decide +kernel
theorem d_lw_law_263 : decode b_lw_law 263 = .ok (.iload 4, 2) := by decide +kernel
theorem d_lw_law_265 : decode b_lw_law 265 = .ok (.iconst 1, 1) := by decide +kernel
theorem d_lw_law_266 : decode b_lw_law 266 = .ok (.iadd, 1) := by decide +kernel
theorem d_lw_law_267 : decode b_lw_law 267 = .ok (.iaload, 1) := by decide +kernel
theorem d_lw_law_268 : decode b_lw_law 268 = .ok (.aload_n 0, 1) := by decide +kernel
theorem d_lw_law_269 : decode b_lw_law 269 = .ok (.iload 4, 2) := by decide +kernel
theorem d_lw_law_271 : decode b_lw_law 271 = .ok (.iconst 2, 1) := by decide +kernel
theorem d_lw_law_272 : decode b_lw_law 272 = .ok (.iadd, 1) := by decide +kernel
theorem d_lw_law_273 : decode b_lw_law 273 = .ok (.iaload, 1) := by decide +kernel
theorem d_lw_law_274 : decode b_lw_law 274 = .ok (.aload_n 3, 1) := by decide +kernel
theorem d_lw_law_275 : decode b_lw_law 275 = .ok (.invokestatic 96, 3) := by decide +kernel
theorem d_lw_law_278 : decode b_lw_law 278 = .ok (.istore 5, 2) := by decide +kernel
theorem d_lw_law_280 : decode b_lw_law 280 = .ok (.aload_n 2, 1) := by decide +kernel
theorem d_lw_law_281 : decode b_lw_law 281 = .ok (.aload_n 0, 1) := by decide +kernel
theorem d_lw_law_282 : decode b_lw_law 282 = .ok (.iload 4, 2) := by decide +kernel
theorem d_lw_law_284 : decode b_lw_law 284 = .ok (.iconst 1, 1) := by decide +kernel
theorem d_lw_law_285 : decode b_lw_law 285 = .ok (.iadd, 1) := by decide +kernel
theorem d_lw_law_286 : decode b_lw_law 286 = .ok (.iaload, 1) := by decide +kernel
theorem d_lw_law_287 : decode b_lw_law 287 = .ok (.aload_n 0, 1) := by decide +kernel
theorem d_lw_law_288 : decode b_lw_law 288 = .ok (.iload 4, 2) := by decide +kernel
theorem d_lw_law_290 : decode b_lw_law 290 = .ok (.iconst 2, 1) := by decide +kernel
theorem d_lw_law_291 : decode b_lw_law 291 = .ok (.iadd, 1) := by decide +kernel
theorem d_lw_law_292 : decode b_lw_law 292 = .ok (.iaload, 1) := by decide +kernel
theorem d_lw_law_293 : decode b_lw_law 293 = .ok (.invokevirtual 98, 3) := by decide +kernel
theorem d_lw_law_296 : decode b_lw_law 296 = .ok (.istore 6, 2) := by decide +kernel
theorem d_lw_law_298 : decode b_lw_law 298 = .ok (.goto 536, 3) := by decide +kernel
theorem d_lw_law_301 : decode b_lw_law 301 = .ok (.aload_n 1, 1) := by decide +kernel
theorem d_lw_law_302 : decode b_lw_law 302 = .ok (.aload_n 0, 1) := by decide +kernel
theorem d_lw_law_303 : decode b_lw_law 303 = .ok (.iload 4, 2) := by decide +kernel
theorem d_lw_law_305 : decode b_lw_law 305 = .ok (.iconst 1, 1) := by decide +kernel
theorem d_lw_law_306 : decode b_lw_law 306 = .ok (.iadd, 1) := by decide +kernel
theorem d_lw_law_307 : decode b_lw_law 307 = .ok (.iaload, 1) := by decide +kernel
theorem d_lw_law_308 : decode b_lw_law 308 = .ok (.aload_n 0, 1) := by decide +kernel
theorem d_lw_law_309 : decode b_lw_law 309 = .ok (.iload 4, 2) := by decide +kernel
theorem d_lw_law_311 : decode b_lw_law 311 = .ok (.iconst 2, 1) := by decide +kernel
theorem d_lw_law_312 : decode b_lw_law 312 = .ok (.iadd, 1) := by decide +kernel
theorem d_lw_law_313 : decode b_lw_law 313 = .ok (.iaload, 1) := by decide +kernel
theorem d_lw_law_314 : decode b_lw_law 314 = .ok (.ifCond .eq 7, 3) := by decide +kernel
theorem d_lw_law_317 : decode b_lw_law 317 = .ok (.iconst 1, 1) := by decide +kernel
theorem d_lw_law_318 : decode b_lw_law 318 = .ok (.goto 4, 3) := by decide +kernel
theorem d_lw_law_321 : decode b_lw_law 321 = .ok (.iconst 0, 1) := by decide +kernel
theorem d_lw_law_322 : decode b_lw_law 322 = .ok (.aload_n 3, 1) := by decide +kernel
theorem d_lw_law_323 : decode b_lw_law 323 = .ok (.invokestatic 99, 3) := by decide +kernel
theorem d_lw_law_326 : decode b_lw_law 326 = .ok (.istore 5, 2) := by decide +kernel
theorem d_lw_law_328 : decode b_lw_law 328 = .ok (.aload_n 2, 1) := by decide +kernel
theorem d_lw_law_329 : decode b_lw_law 329 = .ok (.aload_n 0, 1) := by decide +kernel
theorem d_lw_law_330 : decode b_lw_law 330 = .ok (.iload 4, 2) := by decide +kernel
theorem d_lw_law_332 : decode b_lw_law 332 = .ok (.iconst 1, 1) := by decide +kernel
theorem d_lw_law_333 : decode b_lw_law 333 = .ok (.iadd, 1) := by decide +kernel
theorem d_lw_law_334 : decode b_lw_law 334 = .ok (.iaload, 1) := by decide +kernel
theorem d_lw_law_335 : decode b_lw_law 335 = .ok (.aload_n 0, 1) := by decide +kernel
theorem d_lw_law_336 : decode b_lw_law 336 = .ok (.iload 4, 2) := by decide +kernel
theorem d_lw_law_338 : decode b_lw_law 338 = .ok (.iconst 2, 1) := by decide +kernel
theorem d_lw_law_339 : decode b_lw_law 339 = .ok (.iadd, 1) := by decide +kernel
theorem d_lw_law_340 : decode b_lw_law 340 = .ok (.iaload, 1) := by decide +kernel
theorem d_lw_law_341 : decode b_lw_law 341 = .ok (.ifCond .eq 7, 3) := by decide +kernel
theorem d_lw_law_344 : decode b_lw_law 344 = .ok (.iconst 1, 1) := by decide +kernel
theorem d_lw_law_345 : decode b_lw_law 345 = .ok (.goto 4, 3) := by decide +kernel
theorem d_lw_law_348 : decode b_lw_law 348 = .ok (.iconst 0, 1) := by decide +kernel
theorem d_lw_law_349 : decode b_lw_law 349 = .ok (.invokevirtual 102, 3) := by decide +kernel
theorem d_lw_law_352 : decode b_lw_law 352 = .ok (.istore 6, 2) := by decide +kernel
theorem d_lw_law_354 : decode b_lw_law 354 = .ok (.goto 480, 3) := by decide +kernel
theorem d_lw_law_357 : decode b_lw_law 357 = .ok (.aload_n 1, 1) := by decide +kernel
theorem d_lw_law_358 : decode b_lw_law 358 = .ok (.aload_n 0, 1) := by decide +kernel
theorem d_lw_law_359 : decode b_lw_law 359 = .ok (.iload 4, 2) := by decide +kernel
theorem d_lw_law_361 : decode b_lw_law 361 = .ok (.iconst 1, 1) := by decide +kernel
theorem d_lw_law_362 : decode b_lw_law 362 = .ok (.iadd, 1) := by decide +kernel
theorem d_lw_law_363 : decode b_lw_law 363 = .ok (.iaload, 1) := by decide +kernel
theorem d_lw_law_364 : decode b_lw_law 364 = .ok (.aload_n 0, 1) := by decide +kernel
theorem d_lw_law_365 : decode b_lw_law 365 = .ok (.iload 4, 2) := by decide +kernel
theorem d_lw_law_367 : decode b_lw_law 367 = .ok (.iconst 2, 1) := by decide +kernel
theorem d_lw_law_368 : decode b_lw_law 368 = .ok (.iadd, 1) := by decide +kernel
theorem d_lw_law_369 : decode b_lw_law 369 = .ok (.iaload, 1) := by decide +kernel
theorem d_lw_law_370 : decode b_lw_law 370 = .ok (.aload_n 0, 1) := by decide +kernel
theorem d_lw_law_371 : decode b_lw_law 371 = .ok (.iload 4, 2) := by decide +kernel
theorem d_lw_law_373 : decode b_lw_law 373 = .ok (.iconst 3, 1) := by decide +kernel
theorem d_lw_law_374 : decode b_lw_law 374 = .ok (.iadd, 1) := by decide +kernel
theorem d_lw_law_375 : decode b_lw_law 375 = .ok (.iaload, 1) := by decide +kernel
theorem d_lw_law_376 : decode b_lw_law 376 = .ok (.aload_n 0, 1) := by decide +kernel
theorem d_lw_law_377 : decode b_lw_law 377 = .ok (.iload 4, 2) := by decide +kernel
theorem d_lw_law_379 : decode b_lw_law 379 = .ok (.iconst 4, 1) := by decide +kernel
theorem d_lw_law_380 : decode b_lw_law 380 = .ok (.iadd, 1) := by decide +kernel
theorem d_lw_law_381 : decode b_lw_law 381 = .ok (.iaload, 1) := by decide +kernel
theorem d_lw_law_382 : decode b_lw_law 382 = .ok (.aload_n 3, 1) := by decide +kernel
theorem d_lw_law_383 : decode b_lw_law 383 = .ok (.invokestatic 103, 3) := by decide +kernel
theorem d_lw_law_386 : decode b_lw_law 386 = .ok (.istore 5, 2) := by decide +kernel
theorem d_lw_law_388 : decode b_lw_law 388 = .ok (.aload_n 2, 1) := by decide +kernel
theorem d_lw_law_389 : decode b_lw_law 389 = .ok (.aload_n 0, 1) := by decide +kernel
theorem d_lw_law_390 : decode b_lw_law 390 = .ok (.iload 4, 2) := by decide +kernel
theorem d_lw_law_392 : decode b_lw_law 392 = .ok (.iconst 1, 1) := by decide +kernel
theorem d_lw_law_393 : decode b_lw_law 393 = .ok (.iadd, 1) := by decide +kernel
theorem d_lw_law_394 : decode b_lw_law 394 = .ok (.iaload, 1) := by decide +kernel
theorem d_lw_law_395 : decode b_lw_law 395 = .ok (.aload_n 0, 1) := by decide +kernel
theorem d_lw_law_396 : decode b_lw_law 396 = .ok (.iload 4, 2) := by decide +kernel
theorem d_lw_law_398 : decode b_lw_law 398 = .ok (.iconst 2, 1) := by decide +kernel
theorem d_lw_law_399 : decode b_lw_law 399 = .ok (.iadd, 1) := by decide +kernel
theorem d_lw_law_400 : decode b_lw_law 400 = .ok (.iaload, 1) := by decide +kernel
theorem d_lw_law_401 : decode b_lw_law 401 = .ok (.aload_n 0, 1) := by decide +kernel
theorem d_lw_law_402 : decode b_lw_law 402 = .ok (.iload 4, 2) := by decide +kernel
theorem d_lw_law_404 : decode b_lw_law 404 = .ok (.iconst 3, 1) := by decide +kernel
theorem d_lw_law_405 : decode b_lw_law 405 = .ok (.iadd, 1) := by decide +kernel
theorem d_lw_law_406 : decode b_lw_law 406 = .ok (.iaload, 1) := by decide +kernel
theorem d_lw_law_407 : decode b_lw_law 407 = .ok (.aload_n 0, 1) := by decide +kernel
theorem d_lw_law_408 : decode b_lw_law 408 = .ok (.iload 4, 2) := by decide +kernel
theorem d_lw_law_410 : decode b_lw_law 410 = .ok (.iconst 4, 1) := by decide +kernel
theorem d_lw_law_411 : decode b_lw_law 411 = .ok (.iadd, 1) := by decide +kernel
theorem d_lw_law_412 : decode b_lw_law 412 = .ok (.iaload, 1) := by decide +kernel
theorem d_lw_law_413 : decode b_lw_law 413 = .ok (.invokevirtual 106, 3) := by decide +kernel
theorem d_lw_law_416 : decode b_lw_law 416 = .ok (.istore 6, 2) := by decide +kernel
theorem d_lw_law_418 : decode b_lw_law 418 = .ok (.goto 416, 3) := by decide +kernel
theorem d_lw_law_421 : decode b_lw_law 421 = .ok (.aload_n 1, 1) := by decide +kernel
theorem d_lw_law_422 : decode b_lw_law 422 = .ok (.aload_n 0, 1) := by decide +kernel
theorem d_lw_law_423 : decode b_lw_law 423 = .ok (.iload 4, 2) := by decide +kernel
theorem d_lw_law_425 : decode b_lw_law 425 = .ok (.iconst 1, 1) := by decide +kernel
theorem d_lw_law_426 : decode b_lw_law 426 = .ok (.iadd, 1) := by decide +kernel
theorem d_lw_law_427 : decode b_lw_law 427 = .ok (.iaload, 1) := by decide +kernel
theorem d_lw_law_428 : decode b_lw_law 428 = .ok (.aload_n 3, 1) := by decide +kernel
theorem d_lw_law_429 : decode b_lw_law 429 = .ok (.invokestatic 107, 3) := by decide +kernel
theorem d_lw_law_432 : decode b_lw_law 432 = .ok (.istore 5, 2) := by decide +kernel
theorem d_lw_law_434 : decode b_lw_law 434 = .ok (.aload_n 2, 1) := by decide +kernel
theorem d_lw_law_435 : decode b_lw_law 435 = .ok (.aload_n 0, 1) := by decide +kernel
theorem d_lw_law_436 : decode b_lw_law 436 = .ok (.iload 4, 2) := by decide +kernel
theorem d_lw_law_438 : decode b_lw_law 438 = .ok (.iconst 1, 1) := by decide +kernel
theorem d_lw_law_439 : decode b_lw_law 439 = .ok (.iadd, 1) := by decide +kernel
theorem d_lw_law_440 : decode b_lw_law 440 = .ok (.iaload, 1) := by decide +kernel
theorem d_lw_law_441 : decode b_lw_law 441 = .ok (.invokevirtual 109, 3) := by decide +kernel
theorem d_lw_law_444 : decode b_lw_law 444 = .ok (.istore 6, 2) := by decide +kernel
theorem d_lw_law_446 : decode b_lw_law 446 = .ok (.goto 388, 3) := by decide +kernel
theorem d_lw_law_449 : decode b_lw_law 449 = .ok (.aload_n 1, 1) := by decide +kernel
theorem d_lw_law_450 : decode b_lw_law 450 = .ok (.invokevirtual 110, 3) := by decide +kernel
theorem d_lw_law_453 : decode b_lw_law 453 = .ok (.pop, 1) := by decide +kernel
theorem d_lw_law_454 : decode b_lw_law 454 = .ok (.aload_n 2, 1) := by decide +kernel
theorem d_lw_law_455 : decode b_lw_law 455 = .ok (.invokevirtual 113, 3) := by decide +kernel
theorem d_lw_law_458 : decode b_lw_law 458 = .ok (.pop, 1) := by decide +kernel
theorem d_lw_law_459 : decode b_lw_law 459 = .ok (.goto 375, 3) := by decide +kernel
theorem d_lw_law_462 : decode b_lw_law 462 = .ok (.aload_n 1, 1) := by decide +kernel
theorem d_lw_law_463 : decode b_lw_law 463 = .ok (.aload_n 0, 1) := by decide +kernel
theorem d_lw_law_464 : decode b_lw_law 464 = .ok (.iload 4, 2) := by decide +kernel
theorem d_lw_law_466 : decode b_lw_law 466 = .ok (.iconst 1, 1) := by decide +kernel
theorem d_lw_law_467 : decode b_lw_law 467 = .ok (.iadd, 1) := by decide +kernel
theorem d_lw_law_468 : decode b_lw_law 468 = .ok (.iaload, 1) := by decide +kernel
theorem d_lw_law_469 : decode b_lw_law 469 = .ok (.aload_n 0, 1) := by decide +kernel
theorem d_lw_law_470 : decode b_lw_law 470 = .ok (.iload 4, 2) := by decide +kernel
theorem d_lw_law_472 : decode b_lw_law 472 = .ok (.iconst 2, 1) := by decide +kernel
theorem d_lw_law_473 : decode b_lw_law 473 = .ok (.iadd, 1) := by decide +kernel
theorem d_lw_law_474 : decode b_lw_law 474 = .ok (.iaload, 1) := by decide +kernel
theorem d_lw_law_475 : decode b_lw_law 475 = .ok (.i2l, 1) := by decide +kernel
theorem d_lw_law_476 : decode b_lw_law 476 = .ok (.bipush 32, 2) := by decide +kernel
theorem d_lw_law_478 : decode b_lw_law 478 = .ok (.lshl, 1) := by decide +kernel
theorem d_lw_law_479 : decode b_lw_law 479 = .ok (.aload_n 0, 1) := by decide +kernel
theorem d_lw_law_480 : decode b_lw_law 480 = .ok (.iload 4, 2) := by decide +kernel
theorem d_lw_law_482 : decode b_lw_law 482 = .ok (.iconst 3, 1) := by decide +kernel
theorem d_lw_law_483 : decode b_lw_law 483 = .ok (.iadd, 1) := by decide +kernel
theorem d_lw_law_484 : decode b_lw_law 484 = .ok (.iaload, 1) := by decide +kernel
theorem d_lw_law_485 : decode b_lw_law 485 = .ok (.i2l, 1) := by decide +kernel
theorem d_lw_law_486 : decode b_lw_law 486 = .ok (.ldc2_w 75, 3) := by decide +kernel
theorem d_lw_law_489 : decode b_lw_law 489 = .ok (.land, 1) := by decide +kernel
theorem d_lw_law_490 : decode b_lw_law 490 = .ok (.lor, 1) := by decide +kernel
theorem d_lw_law_491 : decode b_lw_law 491 = .ok (.aload_n 3, 1) := by decide +kernel
theorem d_lw_law_492 : decode b_lw_law 492 = .ok (.invokestatic 114, 3) := by decide +kernel
theorem d_lw_law_495 : decode b_lw_law 495 = .ok (.istore 5, 2) := by decide +kernel
theorem d_lw_law_497 : decode b_lw_law 497 = .ok (.aload_n 2, 1) := by decide +kernel
theorem d_lw_law_498 : decode b_lw_law 498 = .ok (.aload_n 0, 1) := by decide +kernel
theorem d_lw_law_499 : decode b_lw_law 499 = .ok (.iload 4, 2) := by decide +kernel
theorem d_lw_law_501 : decode b_lw_law 501 = .ok (.iconst 1, 1) := by decide +kernel
theorem d_lw_law_502 : decode b_lw_law 502 = .ok (.iadd, 1) := by decide +kernel
theorem d_lw_law_503 : decode b_lw_law 503 = .ok (.iaload, 1) := by decide +kernel
theorem d_lw_law_504 : decode b_lw_law 504 = .ok (.aload_n 0, 1) := by decide +kernel
theorem d_lw_law_505 : decode b_lw_law 505 = .ok (.iload 4, 2) := by decide +kernel
theorem d_lw_law_507 : decode b_lw_law 507 = .ok (.iconst 2, 1) := by decide +kernel
theorem d_lw_law_508 : decode b_lw_law 508 = .ok (.iadd, 1) := by decide +kernel
theorem d_lw_law_509 : decode b_lw_law 509 = .ok (.iaload, 1) := by decide +kernel
theorem d_lw_law_510 : decode b_lw_law 510 = .ok (.i2l, 1) := by decide +kernel
theorem d_lw_law_511 : decode b_lw_law 511 = .ok (.bipush 32, 2) := by decide +kernel
theorem d_lw_law_513 : decode b_lw_law 513 = .ok (.lshl, 1) := by decide +kernel
theorem d_lw_law_514 : decode b_lw_law 514 = .ok (.aload_n 0, 1) := by decide +kernel
theorem d_lw_law_515 : decode b_lw_law 515 = .ok (.iload 4, 2) := by decide +kernel
theorem d_lw_law_517 : decode b_lw_law 517 = .ok (.iconst 3, 1) := by decide +kernel
theorem d_lw_law_518 : decode b_lw_law 518 = .ok (.iadd, 1) := by decide +kernel
theorem d_lw_law_519 : decode b_lw_law 519 = .ok (.iaload, 1) := by decide +kernel
theorem d_lw_law_520 : decode b_lw_law 520 = .ok (.i2l, 1) := by decide +kernel
theorem d_lw_law_521 : decode b_lw_law 521 = .ok (.ldc2_w 75, 3) := by decide +kernel
theorem d_lw_law_524 : decode b_lw_law 524 = .ok (.land, 1) := by decide +kernel
theorem d_lw_law_525 : decode b_lw_law 525 = .ok (.lor, 1) := by decide +kernel
theorem d_lw_law_526 : decode b_lw_law 526 = .ok (.invokevirtual 117, 3) := by decide +kernel
theorem d_lw_law_529 : decode b_lw_law 529 = .ok (.lstore 6, 2) := by decide +kernel
theorem d_lw_law_531 : decode b_lw_law 531 = .ok (.goto 303, 3) := by decide +kernel
theorem d_lw_law_534 : decode b_lw_law 534 = .ok (.aload_n 1, 1) := by decide +kernel
theorem d_lw_law_535 : decode b_lw_law 535 = .ok (.aload_n 0, 1) := by decide +kernel
theorem d_lw_law_536 : decode b_lw_law 536 = .ok (.iload 4, 2) := by decide +kernel
theorem d_lw_law_538 : decode b_lw_law 538 = .ok (.iconst 1, 1) := by decide +kernel
theorem d_lw_law_539 : decode b_lw_law 539 = .ok (.iadd, 1) := by decide +kernel
theorem d_lw_law_540 : decode b_lw_law 540 = .ok (.iaload, 1) := by decide +kernel
theorem d_lw_law_541 : decode b_lw_law 541 = .ok (.aload_n 0, 1) := by decide +kernel
theorem d_lw_law_542 : decode b_lw_law 542 = .ok (.iload 4, 2) := by decide +kernel
theorem d_lw_law_544 : decode b_lw_law 544 = .ok (.iconst 2, 1) := by decide +kernel
theorem d_lw_law_545 : decode b_lw_law 545 = .ok (.iadd, 1) := by decide +kernel
theorem d_lw_law_546 : decode b_lw_law 546 = .ok (.iaload, 1) := by decide +kernel
theorem d_lw_law_547 : decode b_lw_law 547 = .ok (.i2l, 1) := by decide +kernel
theorem d_lw_law_548 : decode b_lw_law 548 = .ok (.bipush 32, 2) := by decide +kernel
theorem d_lw_law_550 : decode b_lw_law 550 = .ok (.lshl, 1) := by decide +kernel
theorem d_lw_law_551 : decode b_lw_law 551 = .ok (.aload_n 0, 1) := by decide +kernel
theorem d_lw_law_552 : decode b_lw_law 552 = .ok (.iload 4, 2) := by decide +kernel
theorem d_lw_law_554 : decode b_lw_law 554 = .ok (.iconst 3, 1) := by decide +kernel
theorem d_lw_law_555 : decode b_lw_law 555 = .ok (.iadd, 1) := by decide +kernel
theorem d_lw_law_556 : decode b_lw_law 556 = .ok (.iaload, 1) := by decide +kernel
theorem d_lw_law_557 : decode b_lw_law 557 = .ok (.i2l, 1) := by decide +kernel
theorem d_lw_law_558 : decode b_lw_law 558 = .ok (.ldc2_w 75, 3) := by decide +kernel
theorem d_lw_law_561 : decode b_lw_law 561 = .ok (.land, 1) := by decide +kernel
theorem d_lw_law_562 : decode b_lw_law 562 = .ok (.lor, 1) := by decide +kernel
theorem d_lw_law_563 : decode b_lw_law 563 = .ok (.aload_n 0, 1) := by decide +kernel
theorem d_lw_law_564 : decode b_lw_law 564 = .ok (.iload 4, 2) := by decide +kernel
theorem d_lw_law_566 : decode b_lw_law 566 = .ok (.iconst 4, 1) := by decide +kernel
theorem d_lw_law_567 : decode b_lw_law 567 = .ok (.iadd, 1) := by decide +kernel
theorem d_lw_law_568 : decode b_lw_law 568 = .ok (.iaload, 1) := by decide +kernel
theorem d_lw_law_569 : decode b_lw_law 569 = .ok (.aload_n 3, 1) := by decide +kernel
theorem d_lw_law_570 : decode b_lw_law 570 = .ok (.invokestatic 118, 3) := by decide +kernel
theorem d_lw_law_573 : decode b_lw_law 573 = .ok (.istore 5, 2) := by decide +kernel
theorem d_lw_law_575 : decode b_lw_law 575 = .ok (.aload_n 2, 1) := by decide +kernel
theorem d_lw_law_576 : decode b_lw_law 576 = .ok (.aload_n 0, 1) := by decide +kernel
theorem d_lw_law_577 : decode b_lw_law 577 = .ok (.iload 4, 2) := by decide +kernel
theorem d_lw_law_579 : decode b_lw_law 579 = .ok (.iconst 1, 1) := by decide +kernel
theorem d_lw_law_580 : decode b_lw_law 580 = .ok (.iadd, 1) := by decide +kernel
theorem d_lw_law_581 : decode b_lw_law 581 = .ok (.iaload, 1) := by decide +kernel
theorem d_lw_law_582 : decode b_lw_law 582 = .ok (.aload_n 0, 1) := by decide +kernel
theorem d_lw_law_583 : decode b_lw_law 583 = .ok (.iload 4, 2) := by decide +kernel
theorem d_lw_law_585 : decode b_lw_law 585 = .ok (.iconst 2, 1) := by decide +kernel
theorem d_lw_law_586 : decode b_lw_law 586 = .ok (.iadd, 1) := by decide +kernel
theorem d_lw_law_587 : decode b_lw_law 587 = .ok (.iaload, 1) := by decide +kernel
theorem d_lw_law_588 : decode b_lw_law 588 = .ok (.i2l, 1) := by decide +kernel
theorem d_lw_law_589 : decode b_lw_law 589 = .ok (.bipush 32, 2) := by decide +kernel
theorem d_lw_law_591 : decode b_lw_law 591 = .ok (.lshl, 1) := by decide +kernel
theorem d_lw_law_592 : decode b_lw_law 592 = .ok (.aload_n 0, 1) := by decide +kernel
theorem d_lw_law_593 : decode b_lw_law 593 = .ok (.iload 4, 2) := by decide +kernel
theorem d_lw_law_595 : decode b_lw_law 595 = .ok (.iconst 3, 1) := by decide +kernel
theorem d_lw_law_596 : decode b_lw_law 596 = .ok (.iadd, 1) := by decide +kernel
theorem d_lw_law_597 : decode b_lw_law 597 = .ok (.iaload, 1) := by decide +kernel
theorem d_lw_law_598 : decode b_lw_law 598 = .ok (.i2l, 1) := by decide +kernel
theorem d_lw_law_599 : decode b_lw_law 599 = .ok (.ldc2_w 75, 3) := by decide +kernel
theorem d_lw_law_602 : decode b_lw_law 602 = .ok (.land, 1) := by decide +kernel
theorem d_lw_law_603 : decode b_lw_law 603 = .ok (.lor, 1) := by decide +kernel
theorem d_lw_law_604 : decode b_lw_law 604 = .ok (.aload_n 0, 1) := by decide +kernel
theorem d_lw_law_605 : decode b_lw_law 605 = .ok (.iload 4, 2) := by decide +kernel
theorem d_lw_law_607 : decode b_lw_law 607 = .ok (.iconst 4, 1) := by decide +kernel
theorem d_lw_law_608 : decode b_lw_law 608 = .ok (.iadd, 1) := by decide +kernel
theorem d_lw_law_609 : decode b_lw_law 609 = .ok (.iaload, 1) := by decide +kernel
theorem d_lw_law_610 : decode b_lw_law 610 = .ok (.invokevirtual 121, 3) := by decide +kernel
theorem d_lw_law_613 : decode b_lw_law 613 = .ok (.istore 6, 2) := by decide +kernel
theorem d_lw_law_615 : decode b_lw_law 615 = .ok (.goto 219, 3) := by decide +kernel
theorem d_lw_law_618 : decode b_lw_law 618 = .ok (.aload_n 1, 1) := by decide +kernel
theorem d_lw_law_619 : decode b_lw_law 619 = .ok (.aload_n 0, 1) := by decide +kernel
theorem d_lw_law_620 : decode b_lw_law 620 = .ok (.iload 4, 2) := by decide +kernel
theorem d_lw_law_622 : decode b_lw_law 622 = .ok (.iconst 1, 1) := by decide +kernel
theorem d_lw_law_623 : decode b_lw_law 623 = .ok (.iadd, 1) := by decide +kernel
theorem d_lw_law_624 : decode b_lw_law 624 = .ok (.iaload, 1) := by decide +kernel
theorem d_lw_law_625 : decode b_lw_law 625 = .ok (.aload_n 0, 1) := by decide +kernel
theorem d_lw_law_626 : decode b_lw_law 626 = .ok (.iload 4, 2) := by decide +kernel
theorem d_lw_law_628 : decode b_lw_law 628 = .ok (.iconst 2, 1) := by decide +kernel
theorem d_lw_law_629 : decode b_lw_law 629 = .ok (.iadd, 1) := by decide +kernel
theorem d_lw_law_630 : decode b_lw_law 630 = .ok (.iaload, 1) := by decide +kernel
theorem d_lw_law_631 : decode b_lw_law 631 = .ok (.aload_n 3, 1) := by decide +kernel
theorem d_lw_law_632 : decode b_lw_law 632 = .ok (.invokestatic 122, 3) := by decide +kernel
theorem d_lw_law_635 : decode b_lw_law 635 = .ok (.istore 5, 2) := by decide +kernel
theorem d_lw_law_637 : decode b_lw_law 637 = .ok (.aload_n 2, 1) := by decide +kernel
theorem d_lw_law_638 : decode b_lw_law 638 = .ok (.aload_n 0, 1) := by decide +kernel
theorem d_lw_law_639 : decode b_lw_law 639 = .ok (.iload 4, 2) := by decide +kernel
theorem d_lw_law_641 : decode b_lw_law 641 = .ok (.iconst 1, 1) := by decide +kernel
theorem d_lw_law_642 : decode b_lw_law 642 = .ok (.iadd, 1) := by decide +kernel
theorem d_lw_law_643 : decode b_lw_law 643 = .ok (.iaload, 1) := by decide +kernel
theorem d_lw_law_644 : decode b_lw_law 644 = .ok (.aload_n 0, 1) := by decide +kernel
theorem d_lw_law_645 : decode b_lw_law 645 = .ok (.iload 4, 2) := by decide +kernel
theorem d_lw_law_647 : decode b_lw_law 647 = .ok (.iconst 2, 1) := by decide +kernel
theorem d_lw_law_648 : decode b_lw_law 648 = .ok (.iadd, 1) := by decide +kernel
theorem d_lw_law_649 : decode b_lw_law 649 = .ok (.iaload, 1) := by decide +kernel
theorem d_lw_law_650 : decode b_lw_law 650 = .ok (.invokevirtual 124, 3) := by decide +kernel
theorem d_lw_law_653 : decode b_lw_law 653 = .ok (.lstore 6, 2) := by decide +kernel
theorem d_lw_law_655 : decode b_lw_law 655 = .ok (.goto 179, 3) := by decide +kernel
theorem d_lw_law_658 : decode b_lw_law 658 = .ok (.aload_n 1, 1) := by decide +kernel
theorem d_lw_law_659 : decode b_lw_law 659 = .ok (.aload_n 0, 1) := by decide +kernel
theorem d_lw_law_660 : decode b_lw_law 660 = .ok (.iload 4, 2) := by decide +kernel
theorem d_lw_law_662 : decode b_lw_law 662 = .ok (.iconst 1, 1) := by decide +kernel
theorem d_lw_law_663 : decode b_lw_law 663 = .ok (.iadd, 1) := by decide +kernel
theorem d_lw_law_664 : decode b_lw_law 664 = .ok (.iaload, 1) := by decide +kernel
theorem d_lw_law_665 : decode b_lw_law 665 = .ok (.aload_n 0, 1) := by decide +kernel
theorem d_lw_law_666 : decode b_lw_law 666 = .ok (.iload 4, 2) := by decide +kernel
theorem d_lw_law_668 : decode b_lw_law 668 = .ok (.iconst 2, 1) := by decide +kernel
theorem d_lw_law_669 : decode b_lw_law 669 = .ok (.iadd, 1) := by decide +kernel
theorem d_lw_law_670 : decode b_lw_law 670 = .ok (.iaload, 1) := by decide +kernel
theorem d_lw_law_671 : decode b_lw_law 671 = .ok (.aload_n 3, 1) := by decide +kernel
theorem d_lw_law_672 : decode b_lw_law 672 = .ok (.invokestatic 125, 3) := by decide +kernel
theorem d_lw_law_675 : decode b_lw_law 675 = .ok (.istore 5, 2) := by decide +kernel
theorem d_lw_law_677 : decode b_lw_law 677 = .ok (.aload_n 2, 1) := by decide +kernel
theorem d_lw_law_678 : decode b_lw_law 678 = .ok (.aload_n 0, 1) := by decide +kernel
theorem d_lw_law_679 : decode b_lw_law 679 = .ok (.iload 4, 2) := by decide +kernel
theorem d_lw_law_681 : decode b_lw_law 681 = .ok (.iconst 1, 1) := by decide +kernel
theorem d_lw_law_682 : decode b_lw_law 682 = .ok (.iadd, 1) := by decide +kernel
theorem d_lw_law_683 : decode b_lw_law 683 = .ok (.iaload, 1) := by decide +kernel
theorem d_lw_law_684 : decode b_lw_law 684 = .ok (.aload_n 0, 1) := by decide +kernel
theorem d_lw_law_685 : decode b_lw_law 685 = .ok (.iload 4, 2) := by decide +kernel
theorem d_lw_law_687 : decode b_lw_law 687 = .ok (.iconst 2, 1) := by decide +kernel
theorem d_lw_law_688 : decode b_lw_law 688 = .ok (.iadd, 1) := by decide +kernel
theorem d_lw_law_689 : decode b_lw_law 689 = .ok (.iaload, 1) := by decide +kernel
theorem d_lw_law_690 : decode b_lw_law 690 = .ok (.invokevirtual 127, 3) := by decide +kernel
theorem d_lw_law_693 : decode b_lw_law 693 = .ok (.lstore 6, 2) := by decide +kernel
theorem d_lw_law_695 : decode b_lw_law 695 = .ok (.goto 139, 3) := by decide +kernel
theorem d_lw_law_698 : decode b_lw_law 698 = .ok (.aload_n 1, 1) := by decide +kernel
theorem d_lw_law_699 : decode b_lw_law 699 = .ok (.aload_n 0, 1) := by decide +kernel
theorem d_lw_law_700 : decode b_lw_law 700 = .ok (.iload 4, 2) := by decide +kernel
theorem d_lw_law_702 : decode b_lw_law 702 = .ok (.iconst 1, 1) := by decide +kernel
theorem d_lw_law_703 : decode b_lw_law 703 = .ok (.iadd, 1) := by decide +kernel
theorem d_lw_law_704 : decode b_lw_law 704 = .ok (.iaload, 1) := by decide +kernel
theorem d_lw_law_705 : decode b_lw_law 705 = .ok (.aload_n 0, 1) := by decide +kernel
theorem d_lw_law_706 : decode b_lw_law 706 = .ok (.iload 4, 2) := by decide +kernel
theorem d_lw_law_708 : decode b_lw_law 708 = .ok (.iconst 2, 1) := by decide +kernel
theorem d_lw_law_709 : decode b_lw_law 709 = .ok (.iadd, 1) := by decide +kernel
theorem d_lw_law_710 : decode b_lw_law 710 = .ok (.iaload, 1) := by decide +kernel
theorem d_lw_law_711 : decode b_lw_law 711 = .ok (.aload_n 3, 1) := by decide +kernel
theorem d_lw_law_712 : decode b_lw_law 712 = .ok (.invokestatic 128, 3) := by decide +kernel
theorem d_lw_law_715 : decode b_lw_law 715 = .ok (.istore 5, 2) := by decide +kernel
theorem d_lw_law_717 : decode b_lw_law 717 = .ok (.aload_n 2, 1) := by decide +kernel
theorem d_lw_law_718 : decode b_lw_law 718 = .ok (.aload_n 0, 1) := by decide +kernel
theorem d_lw_law_719 : decode b_lw_law 719 = .ok (.iload 4, 2) := by decide +kernel
theorem d_lw_law_721 : decode b_lw_law 721 = .ok (.iconst 1, 1) := by decide +kernel
theorem d_lw_law_722 : decode b_lw_law 722 = .ok (.iadd, 1) := by decide +kernel
theorem d_lw_law_723 : decode b_lw_law 723 = .ok (.iaload, 1) := by decide +kernel
theorem d_lw_law_724 : decode b_lw_law 724 = .ok (.aload_n 0, 1) := by decide +kernel
theorem d_lw_law_725 : decode b_lw_law 725 = .ok (.iload 4, 2) := by decide +kernel
theorem d_lw_law_727 : decode b_lw_law 727 = .ok (.iconst 2, 1) := by decide +kernel
theorem d_lw_law_728 : decode b_lw_law 728 = .ok (.iadd, 1) := by decide +kernel
theorem d_lw_law_729 : decode b_lw_law 729 = .ok (.iaload, 1) := by decide +kernel
theorem d_lw_law_730 : decode b_lw_law 730 = .ok (.invokevirtual 130, 3) := by decide +kernel
theorem d_lw_law_733 : decode b_lw_law 733 = .ok (.lstore 6, 2) := by decide +kernel
theorem d_lw_law_735 : decode b_lw_law 735 = .ok (.goto 99, 3) := by decide +kernel
theorem d_lw_law_738 : decode b_lw_law 738 = .ok (.aload_n 1, 1) := by decide +kernel
theorem d_lw_law_739 : decode b_lw_law 739 = .ok (.aload_n 0, 1) := by decide +kernel
theorem d_lw_law_740 : decode b_lw_law 740 = .ok (.iload 4, 2) := by decide +kernel
theorem d_lw_law_742 : decode b_lw_law 742 = .ok (.iconst 1, 1) := by decide +kernel
theorem d_lw_law_743 : decode b_lw_law 743 = .ok (.iadd, 1) := by decide +kernel
theorem d_lw_law_744 : decode b_lw_law 744 = .ok (.iaload, 1) := by decide +kernel
theorem d_lw_law_745 : decode b_lw_law 745 = .ok (.aload_n 3, 1) := by decide +kernel
theorem d_lw_law_746 : decode b_lw_law 746 = .ok (.invokestatic 131, 3) := by decide +kernel
theorem d_lw_law_749 : decode b_lw_law 749 = .ok (.istore 5, 2) := by decide +kernel
theorem d_lw_law_751 : decode b_lw_law 751 = .ok (.aload_n 2, 1) := by decide +kernel
theorem d_lw_law_752 : decode b_lw_law 752 = .ok (.aload_n 0, 1) := by decide +kernel
theorem d_lw_law_753 : decode b_lw_law 753 = .ok (.iload 4, 2) := by decide +kernel
theorem d_lw_law_755 : decode b_lw_law 755 = .ok (.iconst 1, 1) := by decide +kernel
theorem d_lw_law_756 : decode b_lw_law 756 = .ok (.iadd, 1) := by decide +kernel
theorem d_lw_law_757 : decode b_lw_law 757 = .ok (.iaload, 1) := by decide +kernel
theorem d_lw_law_758 : decode b_lw_law 758 = .ok (.invokevirtual 133, 3) := by decide +kernel
theorem d_lw_law_761 : decode b_lw_law 761 = .ok (.lstore 6, 2) := by decide +kernel
theorem d_lw_law_763 : decode b_lw_law 763 = .ok (.goto 71, 3) := by decide +kernel
theorem d_lw_law_766 : decode b_lw_law 766 = .ok (.aload_n 1, 1) := by decide +kernel
theorem d_lw_law_767 : decode b_lw_law 767 = .ok (.aload_n 0, 1) := by decide +kernel
theorem d_lw_law_768 : decode b_lw_law 768 = .ok (.iload 4, 2) := by decide +kernel
theorem d_lw_law_770 : decode b_lw_law 770 = .ok (.iconst 1, 1) := by decide +kernel
theorem d_lw_law_771 : decode b_lw_law 771 = .ok (.iadd, 1) := by decide +kernel
theorem d_lw_law_772 : decode b_lw_law 772 = .ok (.iaload, 1) := by decide +kernel
theorem d_lw_law_773 : decode b_lw_law 773 = .ok (.aload_n 0, 1) := by decide +kernel
theorem d_lw_law_774 : decode b_lw_law 774 = .ok (.iload 4, 2) := by decide +kernel
theorem d_lw_law_776 : decode b_lw_law 776 = .ok (.iconst 2, 1) := by decide +kernel
theorem d_lw_law_777 : decode b_lw_law 777 = .ok (.iadd, 1) := by decide +kernel
theorem d_lw_law_778 : decode b_lw_law 778 = .ok (.iaload, 1) := by decide +kernel
theorem d_lw_law_779 : decode b_lw_law 779 = .ok (.aload_n 3, 1) := by decide +kernel
theorem d_lw_law_780 : decode b_lw_law 780 = .ok (.invokestatic 134, 3) := by decide +kernel
theorem d_lw_law_783 : decode b_lw_law 783 = .ok (.istore 5, 2) := by decide +kernel
theorem d_lw_law_785 : decode b_lw_law 785 = .ok (.aload_n 2, 1) := by decide +kernel
theorem d_lw_law_786 : decode b_lw_law 786 = .ok (.aload_n 0, 1) := by decide +kernel
theorem d_lw_law_787 : decode b_lw_law 787 = .ok (.iload 4, 2) := by decide +kernel
theorem d_lw_law_789 : decode b_lw_law 789 = .ok (.iconst 1, 1) := by decide +kernel
theorem d_lw_law_790 : decode b_lw_law 790 = .ok (.iadd, 1) := by decide +kernel
theorem d_lw_law_791 : decode b_lw_law 791 = .ok (.iaload, 1) := by decide +kernel
theorem d_lw_law_792 : decode b_lw_law 792 = .ok (.aload_n 0, 1) := by decide +kernel
theorem d_lw_law_793 : decode b_lw_law 793 = .ok (.iload 4, 2) := by decide +kernel
theorem d_lw_law_795 : decode b_lw_law 795 = .ok (.iconst 2, 1) := by decide +kernel
theorem d_lw_law_796 : decode b_lw_law 796 = .ok (.iadd, 1) := by decide +kernel
theorem d_lw_law_797 : decode b_lw_law 797 = .ok (.iaload, 1) := by decide +kernel
theorem d_lw_law_798 : decode b_lw_law 798 = .ok (.invokevirtual 136, 3) := by decide +kernel
theorem d_lw_law_801 : decode b_lw_law 801 = .ok (.istore 6, 2) := by decide +kernel
theorem d_lw_law_803 : decode b_lw_law 803 = .ok (.goto 31, 3) := by decide +kernel
theorem d_lw_law_806 : decode b_lw_law 806 = .ok (.aload_n 1, 1) := by decide +kernel
theorem d_lw_law_807 : decode b_lw_law 807 = .ok (.aload_n 0, 1) := by decide +kernel
theorem d_lw_law_808 : decode b_lw_law 808 = .ok (.iload 4, 2) := by decide +kernel
theorem d_lw_law_810 : decode b_lw_law 810 = .ok (.iconst 1, 1) := by decide +kernel
theorem d_lw_law_811 : decode b_lw_law 811 = .ok (.iadd, 1) := by decide +kernel
theorem d_lw_law_812 : decode b_lw_law 812 = .ok (.iaload, 1) := by decide +kernel
theorem d_lw_law_813 : decode b_lw_law 813 = .ok (.aload_n 3, 1) := by decide +kernel
theorem d_lw_law_814 : decode b_lw_law 814 = .ok (.invokestatic 137, 3) := by decide +kernel
theorem d_lw_law_817 : decode b_lw_law 817 = .ok (.istore 5, 2) := by decide +kernel
theorem d_lw_law_819 : decode b_lw_law 819 = .ok (.aload_n 2, 1) := by decide +kernel
theorem d_lw_law_820 : decode b_lw_law 820 = .ok (.aload_n 0, 1) := by decide +kernel
theorem d_lw_law_821 : decode b_lw_law 821 = .ok (.iload 4, 2) := by decide +kernel
theorem d_lw_law_823 : decode b_lw_law 823 = .ok (.iconst 1, 1) := by decide +kernel
theorem d_lw_law_824 : decode b_lw_law 824 = .ok (.iadd, 1) := by decide +kernel
theorem d_lw_law_825 : decode b_lw_law 825 = .ok (.iaload, 1) := by decide +kernel
theorem d_lw_law_826 : decode b_lw_law 826 = .ok (.invokevirtual 139, 3) := by decide +kernel
theorem d_lw_law_829 : decode b_lw_law 829 = .ok (.istore 6, 2) := by decide +kernel
theorem d_lw_law_831 : decode b_lw_law 831 = .ok (.goto 3, 3) := by decide +kernel
theorem d_lw_law_834 : decode b_lw_law 834 = .ok (.iinc 4 5, 3) := by decide +kernel
theorem d_lw_law_837 : decode b_lw_law 837 = .ok (.goto (-814), 3) := by decide +kernel
theorem d_lw_law_840 : decode b_lw_law 840 = .ok (.iconst 1, 1) := by decide +kernel
theorem d_lw_law_841 : decode b_lw_law 841 = .ok (.ireturn, 1) := by decide +kernel
