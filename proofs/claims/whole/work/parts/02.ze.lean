theorem d_lw_text_0 : decode b_lw_text 0 = .ok (.aload_n 3, 1) := by decide +kernel
theorem d_lw_text_1 : decode b_lw_text 1 = .ok (.iconst 0, 1) := by decide +kernel
theorem d_lw_text_2 : decode b_lw_text 2 = .ok (.aload_n 0, 1) := by decide +kernel
theorem d_lw_text_3 : decode b_lw_text 3 = .ok (.lload_n 1, 1) := by decide +kernel
theorem d_lw_text_4 : decode b_lw_text 4 = .ok (.invokevirtual 7, 3) := by decide +kernel
theorem d_lw_text_7 : decode b_lw_text 7 = .ok (.i2l, 1) := by decide +kernel
theorem d_lw_text_8 : decode b_lw_text 8 = .ok (.lastore, 1) := by decide +kernel
theorem d_lw_text_9 : decode b_lw_text 9 = .ok (.goto 11, 3) := by decide +kernel
theorem d_lw_text_12 : decode b_lw_text 12 = .ok (.astore 4, 2) := by decide +kernel
theorem d_lw_text_14 : decode b_lw_text 14 = .ok (.iconst 1, 1) := by decide +kernel
theorem d_lw_text_15 : decode b_lw_text 15 = .ok (.ireturn, 1) := by decide +kernel
theorem d_lw_text_16 : decode b_lw_text 16 = .ok (.astore 4, 2) := by decide +kernel
theorem d_lw_text_18 : decode b_lw_text 18 = .ok (.iconst 2, 1) := by decide +kernel
theorem d_lw_text_19 : decode b_lw_text 19 = .ok (.ireturn, 1) := by decide +kernel
theorem d_lw_text_20 : decode b_lw_text 20 = .ok (.iconst 0, 1) := by decide +kernel
theorem d_lw_text_21 : decode b_lw_text 21 = .ok (.ireturn, 1) := by decide +kernel
theorem d_lw_tariff_0 : decode b_lw_tariff 0 = .ok (.aload_n 2, 1) := by decide +kernel
theorem d_lw_tariff_1 : decode b_lw_tariff 1 = .ok (.iconst 0, 1) := by decide +kernel
theorem d_lw_tariff_2 : decode b_lw_tariff 2 = .ok (.aload_n 0, 1) := by decide +kernel
theorem d_lw_tariff_3 : decode b_lw_tariff 3 = .ok (.iload_n 1, 1) := by decide +kernel
theorem d_lw_tariff_4 : decode b_lw_tariff 4 = .ok (.invokevirtual 17, 3) := by decide +kernel
theorem d_lw_tariff_7 : decode b_lw_tariff 7 = .ok (.i2l, 1) := by decide +kernel
theorem d_lw_tariff_8 : decode b_lw_tariff 8 = .ok (.lastore, 1) := by decide +kernel
theorem d_lw_tariff_9 : decode b_lw_tariff 9 = .ok (.goto 6, 3) := by decide +kernel
theorem d_lw_tariff_12 : decode b_lw_tariff 12 = .ok (.astore_n 3, 1) := by decide +kernel
theorem d_lw_tariff_13 : decode b_lw_tariff 13 = .ok (.iconst 1, 1) := by decide +kernel
theorem d_lw_tariff_14 : decode b_lw_tariff 14 = .ok (.ireturn, 1) := by decide +kernel
theorem d_lw_tariff_15 : decode b_lw_tariff 15 = .ok (.iconst 0, 1) := by decide +kernel
theorem d_lw_tariff_16 : decode b_lw_tariff 16 = .ok (.ireturn, 1) := by decide +kernel
theorem d_lw_use_0 : decode b_lw_use 0 = .ok (.aload_n 3, 1) := by decide +kernel
theorem d_lw_use_1 : decode b_lw_use 1 = .ok (.iconst 0, 1) := by decide +kernel
theorem d_lw_use_2 : decode b_lw_use 2 = .ok (.aload_n 0, 1) := by decide +kernel
theorem d_lw_use_3 : decode b_lw_use 3 = .ok (.iload_n 1, 1) := by decide +kernel
theorem d_lw_use_4 : decode b_lw_use 4 = .ok (.iload_n 2, 1) := by decide +kernel
theorem d_lw_use_5 : decode b_lw_use 5 = .ok (.invokevirtual 21, 3) := by decide +kernel
theorem d_lw_use_8 : decode b_lw_use 8 = .ok (.lastore, 1) := by decide +kernel
theorem d_lw_use_9 : decode b_lw_use 9 = .ok (.goto 7, 3) := by decide +kernel
theorem d_lw_use_12 : decode b_lw_use 12 = .ok (.astore 4, 2) := by decide +kernel
theorem d_lw_use_14 : decode b_lw_use 14 = .ok (.iconst 1, 1) := by decide +kernel
theorem d_lw_use_15 : decode b_lw_use 15 = .ok (.ireturn, 1) := by decide +kernel
theorem d_lw_use_16 : decode b_lw_use 16 = .ok (.iconst 0, 1) := by decide +kernel
theorem d_lw_use_17 : decode b_lw_use 17 = .ok (.ireturn, 1) := by decide +kernel
theorem d_lw_subscribe_0 : decode b_lw_subscribe 0 = .ok (.aload_n 3, 1) := by decide +kernel
theorem d_lw_subscribe_1 : decode b_lw_subscribe 1 = .ok (.iconst 0, 1) := by decide +kernel
theorem d_lw_subscribe_2 : decode b_lw_subscribe 2 = .ok (.aload_n 0, 1) := by decide +kernel
theorem d_lw_subscribe_3 : decode b_lw_subscribe 3 = .ok (.iload_n 1, 1) := by decide +kernel
theorem d_lw_subscribe_4 : decode b_lw_subscribe 4 = .ok (.iload_n 2, 1) := by decide +kernel
theorem d_lw_subscribe_5 : decode b_lw_subscribe 5 = .ok (.invokevirtual 25, 3) := by decide +kernel
theorem d_lw_subscribe_8 : decode b_lw_subscribe 8 = .ok (.i2l, 1) := by decide +kernel
theorem d_lw_subscribe_9 : decode b_lw_subscribe 9 = .ok (.lastore, 1) := by decide +kernel
theorem d_lw_subscribe_10 : decode b_lw_subscribe 10 = .ok (.goto 7, 3) := by decide +kernel
theorem d_lw_subscribe_13 : decode b_lw_subscribe 13 = .ok (.astore 4, 2) := by decide +kernel
theorem d_lw_subscribe_15 : decode b_lw_subscribe 15 = .ok (.iconst 1, 1) := by decide +kernel
theorem d_lw_subscribe_16 : decode b_lw_subscribe 16 = .ok (.ireturn, 1) := by decide +kernel
theorem d_lw_subscribe_17 : decode b_lw_subscribe 17 = .ok (.iconst 0, 1) := by decide +kernel
theorem d_lw_subscribe_18 : decode b_lw_subscribe 18 = .ok (.ireturn, 1) := by decide +kernel
theorem d_lw_pause_0 : decode b_lw_pause 0 = .ok (.aload_n 3, 1) := by decide +kernel
theorem d_lw_pause_1 : decode b_lw_pause 1 = .ok (.iconst 0, 1) := by decide +kernel
theorem d_lw_pause_2 : decode b_lw_pause 2 = .ok (.aload_n 0, 1) := by decide +kernel
theorem d_lw_pause_3 : decode b_lw_pause 3 = .ok (.iload_n 1, 1) := by decide +kernel
theorem d_lw_pause_4 : decode b_lw_pause 4 = .ok (.iload_n 2, 1) := by decide +kernel
theorem d_lw_pause_5 : decode b_lw_pause 5 = .ok (.invokevirtual 29, 3) := by decide +kernel
theorem d_lw_pause_8 : decode b_lw_pause 8 = .ok (.ifCond .eq 7, 3) := by decide +kernel
theorem d_lw_pause_11 : decode b_lw_pause 11 = .ok (.lconst 1, 1) := by decide +kernel
theorem d_lw_pause_12 : decode b_lw_pause 12 = .ok (.goto 4, 3) := by decide +kernel
theorem d_lw_pause_15 : decode b_lw_pause 15 = .ok (.lconst 0, 1) := by decide +kernel
theorem d_lw_pause_16 : decode b_lw_pause 16 = .ok (.lastore, 1) := by decide +kernel
theorem d_lw_pause_17 : decode b_lw_pause 17 = .ok (.goto 11, 3) := by decide +kernel
theorem d_lw_pause_20 : decode b_lw_pause 20 = .ok (.astore 4, 2) := by decide +kernel
theorem d_lw_pause_22 : decode b_lw_pause 22 = .ok (.iconst 1, 1) := by decide +kernel
theorem d_lw_pause_23 : decode b_lw_pause 23 = .ok (.ireturn, 1) := by decide +kernel
theorem d_lw_pause_24 : decode b_lw_pause 24 = .ok (.astore 4, 2) := by decide +kernel
theorem d_lw_pause_26 : decode b_lw_pause 26 = .ok (.iconst 2, 1) := by decide +kernel
theorem d_lw_pause_27 : decode b_lw_pause 27 = .ok (.ireturn, 1) := by decide +kernel
theorem d_lw_pause_28 : decode b_lw_pause 28 = .ok (.iconst 0, 1) := by decide +kernel
theorem d_lw_pause_29 : decode b_lw_pause 29 = .ok (.ireturn, 1) := by decide +kernel
theorem d_lw_event_0 : decode b_lw_event 0 = .ok (.aload 5, 2) := by decide +kernel
theorem d_lw_event_2 : decode b_lw_event 2 = .ok (.iconst 0, 1) := by decide +kernel
theorem d_lw_event_3 : decode b_lw_event 3 = .ok (.aload_n 0, 1) := by decide +kernel
theorem d_lw_event_4 : decode b_lw_event 4 = .ok (.iload_n 1, 1) := by decide +kernel
theorem d_lw_event_5 : decode b_lw_event 5 = .ok (.iload_n 2, 1) := by decide +kernel
theorem d_lw_event_6 : decode b_lw_event 6 = .ok (.iload_n 3, 1) := by decide +kernel
theorem d_lw_event_7 : decode b_lw_event 7 = .ok (.iload 4, 2) := by decide +kernel
theorem d_lw_event_9 : decode b_lw_event 9 = .ok (.invokevirtual 33, 3) := by decide +kernel
theorem d_lw_event_12 : decode b_lw_event 12 = .ok (.i2l, 1) := by decide +kernel
theorem d_lw_event_13 : decode b_lw_event 13 = .ok (.lastore, 1) := by decide +kernel
theorem d_lw_event_14 : decode b_lw_event 14 = .ok (.goto 15, 3) := by decide +kernel
theorem d_lw_event_17 : decode b_lw_event 17 = .ok (.astore 6, 2) := by decide +kernel
theorem d_lw_event_19 : decode b_lw_event 19 = .ok (.iconst 1, 1) := by decide +kernel
theorem d_lw_event_20 : decode b_lw_event 20 = .ok (.ireturn, 1) := by decide +kernel
theorem d_lw_event_21 : decode b_lw_event 21 = .ok (.astore 6, 2) := by decide +kernel
theorem d_lw_event_23 : decode b_lw_event 23 = .ok (.iconst 2, 1) := by decide +kernel
theorem d_lw_event_24 : decode b_lw_event 24 = .ok (.ireturn, 1) := by decide +kernel
theorem d_lw_event_25 : decode b_lw_event 25 = .ok (.astore 6, 2) := by decide +kernel
theorem d_lw_event_27 : decode b_lw_event 27 = .ok (.iconst 3, 1) := by decide +kernel
theorem d_lw_event_28 : decode b_lw_event 28 = .ok (.ireturn, 1) := by decide +kernel
theorem d_lw_event_29 : decode b_lw_event 29 = .ok (.iconst 0, 1) := by decide +kernel
theorem d_lw_event_30 : decode b_lw_event 30 = .ok (.ireturn, 1) := by decide +kernel
theorem d_lw_tick_0 : decode b_lw_tick 0 = .ok (.aload_n 2, 1) := by decide +kernel
theorem d_lw_tick_1 : decode b_lw_tick 1 = .ok (.iconst 0, 1) := by decide +kernel
theorem d_lw_tick_2 : decode b_lw_tick 2 = .ok (.aload_n 0, 1) := by decide +kernel
theorem d_lw_tick_3 : decode b_lw_tick 3 = .ok (.iload_n 1, 1) := by decide +kernel
theorem d_lw_tick_4 : decode b_lw_tick 4 = .ok (.invokevirtual 39, 3) := by decide +kernel
theorem d_lw_tick_7 : decode b_lw_tick 7 = .ok (.i2l, 1) := by decide +kernel
theorem d_lw_tick_8 : decode b_lw_tick 8 = .ok (.lastore, 1) := by decide +kernel
theorem d_lw_tick_9 : decode b_lw_tick 9 = .ok (.goto 9, 3) := by decide +kernel
theorem d_lw_tick_12 : decode b_lw_tick 12 = .ok (.astore_n 3, 1) := by decide +kernel
theorem d_lw_tick_13 : decode b_lw_tick 13 = .ok (.iconst 1, 1) := by decide +kernel
theorem d_lw_tick_14 : decode b_lw_tick 14 = .ok (.ireturn, 1) := by decide +kernel
theorem d_lw_tick_15 : decode b_lw_tick 15 = .ok (.astore_n 3, 1) := by decide +kernel
theorem d_lw_tick_16 : decode b_lw_tick 16 = .ok (.iconst 2, 1) := by decide +kernel
theorem d_lw_tick_17 : decode b_lw_tick 17 = .ok (.ireturn, 1) := by decide +kernel
theorem d_lw_tick_18 : decode b_lw_tick 18 = .ok (.iconst 0, 1) := by decide +kernel
theorem d_lw_tick_19 : decode b_lw_tick 19 = .ok (.ireturn, 1) := by decide +kernel
theorem d_lw_pay_0 : decode b_lw_pay 0 = .ok (.aload 4, 2) := by decide +kernel
theorem d_lw_pay_2 : decode b_lw_pay 2 = .ok (.iconst 0, 1) := by decide +kernel
theorem d_lw_pay_3 : decode b_lw_pay 3 = .ok (.aload_n 0, 1) := by decide +kernel
theorem d_lw_pay_4 : decode b_lw_pay 4 = .ok (.iload_n 1, 1) := by decide +kernel
theorem d_lw_pay_5 : decode b_lw_pay 5 = .ok (.lload_n 2, 1) := by decide +kernel
theorem d_lw_pay_6 : decode b_lw_pay 6 = .ok (.invokevirtual 42, 3) := by decide +kernel
theorem d_lw_pay_9 : decode b_lw_pay 9 = .ok (.lastore, 1) := by decide +kernel
theorem d_lw_pay_10 : decode b_lw_pay 10 = .ok (.goto 7, 3) := by decide +kernel
theorem d_lw_pay_13 : decode b_lw_pay 13 = .ok (.astore 5, 2) := by decide +kernel
theorem d_lw_pay_15 : decode b_lw_pay 15 = .ok (.iconst 1, 1) := by decide +kernel
theorem d_lw_pay_16 : decode b_lw_pay 16 = .ok (.ireturn, 1) := by decide +kernel
theorem d_lw_pay_17 : decode b_lw_pay 17 = .ok (.iconst 0, 1) := by decide +kernel
theorem d_lw_pay_18 : decode b_lw_pay 18 = .ok (.ireturn, 1) := by decide +kernel
theorem d_lw_plan_0 : decode b_lw_plan 0 = .ok (.aload 5, 2) := by decide +kernel
theorem d_lw_plan_2 : decode b_lw_plan 2 = .ok (.iconst 0, 1) := by decide +kernel
theorem d_lw_plan_3 : decode b_lw_plan 3 = .ok (.aload_n 0, 1) := by decide +kernel
theorem d_lw_plan_4 : decode b_lw_plan 4 = .ok (.iload_n 1, 1) := by decide +kernel
theorem d_lw_plan_5 : decode b_lw_plan 5 = .ok (.lload_n 2, 1) := by decide +kernel
theorem d_lw_plan_6 : decode b_lw_plan 6 = .ok (.iload 4, 2) := by decide +kernel
theorem d_lw_plan_8 : decode b_lw_plan 8 = .ok (.invokevirtual 46, 3) := by decide +kernel
theorem d_lw_plan_11 : decode b_lw_plan 11 = .ok (.i2l, 1) := by decide +kernel
theorem d_lw_plan_12 : decode b_lw_plan 12 = .ok (.lastore, 1) := by decide +kernel
theorem d_lw_plan_13 : decode b_lw_plan 13 = .ok (.goto 11, 3) := by decide +kernel
theorem d_lw_plan_16 : decode b_lw_plan 16 = .ok (.astore 6, 2) := by decide +kernel
theorem d_lw_plan_18 : decode b_lw_plan 18 = .ok (.iconst 1, 1) := by decide +kernel
theorem d_lw_plan_19 : decode b_lw_plan 19 = .ok (.ireturn, 1) := by decide +kernel
theorem d_lw_plan_20 : decode b_lw_plan 20 = .ok (.astore 6, 2) := by decide +kernel
theorem d_lw_plan_22 : decode b_lw_plan 22 = .ok (.iconst 2, 1) := by decide +kernel
theorem d_lw_plan_23 : decode b_lw_plan 23 = .ok (.ireturn, 1) := by decide +kernel
theorem d_lw_plan_24 : decode b_lw_plan 24 = .ok (.iconst 0, 1) := by decide +kernel
theorem d_lw_plan_25 : decode b_lw_plan 25 = .ok (.ireturn, 1) := by decide +kernel
theorem d_lw_charge_0 : decode b_lw_charge 0 = .ok (.aload_n 3, 1) := by decide +kernel
theorem d_lw_charge_1 : decode b_lw_charge 1 = .ok (.iconst 0, 1) := by decide +kernel
theorem d_lw_charge_2 : decode b_lw_charge 2 = .ok (.aload_n 0, 1) := by decide +kernel
theorem d_lw_charge_3 : decode b_lw_charge 3 = .ok (.iload_n 1, 1) := by decide +kernel
theorem d_lw_charge_4 : decode b_lw_charge 4 = .ok (.iload_n 2, 1) := by decide +kernel
theorem d_lw_charge_5 : decode b_lw_charge 5 = .ok (.invokevirtual 50, 3) := by decide +kernel
theorem d_lw_charge_8 : decode b_lw_charge 8 = .ok (.lastore, 1) := by decide +kernel
theorem d_lw_charge_9 : decode b_lw_charge 9 = .ok (.goto 7, 3) := by decide +kernel
theorem d_lw_charge_12 : decode b_lw_charge 12 = .ok (.astore 4, 2) := by decide +kernel
theorem d_lw_charge_14 : decode b_lw_charge 14 = .ok (.iconst 1, 1) := by decide +kernel
theorem d_lw_charge_15 : decode b_lw_charge 15 = .ok (.ireturn, 1) := by decide +kernel
theorem d_lw_charge_16 : decode b_lw_charge 16 = .ok (.iconst 0, 1) := by decide +kernel
theorem d_lw_charge_17 : decode b_lw_charge 17 = .ok (.ireturn, 1) := by decide +kernel
theorem d_lw_invoice_0 : decode b_lw_invoice 0 = .ok (.aload_n 3, 1) := by decide +kernel
theorem d_lw_invoice_1 : decode b_lw_invoice 1 = .ok (.iconst 0, 1) := by decide +kernel
theorem d_lw_invoice_2 : decode b_lw_invoice 2 = .ok (.aload_n 0, 1) := by decide +kernel
theorem d_lw_invoice_3 : decode b_lw_invoice 3 = .ok (.iload_n 1, 1) := by decide +kernel
theorem d_lw_invoice_4 : decode b_lw_invoice 4 = .ok (.iload_n 2, 1) := by decide +kernel
theorem d_lw_invoice_5 : decode b_lw_invoice 5 = .ok (.invokevirtual 53, 3) := by decide +kernel
theorem d_lw_invoice_8 : decode b_lw_invoice 8 = .ok (.lastore, 1) := by decide +kernel
theorem d_lw_invoice_9 : decode b_lw_invoice 9 = .ok (.goto 11, 3) := by decide +kernel
theorem d_lw_invoice_12 : decode b_lw_invoice 12 = .ok (.astore 4, 2) := by decide +kernel
theorem d_lw_invoice_14 : decode b_lw_invoice 14 = .ok (.iconst 1, 1) := by decide +kernel
theorem d_lw_invoice_15 : decode b_lw_invoice 15 = .ok (.ireturn, 1) := by decide +kernel
theorem d_lw_invoice_16 : decode b_lw_invoice 16 = .ok (.astore 4, 2) := by decide +kernel
theorem d_lw_invoice_18 : decode b_lw_invoice 18 = .ok (.iconst 2, 1) := by decide +kernel
theorem d_lw_invoice_19 : decode b_lw_invoice 19 = .ok (.ireturn, 1) := by decide +kernel
theorem d_lw_invoice_20 : decode b_lw_invoice 20 = .ok (.iconst 0, 1) := by decide +kernel
theorem d_lw_invoice_21 : decode b_lw_invoice 21 = .ok (.ireturn, 1) := by decide +kernel
theorem d_lw_told_0 : decode b_lw_told 0 = .ok (.aload_n 3, 1) := by decide +kernel
theorem d_lw_told_1 : decode b_lw_told 1 = .ok (.iconst 0, 1) := by decide +kernel
theorem d_lw_told_2 : decode b_lw_told 2 = .ok (.aload_n 0, 1) := by decide +kernel
theorem d_lw_told_3 : decode b_lw_told 3 = .ok (.iload_n 1, 1) := by decide +kernel
theorem d_lw_told_4 : decode b_lw_told 4 = .ok (.iload_n 2, 1) := by decide +kernel
theorem d_lw_told_5 : decode b_lw_told 5 = .ok (.invokevirtual 58, 3) := by decide +kernel
theorem d_lw_told_8 : decode b_lw_told 8 = .ok (.lastore, 1) := by decide +kernel
theorem d_lw_told_9 : decode b_lw_told 9 = .ok (.goto 7, 3) := by decide +kernel
theorem d_lw_told_12 : decode b_lw_told 12 = .ok (.astore 4, 2) := by decide +kernel
theorem d_lw_told_14 : decode b_lw_told 14 = .ok (.iconst 1, 1) := by decide +kernel
theorem d_lw_told_15 : decode b_lw_told 15 = .ok (.ireturn, 1) := by decide +kernel
theorem d_lw_told_16 : decode b_lw_told 16 = .ok (.iconst 0, 1) := by decide +kernel
theorem d_lw_told_17 : decode b_lw_told 17 = .ok (.ireturn, 1) := by decide +kernel
theorem d_lw_books_0 : decode b_lw_books 0 = .ok (.aload_n 2, 1) := by decide +kernel
theorem d_lw_books_1 : decode b_lw_books 1 = .ok (.iconst 0, 1) := by decide +kernel
theorem d_lw_books_2 : decode b_lw_books 2 = .ok (.aload_n 0, 1) := by decide +kernel
theorem d_lw_books_3 : decode b_lw_books 3 = .ok (.iload_n 1, 1) := by decide +kernel
theorem d_lw_books_4 : decode b_lw_books 4 = .ok (.invokevirtual 61, 3) := by decide +kernel
theorem d_lw_books_7 : decode b_lw_books 7 = .ok (.lastore, 1) := by decide +kernel
theorem d_lw_books_8 : decode b_lw_books 8 = .ok (.goto 6, 3) := by decide +kernel
theorem d_lw_books_11 : decode b_lw_books 11 = .ok (.astore_n 3, 1) := by decide +kernel
theorem d_lw_books_12 : decode b_lw_books 12 = .ok (.iconst 1, 1) := by decide +kernel
theorem d_lw_books_13 : decode b_lw_books 13 = .ok (.ireturn, 1) := by decide +kernel
theorem d_lw_books_14 : decode b_lw_books 14 = .ok (.iconst 0, 1) := by decide +kernel
theorem d_lw_books_15 : decode b_lw_books 15 = .ok (.ireturn, 1) := by decide +kernel
theorem d_lw_date_0 : decode b_lw_date 0 = .ok (.aload_n 3, 1) := by decide +kernel
theorem d_lw_date_1 : decode b_lw_date 1 = .ok (.iconst 0, 1) := by decide +kernel
theorem d_lw_date_2 : decode b_lw_date 2 = .ok (.aload_n 0, 1) := by decide +kernel
theorem d_lw_date_3 : decode b_lw_date 3 = .ok (.iload_n 1, 1) := by decide +kernel
theorem d_lw_date_4 : decode b_lw_date 4 = .ok (.iload_n 2, 1) := by decide +kernel
theorem d_lw_date_5 : decode b_lw_date 5 = .ok (.invokevirtual 65, 3) := by decide +kernel
theorem d_lw_date_8 : decode b_lw_date 8 = .ok (.i2l, 1) := by decide +kernel
theorem d_lw_date_9 : decode b_lw_date 9 = .ok (.lastore, 1) := by decide +kernel
theorem d_lw_date_10 : decode b_lw_date 10 = .ok (.goto 7, 3) := by decide +kernel
theorem d_lw_date_13 : decode b_lw_date 13 = .ok (.astore 4, 2) := by decide +kernel
theorem d_lw_date_15 : decode b_lw_date 15 = .ok (.iconst 1, 1) := by decide +kernel
theorem d_lw_date_16 : decode b_lw_date 16 = .ok (.ireturn, 1) := by decide +kernel
theorem d_lw_date_17 : decode b_lw_date 17 = .ok (.iconst 0, 1) := by decide +kernel
theorem d_lw_date_18 : decode b_lw_date 18 = .ok (.ireturn, 1) := by decide +kernel
theorem d_lw_count_0 : decode b_lw_count 0 = .ok (.aload_n 2, 1) := by decide +kernel
theorem d_lw_count_1 : decode b_lw_count 1 = .ok (.iconst 0, 1) := by decide +kernel
theorem d_lw_count_2 : decode b_lw_count 2 = .ok (.aload_n 0, 1) := by decide +kernel
theorem d_lw_count_3 : decode b_lw_count 3 = .ok (.iload_n 1, 1) := by decide +kernel
theorem d_lw_count_4 : decode b_lw_count 4 = .ok (.invokevirtual 68, 3) := by decide +kernel
theorem d_lw_count_7 : decode b_lw_count 7 = .ok (.i2l, 1) := by decide +kernel
theorem d_lw_count_8 : decode b_lw_count 8 = .ok (.lastore, 1) := by decide +kernel
theorem d_lw_count_9 : decode b_lw_count 9 = .ok (.goto 6, 3) := by decide +kernel
theorem d_lw_count_12 : decode b_lw_count 12 = .ok (.astore_n 3, 1) := by decide +kernel
theorem d_lw_count_13 : decode b_lw_count 13 = .ok (.iconst 1, 1) := by decide +kernel
theorem d_lw_count_14 : decode b_lw_count 14 = .ok (.ireturn, 1) := by decide +kernel
theorem d_lw_count_15 : decode b_lw_count 15 = .ok (.iconst 0, 1) := by decide +kernel
theorem d_lw_count_16 : decode b_lw_count 16 = .ok (.ireturn, 1) := by decide +kernel
theorem d_lw_law_0 : decode b_lw_law 0 = .ok (.new 8, 3) := by decide +kernel
theorem d_lw_law_3 : decode b_lw_law 3 = .ok (.dup, 1) := by decide +kernel
theorem d_lw_law_4 : decode b_lw_law 4 = .ok (.invokespecial 71, 3) := by decide +kernel
theorem d_lw_law_7 : decode b_lw_law 7 = .ok (.astore_n 1, 1) := by decide +kernel
theorem d_lw_law_8 : decode b_lw_law 8 = .ok (.new 72, 3) := by decide +kernel
theorem d_lw_law_11 : decode b_lw_law 11 = .ok (.dup, 1) := by decide +kernel
theorem d_lw_law_12 : decode b_lw_law 12 = .ok (.invokespecial 74, 3) := by decide +kernel
theorem d_lw_law_15 : decode b_lw_law 15 = .ok (.astore_n 2, 1) := by decide +kernel
theorem d_lw_law_16 : decode b_lw_law 16 = .ok (.iconst 1, 1) := by decide +kernel
theorem d_lw_law_17 : decode b_lw_law 17 = .ok (.newarray .long, 2) := by decide +kernel
theorem d_lw_law_19 : decode b_lw_law 19 = .ok (.astore_n 3, 1) := by decide +kernel
theorem d_lw_law_20 : decode b_lw_law 20 = .ok (.iconst 0, 1) := by decide +kernel
theorem d_lw_law_21 : decode b_lw_law 21 = .ok (.istore 4, 2) := by decide +kernel
theorem d_lw_law_23 : decode b_lw_law 23 = .ok (.iload 4, 2) := by decide +kernel
theorem d_lw_law_25 : decode b_lw_law 25 = .ok (.aload_n 0, 1) := by decide +kernel
theorem d_lw_law_26 : decode b_lw_law 26 = .ok (.arraylength, 1) := by decide +kernel
theorem d_lw_law_27 : decode b_lw_law 27 = .ok (.iconst 5, 1) := by decide +kernel
theorem d_lw_law_28 : decode b_lw_law 28 = .ok (.isub, 1) := by decide +kernel
theorem d_lw_law_29 : decode b_lw_law 29 = .ok (.if_icmp .gt 1232, 3) := by decide +kernel
theorem d_lw_law_32 : decode b_lw_law 32 = .ok (.aload_n 0, 1) := by decide +kernel
theorem d_lw_law_33 : decode b_lw_law 33 = .ok (.iload 4, 2) := by decide +kernel
theorem d_lw_law_35 : decode b_lw_law 35 = .ok (.iaload, 1) := by decide +kernel
theorem d_lw_law_36 : decode b_lw_law 36 = .ok (.bipush 31, 2) := by decide +kernel
theorem d_lw_law_38 : decode b_lw_law 38 = .ok (.iand, 1) := by decide +kernel
theorem d_lw_law_39 : decode b_lw_law 39 = .ok (.tableswitch 1216 0 16 #[81, 169, 225, 238, 305, 373, 464, 556, 612, 625, 724, 836, 903, 970, 1037, 1092, 1160], 81) := by decide +kernel
theorem d_lw_law_120 : decode b_lw_law 120 = .ok (.aload_n 1, 1) := by decide +kernel
theorem d_lw_law_121 : decode b_lw_law 121 = .ok (.aload_n 0, 1) := by decide +kernel
theorem d_lw_law_122 : decode b_lw_law 122 = .ok (.iload 4, 2) := by decide +kernel
theorem d_lw_law_124 : decode b_lw_law 124 = .ok (.iconst 1, 1) := by decide +kernel
theorem d_lw_law_125 : decode b_lw_law 125 = .ok (.iadd, 1) := by decide +kernel
theorem d_lw_law_126 : decode b_lw_law 126 = .ok (.iaload, 1) := by decide +kernel
theorem d_lw_law_127 : decode b_lw_law 127 = .ok (.i2l, 1) := by decide +kernel
theorem d_lw_law_128 : decode b_lw_law 128 = .ok (.bipush 32, 2) := by decide +kernel
theorem d_lw_law_130 : decode b_lw_law 130 = .ok (.lshl, 1) := by decide +kernel
theorem d_lw_law_131 : decode b_lw_law 131 = .ok (.aload_n 0, 1) := by decide +kernel
theorem d_lw_law_132 : decode b_lw_law 132 = .ok (.iload 4, 2) := by decide +kernel
theorem d_lw_law_134 : decode b_lw_law 134 = .ok (.iconst 2, 1) := by decide +kernel
theorem d_lw_law_135 : decode b_lw_law 135 = .ok (.iadd, 1) := by decide +kernel
theorem d_lw_law_136 : decode b_lw_law 136 = .ok (.iaload, 1) := by decide +kernel
theorem d_lw_law_137 : decode b_lw_law 137 = .ok (.i2l, 1) := by decide +kernel
theorem d_lw_law_138 : decode b_lw_law 138 = .ok (.ldc2_w 75, 3) := by decide +kernel
theorem d_lw_law_141 : decode b_lw_law 141 = .ok (.land, 1) := by decide +kernel
theorem d_lw_law_142 : decode b_lw_law 142 = .ok (.lor, 1) := by decide +kernel
theorem d_lw_law_143 : decode b_lw_law 143 = .ok (.aload_n 3, 1) := by decide +kernel
theorem d_lw_law_144 : decode b_lw_law 144 = .ok (.invokestatic 77, 3) := by decide +kernel
theorem d_lw_law_147 : decode b_lw_law 147 = .ok (.istore 5, 2) := by decide +kernel
theorem d_lw_law_149 : decode b_lw_law 149 = .ok (.aload_n 2, 1) := by decide +kernel
theorem d_lw_law_150 : decode b_lw_law 150 = .ok (.aload_n 0, 1) := by decide +kernel
theorem d_lw_law_151 : decode b_lw_law 151 = .ok (.iload 4, 2) := by decide +kernel
theorem d_lw_law_153 : decode b_lw_law 153 = .ok (.iconst 1, 1) := by decide +kernel
theorem d_lw_law_154 : decode b_lw_law 154 = .ok (.iadd, 1) := by decide +kernel
theorem d_lw_law_155 : decode b_lw_law 155 = .ok (.iaload, 1) := by decide +kernel
theorem d_lw_law_156 : decode b_lw_law 156 = .ok (.i2l, 1) := by decide +kernel
theorem d_lw_law_157 : decode b_lw_law 157 = .ok (.bipush 32, 2) := by decide +kernel
theorem d_lw_law_159 : decode b_lw_law 159 = .ok (.lshl, 1) := by decide +kernel
theorem d_lw_law_160 : decode b_lw_law 160 = .ok (.aload_n 0, 1) := by decide +kernel
theorem d_lw_law_161 : decode b_lw_law 161 = .ok (.iload 4, 2) := by decide +kernel
theorem d_lw_law_163 : decode b_lw_law 163 = .ok (.iconst 2, 1) := by decide +kernel
theorem d_lw_law_164 : decode b_lw_law 164 = .ok (.iadd, 1) := by decide +kernel
theorem d_lw_law_165 : decode b_lw_law 165 = .ok (.iaload, 1) := by decide +kernel
theorem d_lw_law_166 : decode b_lw_law 166 = .ok (.i2l, 1) := by decide +kernel
theorem d_lw_law_167 : decode b_lw_law 167 = .ok (.ldc2_w 75, 3) := by decide +kernel
theorem d_lw_law_170 : decode b_lw_law 170 = .ok (.land, 1) := by decide +kernel
theorem d_lw_law_171 : decode b_lw_law 171 = .ok (.lor, 1) := by decide +kernel
theorem d_lw_law_172 : decode b_lw_law 172 = .ok (.invokevirtual 82, 3) := by decide +kernel
theorem d_lw_law_175 : decode b_lw_law 175 = .ok (.istore 6, 2) := by decide +kernel
theorem d_lw_law_177 : decode b_lw_law 177 = .ok (.aload_n 2, 1) := by decide +kernel
theorem d_lw_law_178 : decode b_lw_law 178 = .ok (.invokevirtual 83, 3) := by decide +kernel
theorem d_lw_law_181 : decode b_lw_law 181 = .ok (.iload 5, 2) := by decide +kernel
theorem d_lw_law_183 : decode b_lw_law 183 = .ok (.if_icmp .eq 5, 3) := by decide +kernel
theorem d_lw_law_186 : decode b_lw_law 186 = .ok (.iconst 0, 1) := by decide +kernel
theorem d_lw_law_187 : decode b_lw_law 187 = .ok (.ireturn, 1) := by decide +kernel
theorem d_lw_law_188 : decode b_lw_law 188 = .ok (.iload 5, 2) := by decide +kernel
theorem d_lw_law_190 : decode b_lw_law 190 = .ok (.ifCond .ne 15, 3) := by decide +kernel
theorem d_lw_law_193 : decode b_lw_law 193 = .ok (.aload_n 3, 1) := by decide +kernel
theorem d_lw_law_194 : decode b_lw_law 194 = .ok (.iconst 0, 1) := by decide +kernel
theorem d_lw_law_195 : decode b_lw_law 195 = .ok (.laload, 1) := by decide +kernel
theorem d_lw_law_196 : decode b_lw_law 196 = .ok (.iload 6, 2) := by decide +kernel
theorem d_lw_law_198 : decode b_lw_law 198 = .ok (.i2l, 1) := by decide +kernel
theorem d_lw_law_199 : decode b_lw_law 199 = .ok (.lcmp, 1) := by decide +kernel
theorem d_lw_law_200 : decode b_lw_law 200 = .ok (.ifCond .eq 5, 3) := by decide +kernel
theorem d_lw_law_203 : decode b_lw_law 203 = .ok (.iconst 0, 1) := by decide +kernel
theorem d_lw_law_204 : decode b_lw_law 204 = .ok (.ireturn, 1) := by decide +kernel
theorem d_lw_law_205 : decode b_lw_law 205 = .ok (.goto 1050, 3) := by decide +kernel
theorem d_lw_law_208 : decode b_lw_law 208 = .ok (.aload_n 1, 1) := by decide +kernel
theorem d_lw_law_209 : decode b_lw_law 209 = .ok (.aload_n 0, 1) := by decide +kernel
theorem d_lw_law_210 : decode b_lw_law 210 = .ok (.iload 4, 2) := by decide +kernel
theorem d_lw_law_212 : decode b_lw_law 212 = .ok (.iconst 1, 1) := by decide +kernel
theorem d_lw_law_213 : decode b_lw_law 213 = .ok (.iadd, 1) := by decide +kernel
theorem d_lw_law_214 : decode b_lw_law 214 = .ok (.iaload, 1) := by decide +kernel
theorem d_lw_law_215 : decode b_lw_law 215 = .ok (.aload_n 3, 1) := by decide +kernel
theorem d_lw_law_216 : decode b_lw_law 216 = .ok (.invokestatic 87, 3) := by decide +kernel
theorem d_lw_law_219 : decode b_lw_law 219 = .ok (.istore 5, 2) := by decide +kernel
theorem d_lw_law_221 : decode b_lw_law 221 = .ok (.aload_n 2, 1) := by decide +kernel
theorem d_lw_law_222 : decode b_lw_law 222 = .ok (.aload_n 0, 1) := by decide +kernel
theorem d_lw_law_223 : decode b_lw_law 223 = .ok (.iload 4, 2) := by decide +kernel
theorem d_lw_law_225 : decode b_lw_law 225 = .ok (.iconst 1, 1) := by decide +kernel
theorem d_lw_law_226 : decode b_lw_law 226 = .ok (.iadd, 1) := by decide +kernel
theorem d_lw_law_227 : decode b_lw_law 227 = .ok (.iaload, 1) := by decide +kernel
theorem d_lw_law_228 : decode b_lw_law 228 = .ok (.invokevirtual 90, 3) := by decide +kernel
theorem d_lw_law_231 : decode b_lw_law 231 = .ok (.istore 6, 2) := by decide +kernel
theorem d_lw_law_233 : decode b_lw_law 233 = .ok (.aload_n 2, 1) := by decide +kernel
theorem d_lw_law_234 : decode b_lw_law 234 = .ok (.invokevirtual 83, 3) := by decide +kernel
theorem d_lw_law_237 : decode b_lw_law 237 = .ok (.iload 5, 2) := by decide +kernel
theorem d_lw_law_239 : decode b_lw_law 239 = .ok (.if_icmp .eq 5, 3) := by decide +kernel
theorem d_lw_law_242 : decode b_lw_law 242 = .ok (.iconst 0, 1) := by decide +kernel
theorem d_lw_law_243 : decode b_lw_law 243 = .ok (.ireturn, 1) := by decide +kernel
theorem d_lw_law_244 : decode b_lw_law 244 = .ok (.iload 5, 2) := by decide +kernel
theorem d_lw_law_246 : decode b_lw_law 246 = .ok (.ifCond .ne 15, 3) := by decide +kernel
theorem d_lw_law_249 : decode b_lw_law 249 = .ok (.aload_n 3, 1) := by decide +kernel
theorem d_lw_law_250 : decode b_lw_law 250 = .ok (.iconst 0, 1) := by decide +kernel
theorem d_lw_law_251 : decode b_lw_law 251 = .ok (.laload, 1) := by decide +kernel
theorem d_lw_law_252 : decode b_lw_law 252 = .ok (.iload 6, 2) := by decide +kernel
theorem d_lw_law_254 : decode b_lw_law 254 = .ok (.i2l, 1) := by decide +kernel
theorem d_lw_law_255 : decode b_lw_law 255 = .ok (.lcmp, 1) := by decide +kernel
theorem d_lw_law_256 : decode b_lw_law 256 = .ok (.ifCond .eq 5, 3) := by decide +kernel
theorem d_lw_law_259 : decode b_lw_law 259 = .ok (.iconst 0, 1) := by decide +kernel
theorem d_lw_law_260 : decode b_lw_law 260 = .ok (.ireturn, 1) := by decide +kernel
theorem d_lw_law_261 : decode b_lw_law 261 = .ok (.goto 994, 3) := by decide +kernel
theorem d_lw_law_264 : decode b_lw_law 264 = .ok (.aload_n 1, 1) := by decide +kernel
theorem d_lw_law_265 : decode b_lw_law 265 = .ok (.invokevirtual 91, 3) := by decide +kernel
theorem d_lw_law_268 : decode b_lw_law 268 = .ok (.aload_n 2, 1) := by decide +kernel
theorem d_lw_law_269 : decode b_lw_law 269 = .ok (.invokevirtual 94, 3) := by decide +kernel
theorem d_lw_law_272 : decode b_lw_law 272 = .ok (.if_icmp .eq 983, 3) := by decide +kernel
theorem d_lw_law_275 : decode b_lw_law 275 = .ok (.iconst 0, 1) := by decide +kernel
theorem d_lw_law_276 : decode b_lw_law 276 = .ok (.ireturn, 1) := by decide +kernel
theorem d_lw_law_277 : decode b_lw_law 277 = .ok (.aload_n 1, 1) := by decide +kernel
theorem d_lw_law_278 : decode b_lw_law 278 = .ok (.aload_n 0, 1) := by decide +kernel
theorem d_lw_law_279 : decode b_lw_law 279 = .ok (.iload 4, 2) := by decide +kernel
theorem d_lw_law_281 : decode b_lw_law 281 = .ok (.iconst 1, 1) := by decide +kernel
theorem d_lw_law_282 : decode b_lw_law 282 = .ok (.iadd, 1) := by decide +kernel
theorem d_lw_law_283 : decode b_lw_law 283 = .ok (.iaload, 1) := by decide +kernel
theorem d_lw_law_284 : decode b_lw_law 284 = .ok (.aload_n 0, 1) := by decide +kernel
theorem d_lw_law_285 : decode b_lw_law 285 = .ok (.iload 4, 2) := by decide +kernel
theorem d_lw_law_287 : decode b_lw_law 287 = .ok (.iconst 2, 1) := by decide +kernel
theorem d_lw_law_288 : decode b_lw_law 288 = .ok (.iadd, 1) := by decide +kernel
theorem d_lw_law_289 : decode b_lw_law 289 = .ok (.iaload, 1) := by decide +kernel
theorem d_lw_law_290 : decode b_lw_law 290 = .ok (.aload_n 3, 1) := by decide +kernel
theorem d_lw_law_291 : decode b_lw_law 291 = .ok (.invokestatic 95, 3) := by decide +kernel
theorem d_lw_law_294 : decode b_lw_law 294 = .ok (.istore 5, 2) := by decide +kernel
theorem d_lw_law_296 : decode b_lw_law 296 = .ok (.aload_n 2, 1) := by decide +kernel
theorem d_lw_law_297 : decode b_lw_law 297 = .ok (.aload_n 0, 1) := by decide +kernel
theorem d_lw_law_298 : decode b_lw_law 298 = .ok (.iload 4, 2) := by decide +kernel
theorem d_lw_law_300 : decode b_lw_law 300 = .ok (.iconst 1, 1) := by decide +kernel
theorem d_lw_law_301 : decode b_lw_law 301 = .ok (.iadd, 1) := by decide +kernel
theorem d_lw_law_302 : decode b_lw_law 302 = .ok (.iaload, 1) := by decide +kernel
theorem d_lw_law_303 : decode b_lw_law 303 = .ok (.aload_n 0, 1) := by decide +kernel
theorem d_lw_law_304 : decode b_lw_law 304 = .ok (.iload 4, 2) := by decide +kernel
theorem d_lw_law_306 : decode b_lw_law 306 = .ok (.iconst 2, 1) := by decide +kernel
theorem d_lw_law_307 : decode b_lw_law 307 = .ok (.iadd, 1) := by decide +kernel
theorem d_lw_law_308 : decode b_lw_law 308 = .ok (.iaload, 1) := by decide +kernel
theorem d_lw_law_309 : decode b_lw_law 309 = .ok (.invokevirtual 98, 3) := by decide +kernel
theorem d_lw_law_312 : decode b_lw_law 312 = .ok (.lstore 6, 2) := by decide +kernel
theorem d_lw_law_314 : decode b_lw_law 314 = .ok (.aload_n 2, 1) := by decide +kernel
theorem d_lw_law_315 : decode b_lw_law 315 = .ok (.invokevirtual 83, 3) := by decide +kernel
theorem d_lw_law_318 : decode b_lw_law 318 = .ok (.iload 5, 2) := by decide +kernel
theorem d_lw_law_320 : decode b_lw_law 320 = .ok (.if_icmp .eq 5, 3) := by decide +kernel
theorem d_lw_law_323 : decode b_lw_law 323 = .ok (.iconst 0, 1) := by decide +kernel
theorem d_lw_law_324 : decode b_lw_law 324 = .ok (.ireturn, 1) := by decide +kernel
theorem d_lw_law_325 : decode b_lw_law 325 = .ok (.iload 5, 2) := by decide +kernel
theorem d_lw_law_327 : decode b_lw_law 327 = .ok (.ifCond .ne 14, 3) := by decide +kernel
theorem d_lw_law_330 : decode b_lw_law 330 = .ok (.aload_n 3, 1) := by decide +kernel
theorem d_lw_law_331 : decode b_lw_law 331 = .ok (.iconst 0, 1) := by decide +kernel
theorem d_lw_law_332 : decode b_lw_law 332 = .ok (.laload, 1) := by decide +kernel
theorem d_lw_law_333 : decode b_lw_law 333 = .ok (.lload 6, 2) := by decide +kernel
theorem d_lw_law_335 : decode b_lw_law 335 = .ok (.lcmp, 1) := by decide +kernel
theorem d_lw_law_336 : decode b_lw_law 336 = .ok (.ifCond .eq 5, 3) := by decide +kernel
theorem d_lw_law_339 : decode b_lw_law 339 = .ok (.iconst 0, 1) := by decide +kernel
theorem d_lw_law_340 : decode b_lw_law 340 = .ok (.ireturn, 1) := by decide +kernel
theorem d_lw_law_341 : decode b_lw_law 341 = .ok (.goto 914, 3) := by decide +kernel
theorem d_lw_law_344 : decode b_lw_law 344 = .ok (.aload_n 1, 1) := by decide +kernel
theorem d_lw_law_345 : decode b_lw_law 345 = .ok (.aload_n 0, 1) := by decide +kernel
theorem d_lw_law_346 : decode b_lw_law 346 = .ok (.iload 4, 2) := by decide +kernel
theorem d_lw_law_348 : decode b_lw_law 348 = .ok (.iconst 1, 1) := by decide +kernel
theorem d_lw_law_349 : decode b_lw_law 349 = .ok (.iadd, 1) := by decide +kernel
theorem d_lw_law_350 : decode b_lw_law 350 = .ok (.iaload, 1) := by decide +kernel
theorem d_lw_law_351 : decode b_lw_law 351 = .ok (.aload_n 0, 1) := by decide +kernel
theorem d_lw_law_352 : decode b_lw_law 352 = .ok (.iload 4, 2) := by decide +kernel
theorem d_lw_law_354 : decode b_lw_law 354 = .ok (.iconst 2, 1) := by decide +kernel
theorem d_lw_law_355 : decode b_lw_law 355 = .ok (.iadd, 1) := by decide +kernel
theorem d_lw_law_356 : decode b_lw_law 356 = .ok (.iaload, 1) := by decide +kernel
theorem d_lw_law_357 : decode b_lw_law 357 = .ok (.aload_n 3, 1) := by decide +kernel
theorem d_lw_law_358 : decode b_lw_law 358 = .ok (.invokestatic 99, 3) := by decide +kernel
theorem d_lw_law_361 : decode b_lw_law 361 = .ok (.istore 5, 2) := by decide +kernel
theorem d_lw_law_363 : decode b_lw_law 363 = .ok (.aload_n 2, 1) := by decide +kernel
theorem d_lw_law_364 : decode b_lw_law 364 = .ok (.aload_n 0, 1) := by decide +kernel
theorem d_lw_law_365 : decode b_lw_law 365 = .ok (.iload 4, 2) := by decide +kernel
theorem d_lw_law_367 : decode b_lw_law 367 = .ok (.iconst 1, 1) := by decide +kernel
theorem d_lw_law_368 : decode b_lw_law 368 = .ok (.iadd, 1) := by decide +kernel
theorem d_lw_law_369 : decode b_lw_law 369 = .ok (.iaload, 1) := by decide +kernel
theorem d_lw_law_370 : decode b_lw_law 370 = .ok (.aload_n 0, 1) := by decide +kernel
theorem d_lw_law_371 : decode b_lw_law 371 = .ok (.iload 4, 2) := by decide +kernel
theorem d_lw_law_373 : decode b_lw_law 373 = .ok (.iconst 2, 1) := by decide +kernel
theorem d_lw_law_374 : decode b_lw_law 374 = .ok (.iadd, 1) := by decide +kernel
theorem d_lw_law_375 : decode b_lw_law 375 = .ok (.iaload, 1) := by decide +kernel
theorem d_lw_law_376 : decode b_lw_law 376 = .ok (.invokevirtual 101, 3) := by decide +kernel
theorem d_lw_law_379 : decode b_lw_law 379 = .ok (.istore 6, 2) := by decide +kernel
theorem d_lw_law_381 : decode b_lw_law 381 = .ok (.aload_n 2, 1) := by decide +kernel
theorem d_lw_law_382 : decode b_lw_law 382 = .ok (.invokevirtual 83, 3) := by decide +kernel
theorem d_lw_law_385 : decode b_lw_law 385 = .ok (.iload 5, 2) := by decide +kernel
theorem d_lw_law_387 : decode b_lw_law 387 = .ok (.if_icmp .eq 5, 3) := by decide +kernel
theorem d_lw_law_390 : decode b_lw_law 390 = .ok (.iconst 0, 1) := by decide +kernel
theorem d_lw_law_391 : decode b_lw_law 391 = .ok (.ireturn, 1) := by decide +kernel
theorem d_lw_law_392 : decode b_lw_law 392 = .ok (.iload 5, 2) := by decide +kernel
theorem d_lw_law_394 : decode b_lw_law 394 = .ok (.ifCond .ne 15, 3) := by decide +kernel
theorem d_lw_law_397 : decode b_lw_law 397 = .ok (.aload_n 3, 1) := by decide +kernel
theorem d_lw_law_398 : decode b_lw_law 398 = .ok (.iconst 0, 1) := by decide +kernel
theorem d_lw_law_399 : decode b_lw_law 399 = .ok (.laload, 1) := by decide +kernel
theorem d_lw_law_400 : decode b_lw_law 400 = .ok (.iload 6, 2) := by decide +kernel
theorem d_lw_law_402 : decode b_lw_law 402 = .ok (.i2l, 1) := by decide +kernel
theorem d_lw_law_403 : decode b_lw_law 403 = .ok (.lcmp, 1) := by decide +kernel
theorem d_lw_law_404 : decode b_lw_law 404 = .ok (.ifCond .eq 5, 3) := by decide +kernel
theorem d_lw_law_407 : decode b_lw_law 407 = .ok (.iconst 0, 1) := by decide +kernel
theorem d_lw_law_408 : decode b_lw_law 408 = .ok (.ireturn, 1) := by decide +kernel
theorem d_lw_law_409 : decode b_lw_law 409 = .ok (.goto 846, 3) := by decide +kernel
theorem d_lw_law_412 : decode b_lw_law 412 = .ok (.aload_n 1, 1) := by decide +kernel
theorem d_lw_law_413 : decode b_lw_law 413 = .ok (.aload_n 0, 1) := by decide +kernel
theorem d_lw_law_414 : decode b_lw_law 414 = .ok (.iload 4, 2) := by decide +kernel
theorem d_lw_law_416 : decode b_lw_law 416 = .ok (.iconst 1, 1) := by decide +kernel
theorem d_lw_law_417 : decode b_lw_law 417 = .ok (.iadd, 1) := by decide +kernel
theorem d_lw_law_418 : decode b_lw_law 418 = .ok (.iaload, 1) := by decide +kernel
theorem d_lw_law_419 : decode b_lw_law 419 = .ok (.aload_n 0, 1) := by decide +kernel
theorem d_lw_law_420 : decode b_lw_law 420 = .ok (.iload 4, 2) := by decide +kernel
theorem d_lw_law_422 : decode b_lw_law 422 = .ok (.iconst 2, 1) := by decide +kernel
theorem d_lw_law_423 : decode b_lw_law 423 = .ok (.iadd, 1) := by decide +kernel
theorem d_lw_law_424 : decode b_lw_law 424 = .ok (.iaload, 1) := by decide +kernel
theorem d_lw_law_425 : decode b_lw_law 425 = .ok (.ifCond .eq 7, 3) := by decide +kernel
theorem d_lw_law_428 : decode b_lw_law 428 = .ok (.iconst 1, 1) := by decide +kernel
theorem d_lw_law_429 : decode b_lw_law 429 = .ok (.goto 4, 3) := by decide +kernel
theorem d_lw_law_432 : decode b_lw_law 432 = .ok (.iconst 0, 1) := by decide +kernel
theorem d_lw_law_433 : decode b_lw_law 433 = .ok (.aload_n 3, 1) := by decide +kernel
theorem d_lw_law_434 : decode b_lw_law 434 = .ok (.invokestatic 102, 3) := by decide +kernel
theorem d_lw_law_437 : decode b_lw_law 437 = .ok (.istore 5, 2) := by decide +kernel
theorem d_lw_law_439 : decode b_lw_law 439 = .ok (.aload_n 2, 1) := by decide +kernel
theorem d_lw_law_440 : decode b_lw_law 440 = .ok (.aload_n 0, 1) := by decide +kernel
theorem d_lw_law_441 : decode b_lw_law 441 = .ok (.iload 4, 2) := by decide +kernel
theorem d_lw_law_443 : decode b_lw_law 443 = .ok (.iconst 1, 1) := by decide +kernel
theorem d_lw_law_444 : decode b_lw_law 444 = .ok (.iadd, 1) := by decide +kernel
theorem d_lw_law_445 : decode b_lw_law 445 = .ok (.iaload, 1) := by decide +kernel
theorem d_lw_law_446 : decode b_lw_law 446 = .ok (.aload_n 0, 1) := by decide +kernel
theorem d_lw_law_447 : decode b_lw_law 447 = .ok (.iload 4, 2) := by decide +kernel
theorem d_lw_law_449 : decode b_lw_law 449 = .ok (.iconst 2, 1) := by decide +kernel
theorem d_lw_law_450 : decode b_lw_law 450 = .ok (.iadd, 1) := by decide +kernel
theorem d_lw_law_451 : decode b_lw_law 451 = .ok (.iaload, 1) := by decide +kernel
theorem d_lw_law_452 : decode b_lw_law 452 = .ok (.ifCond .eq 7, 3) := by decide +kernel
theorem d_lw_law_455 : decode b_lw_law 455 = .ok (.iconst 1, 1) := by decide +kernel
theorem d_lw_law_456 : decode b_lw_law 456 = .ok (.goto 4, 3) := by decide +kernel
theorem d_lw_law_459 : decode b_lw_law 459 = .ok (.iconst 0, 1) := by decide +kernel
theorem d_lw_law_460 : decode b_lw_law 460 = .ok (.invokevirtual 105, 3) := by decide +kernel
theorem d_lw_law_463 : decode b_lw_law 463 = .ok (.istore 6, 2) := by decide +kernel
theorem d_lw_law_465 : decode b_lw_law 465 = .ok (.aload_n 2, 1) := by decide +kernel
theorem d_lw_law_466 : decode b_lw_law 466 = .ok (.invokevirtual 83, 3) := by decide +kernel
theorem d_lw_law_469 : decode b_lw_law 469 = .ok (.iload 5, 2) := by decide +kernel
theorem d_lw_law_471 : decode b_lw_law 471 = .ok (.if_icmp .eq 5, 3) := by decide +kernel
theorem d_lw_law_474 : decode b_lw_law 474 = .ok (.iconst 0, 1) := by decide +kernel
theorem d_lw_law_475 : decode b_lw_law 475 = .ok (.ireturn, 1) := by decide +kernel
theorem d_lw_law_476 : decode b_lw_law 476 = .ok (.iload 5, 2) := by decide +kernel
theorem d_lw_law_478 : decode b_lw_law 478 = .ok (.ifCond .ne 22, 3) := by decide +kernel
theorem d_lw_law_481 : decode b_lw_law 481 = .ok (.aload_n 3, 1) := by decide +kernel
theorem d_lw_law_482 : decode b_lw_law 482 = .ok (.iconst 0, 1) := by decide +kernel
theorem d_lw_law_483 : decode b_lw_law 483 = .ok (.laload, 1) := by decide +kernel
theorem d_lw_law_484 : decode b_lw_law 484 = .ok (.iload 6, 2) := by decide +kernel
theorem d_lw_law_486 : decode b_lw_law 486 = .ok (.ifCond .eq 7, 3) := by decide +kernel
theorem d_lw_law_489 : decode b_lw_law 489 = .ok (.lconst 1, 1) := by decide +kernel
theorem d_lw_law_490 : decode b_lw_law 490 = .ok (.goto 4, 3) := by decide +kernel
theorem d_lw_law_493 : decode b_lw_law 493 = .ok (.lconst 0, 1) := by decide +kernel
theorem d_lw_law_494 : decode b_lw_law 494 = .ok (.lcmp, 1) := by decide +kernel
theorem d_lw_law_495 : decode b_lw_law 495 = .ok (.ifCond .eq 5, 3) := by decide +kernel
theorem d_lw_law_498 : decode b_lw_law 498 = .ok (.iconst 0, 1) := by decide +kernel
theorem d_lw_law_499 : decode b_lw_law 499 = .ok (.ireturn, 1) := by decide +kernel
theorem d_lw_law_500 : decode b_lw_law 500 = .ok (.goto 755, 3) := by decide +kernel
theorem d_lw_law_503 : decode b_lw_law 503 = .ok (.aload_n 1, 1) := by decide +kernel
theorem d_lw_law_504 : decode b_lw_law 504 = .ok (.aload_n 0, 1) := by decide +kernel
theorem d_lw_law_505 : decode b_lw_law 505 = .ok (.iload 4, 2) := by decide +kernel
theorem d_lw_law_507 : decode b_lw_law 507 = .ok (.iconst 1, 1) := by decide +kernel
theorem d_lw_law_508 : decode b_lw_law 508 = .ok (.iadd, 1) := by decide +kernel
theorem d_lw_law_509 : decode b_lw_law 509 = .ok (.iaload, 1) := by decide +kernel
theorem d_lw_law_510 : decode b_lw_law 510 = .ok (.aload_n 0, 1) := by decide +kernel
theorem d_lw_law_511 : decode b_lw_law 511 = .ok (.iload 4, 2) := by decide +kernel
theorem d_lw_law_513 : decode b_lw_law 513 = .ok (.iconst 2, 1) := by decide +kernel
theorem d_lw_law_514 : decode b_lw_law 514 = .ok (.iadd, 1) := by decide +kernel
theorem d_lw_law_515 : decode b_lw_law 515 = .ok (.iaload, 1) := by decide +kernel
theorem d_lw_law_516 : decode b_lw_law 516 = .ok (.aload_n 0, 1) := by decide +kernel
theorem d_lw_law_517 : decode b_lw_law 517 = .ok (.iload 4, 2) := by decide +kernel
theorem d_lw_law_519 : decode b_lw_law 519 = .ok (.iconst 3, 1) := by decide +kernel
theorem d_lw_law_520 : decode b_lw_law 520 = .ok (.iadd, 1) := by decide +kernel
theorem d_lw_law_521 : decode b_lw_law 521 = .ok (.iaload, 1) := by decide +kernel
theorem d_lw_law_522 : decode b_lw_law 522 = .ok (.aload_n 0, 1) := by decide +kernel
theorem d_lw_law_523 : decode b_lw_law 523 = .ok (.iload 4, 2) := by decide +kernel
theorem d_lw_law_525 : decode b_lw_law 525 = .ok (.iconst 4, 1) := by decide +kernel
theorem d_lw_law_526 : decode b_lw_law 526 = .ok (.iadd, 1) := by decide +kernel
theorem d_lw_law_527 : decode b_lw_law 527 = .ok (.iaload, 1) := by decide +kernel
theorem d_lw_law_528 : decode b_lw_law 528 = .ok (.aload_n 3, 1) := by decide +kernel
theorem d_lw_law_529 : decode b_lw_law 529 = .ok (.invokestatic 106, 3) := by decide +kernel
theorem d_lw_law_532 : decode b_lw_law 532 = .ok (.istore 5, 2) := by decide +kernel
theorem d_lw_law_534 : decode b_lw_law 534 = .ok (.aload_n 2, 1) := by decide +kernel
theorem d_lw_law_535 : decode b_lw_law 535 = .ok (.aload_n 0, 1) := by decide +kernel
theorem d_lw_law_536 : decode b_lw_law 536 = .ok (.iload 4, 2) := by decide +kernel
theorem d_lw_law_538 : decode b_lw_law 538 = .ok (.iconst 1, 1) := by decide +kernel
theorem d_lw_law_539 : decode b_lw_law 539 = .ok (.iadd, 1) := by decide +kernel
theorem d_lw_law_540 : decode b_lw_law 540 = .ok (.iaload, 1) := by decide +kernel
theorem d_lw_law_541 : decode b_lw_law 541 = .ok (.aload_n 0, 1) := by decide +kernel
theorem d_lw_law_542 : decode b_lw_law 542 = .ok (.iload 4, 2) := by decide +kernel
theorem d_lw_law_544 : decode b_lw_law 544 = .ok (.iconst 2, 1) := by decide +kernel
theorem d_lw_law_545 : decode b_lw_law 545 = .ok (.iadd, 1) := by decide +kernel
theorem d_lw_law_546 : decode b_lw_law 546 = .ok (.iaload, 1) := by decide +kernel
theorem d_lw_law_547 : decode b_lw_law 547 = .ok (.aload_n 0, 1) := by decide +kernel
theorem d_lw_law_548 : decode b_lw_law 548 = .ok (.iload 4, 2) := by decide +kernel
theorem d_lw_law_550 : decode b_lw_law 550 = .ok (.iconst 3, 1) := by decide +kernel
theorem d_lw_law_551 : decode b_lw_law 551 = .ok (.iadd, 1) := by decide +kernel
theorem d_lw_law_552 : decode b_lw_law 552 = .ok (.iaload, 1) := by decide +kernel
theorem d_lw_law_553 : decode b_lw_law 553 = .ok (.aload_n 0, 1) := by decide +kernel
theorem d_lw_law_554 : decode b_lw_law 554 = .ok (.iload 4, 2) := by decide +kernel
theorem d_lw_law_556 : decode b_lw_law 556 = .ok (.iconst 4, 1) := by decide +kernel
theorem d_lw_law_557 : decode b_lw_law 557 = .ok (.iadd, 1) := by decide +kernel
theorem d_lw_law_558 : decode b_lw_law 558 = .ok (.iaload, 1) := by decide +kernel
theorem d_lw_law_559 : decode b_lw_law 559 = .ok (.invokevirtual 109, 3) := by decide +kernel
theorem d_lw_law_562 : decode b_lw_law 562 = .ok (.istore 6, 2) := by decide +kernel
theorem d_lw_law_564 : decode b_lw_law 564 = .ok (.aload_n 2, 1) := by decide +kernel
theorem d_lw_law_565 : decode b_lw_law 565 = .ok (.invokevirtual 83, 3) := by decide +kernel
theorem d_lw_law_568 : decode b_lw_law 568 = .ok (.iload 5, 2) := by decide +kernel
theorem d_lw_law_570 : decode b_lw_law 570 = .ok (.if_icmp .eq 5, 3) := by decide +kernel
theorem d_lw_law_573 : decode b_lw_law 573 = .ok (.iconst 0, 1) := by decide +kernel
theorem d_lw_law_574 : decode b_lw_law 574 = .ok (.ireturn, 1) := by decide +kernel
theorem d_lw_law_575 : decode b_lw_law 575 = .ok (.iload 5, 2) := by decide +kernel
theorem d_lw_law_577 : decode b_lw_law 577 = .ok (.ifCond .ne 15, 3) := by decide +kernel
theorem d_lw_law_580 : decode b_lw_law 580 = .ok (.aload_n 3, 1) := by decide +kernel
theorem d_lw_law_581 : decode b_lw_law 581 = .ok (.iconst 0, 1) := by decide +kernel
theorem d_lw_law_582 : decode b_lw_law 582 = .ok (.laload, 1) := by decide +kernel
theorem d_lw_law_583 : decode b_lw_law 583 = .ok (.iload 6, 2) := by decide +kernel
theorem d_lw_law_585 : decode b_lw_law 585 = .ok (.i2l, 1) := by decide +kernel
theorem d_lw_law_586 : decode b_lw_law 586 = .ok (.lcmp, 1) := by decide +kernel
theorem d_lw_law_587 : decode b_lw_law 587 = .ok (.ifCond .eq 5, 3) := by decide +kernel
theorem d_lw_law_590 : decode b_lw_law 590 = .ok (.iconst 0, 1) := by decide +kernel
theorem d_lw_law_591 : decode b_lw_law 591 = .ok (.ireturn, 1) := by decide +kernel
theorem d_lw_law_592 : decode b_lw_law 592 = .ok (.goto 663, 3) := by decide +kernel
theorem d_lw_law_595 : decode b_lw_law 595 = .ok (.aload_n 1, 1) := by decide +kernel
theorem d_lw_law_596 : decode b_lw_law 596 = .ok (.aload_n 0, 1) := by decide +kernel
theorem d_lw_law_597 : decode b_lw_law 597 = .ok (.iload 4, 2) := by decide +kernel
theorem d_lw_law_599 : decode b_lw_law 599 = .ok (.iconst 1, 1) := by decide +kernel
theorem d_lw_law_600 : decode b_lw_law 600 = .ok (.iadd, 1) := by decide +kernel
theorem d_lw_law_601 : decode b_lw_law 601 = .ok (.iaload, 1) := by decide +kernel
theorem d_lw_law_602 : decode b_lw_law 602 = .ok (.aload_n 3, 1) := by decide +kernel
theorem d_lw_law_603 : decode b_lw_law 603 = .ok (.invokestatic 110, 3) := by decide +kernel
theorem d_lw_law_606 : decode b_lw_law 606 = .ok (.istore 5, 2) := by decide +kernel
theorem d_lw_law_608 : decode b_lw_law 608 = .ok (.aload_n 2, 1) := by decide +kernel
theorem d_lw_law_609 : decode b_lw_law 609 = .ok (.aload_n 0, 1) := by decide +kernel
theorem d_lw_law_610 : decode b_lw_law 610 = .ok (.iload 4, 2) := by decide +kernel
theorem d_lw_law_612 : decode b_lw_law 612 = .ok (.iconst 1, 1) := by decide +kernel
theorem d_lw_law_613 : decode b_lw_law 613 = .ok (.iadd, 1) := by decide +kernel
theorem d_lw_law_614 : decode b_lw_law 614 = .ok (.iaload, 1) := by decide +kernel
theorem d_lw_law_615 : decode b_lw_law 615 = .ok (.invokevirtual 112, 3) := by decide +kernel
theorem d_lw_law_618 : decode b_lw_law 618 = .ok (.istore 6, 2) := by decide +kernel
theorem d_lw_law_620 : decode b_lw_law 620 = .ok (.aload_n 2, 1) := by decide +kernel
theorem d_lw_law_621 : decode b_lw_law 621 = .ok (.invokevirtual 83, 3) := by decide +kernel
theorem d_lw_law_624 : decode b_lw_law 624 = .ok (.iload 5, 2) := by decide +kernel
theorem d_lw_law_626 : decode b_lw_law 626 = .ok (.if_icmp .eq 5, 3) := by decide +kernel
theorem d_lw_law_629 : decode b_lw_law 629 = .ok (.iconst 0, 1) := by decide +kernel
theorem d_lw_law_630 : decode b_lw_law 630 = .ok (.ireturn, 1) := by decide +kernel
theorem d_lw_law_631 : decode b_lw_law 631 = .ok (.iload 5, 2) := by decide +kernel
theorem d_lw_law_633 : decode b_lw_law 633 = .ok (.ifCond .ne 15, 3) := by decide +kernel
theorem d_lw_law_636 : decode b_lw_law 636 = .ok (.aload_n 3, 1) := by decide +kernel
theorem d_lw_law_637 : decode b_lw_law 637 = .ok (.iconst 0, 1) := by decide +kernel
theorem d_lw_law_638 : decode b_lw_law 638 = .ok (.laload, 1) := by decide +kernel
theorem d_lw_law_639 : decode b_lw_law 639 = .ok (.iload 6, 2) := by decide +kernel
theorem d_lw_law_641 : decode b_lw_law 641 = .ok (.i2l, 1) := by decide +kernel
theorem d_lw_law_642 : decode b_lw_law 642 = .ok (.lcmp, 1) := by decide +kernel
theorem d_lw_law_643 : decode b_lw_law 643 = .ok (.ifCond .eq 5, 3) := by decide +kernel
theorem d_lw_law_646 : decode b_lw_law 646 = .ok (.iconst 0, 1) := by decide +kernel
theorem d_lw_law_647 : decode b_lw_law 647 = .ok (.ireturn, 1) := by decide +kernel
theorem d_lw_law_648 : decode b_lw_law 648 = .ok (.goto 607, 3) := by decide +kernel
theorem d_lw_law_651 : decode b_lw_law 651 = .ok (.aload_n 1, 1) := by decide +kernel
theorem d_lw_law_652 : decode b_lw_law 652 = .ok (.invokevirtual 113, 3) := by decide +kernel
theorem d_lw_law_655 : decode b_lw_law 655 = .ok (.aload_n 2, 1) := by decide +kernel
theorem d_lw_law_656 : decode b_lw_law 656 = .ok (.invokevirtual 116, 3) := by decide +kernel
theorem d_lw_law_659 : decode b_lw_law 659 = .ok (.if_icmp .eq 596, 3) := by decide +kernel
theorem d_lw_law_662 : decode b_lw_law 662 = .ok (.iconst 0, 1) := by decide +kernel
theorem d_lw_law_663 : decode b_lw_law 663 = .ok (.ireturn, 1) := by decide +kernel
theorem d_lw_law_664 : decode b_lw_law 664 = .ok (.aload_n 1, 1) := by decide +kernel
theorem d_lw_law_665 : decode b_lw_law 665 = .ok (.aload_n 0, 1) := by decide +kernel
theorem d_lw_law_666 : decode b_lw_law 666 = .ok (.iload 4, 2) := by decide +kernel
theorem d_lw_law_668 : decode b_lw_law 668 = .ok (.iconst 1, 1) := by decide +kernel
theorem d_lw_law_669 : decode b_lw_law 669 = .ok (.iadd, 1) := by decide +kernel
theorem d_lw_law_670 : decode b_lw_law 670 = .ok (.iaload, 1) := by decide +kernel
theorem d_lw_law_671 : decode b_lw_law 671 = .ok (.aload_n 0, 1) := by decide +kernel
theorem d_lw_law_672 : decode b_lw_law 672 = .ok (.iload 4, 2) := by decide +kernel
theorem d_lw_law_674 : decode b_lw_law 674 = .ok (.iconst 2, 1) := by decide +kernel
theorem d_lw_law_675 : decode b_lw_law 675 = .ok (.iadd, 1) := by decide +kernel
theorem d_lw_law_676 : decode b_lw_law 676 = .ok (.iaload, 1) := by decide +kernel
theorem d_lw_law_677 : decode b_lw_law 677 = .ok (.i2l, 1) := by decide +kernel
theorem d_lw_law_678 : decode b_lw_law 678 = .ok (.bipush 32, 2) := by decide +kernel
theorem d_lw_law_680 : decode b_lw_law 680 = .ok (.lshl, 1) := by decide +kernel
theorem d_lw_law_681 : decode b_lw_law 681 = .ok (.aload_n 0, 1) := by decide +kernel
theorem d_lw_law_682 : decode b_lw_law 682 = .ok (.iload 4, 2) := by decide +kernel
theorem d_lw_law_684 : decode b_lw_law 684 = .ok (.iconst 3, 1) := by decide +kernel
theorem d_lw_law_685 : decode b_lw_law 685 = .ok (.iadd, 1) := by decide +kernel
theorem d_lw_law_686 : decode b_lw_law 686 = .ok (.iaload, 1) := by decide +kernel
theorem d_lw_law_687 : decode b_lw_law 687 = .ok (.i2l, 1) := by decide +kernel
theorem d_lw_law_688 : decode b_lw_law 688 = .ok (.ldc2_w 75, 3) := by decide +kernel
theorem d_lw_law_691 : decode b_lw_law 691 = .ok (.land, 1) := by decide +kernel
theorem d_lw_law_692 : decode b_lw_law 692 = .ok (.lor, 1) := by decide +kernel
theorem d_lw_law_693 : decode b_lw_law 693 = .ok (.aload_n 3, 1) := by decide +kernel
theorem d_lw_law_694 : decode b_lw_law 694 = .ok (.invokestatic 117, 3) := by decide +kernel
theorem d_lw_law_697 : decode b_lw_law 697 = .ok (.istore 5, 2) := by decide +kernel
theorem d_lw_law_699 : decode b_lw_law 699 = .ok (.aload_n 2, 1) := by decide +kernel
theorem d_lw_law_700 : decode b_lw_law 700 = .ok (.aload_n 0, 1) := by decide +kernel
theorem d_lw_law_701 : decode b_lw_law 701 = .ok (.iload 4, 2) := by decide +kernel
theorem d_lw_law_703 : decode b_lw_law 703 = .ok (.iconst 1, 1) := by decide +kernel
theorem d_lw_law_704 : decode b_lw_law 704 = .ok (.iadd, 1) := by decide +kernel
theorem d_lw_law_705 : decode b_lw_law 705 = .ok (.iaload, 1) := by decide +kernel
theorem d_lw_law_706 : decode b_lw_law 706 = .ok (.aload_n 0, 1) := by decide +kernel
theorem d_lw_law_707 : decode b_lw_law 707 = .ok (.iload 4, 2) := by decide +kernel
theorem d_lw_law_709 : decode b_lw_law 709 = .ok (.iconst 2, 1) := by decide +kernel
theorem d_lw_law_710 : decode b_lw_law 710 = .ok (.iadd, 1) := by decide +kernel
theorem d_lw_law_711 : decode b_lw_law 711 = .ok (.iaload, 1) := by decide +kernel
theorem d_lw_law_712 : decode b_lw_law 712 = .ok (.i2l, 1) := by decide +kernel
theorem d_lw_law_713 : decode b_lw_law 713 = .ok (.bipush 32, 2) := by decide +kernel
theorem d_lw_law_715 : decode b_lw_law 715 = .ok (.lshl, 1) := by decide +kernel
theorem d_lw_law_716 : decode b_lw_law 716 = .ok (.aload_n 0, 1) := by decide +kernel
theorem d_lw_law_717 : decode b_lw_law 717 = .ok (.iload 4, 2) := by decide +kernel
theorem d_lw_law_719 : decode b_lw_law 719 = .ok (.iconst 3, 1) := by decide +kernel
theorem d_lw_law_720 : decode b_lw_law 720 = .ok (.iadd, 1) := by decide +kernel
theorem d_lw_law_721 : decode b_lw_law 721 = .ok (.iaload, 1) := by decide +kernel
theorem d_lw_law_722 : decode b_lw_law 722 = .ok (.i2l, 1) := by decide +kernel
theorem d_lw_law_723 : decode b_lw_law 723 = .ok (.ldc2_w 75, 3) := by decide +kernel
theorem d_lw_law_726 : decode b_lw_law 726 = .ok (.land, 1) := by decide +kernel
theorem d_lw_law_727 : decode b_lw_law 727 = .ok (.lor, 1) := by decide +kernel
theorem d_lw_law_728 : decode b_lw_law 728 = .ok (.invokevirtual 120, 3) := by decide +kernel
theorem d_lw_law_731 : decode b_lw_law 731 = .ok (.lstore 6, 2) := by decide +kernel
theorem d_lw_law_733 : decode b_lw_law 733 = .ok (.aload_n 2, 1) := by decide +kernel
theorem d_lw_law_734 : decode b_lw_law 734 = .ok (.invokevirtual 83, 3) := by decide +kernel
theorem d_lw_law_737 : decode b_lw_law 737 = .ok (.iload 5, 2) := by decide +kernel
theorem d_lw_law_739 : decode b_lw_law 739 = .ok (.if_icmp .eq 5, 3) := by decide +kernel
theorem d_lw_law_742 : decode b_lw_law 742 = .ok (.iconst 0, 1) := by decide +kernel
theorem d_lw_law_743 : decode b_lw_law 743 = .ok (.ireturn, 1) := by decide +kernel
theorem d_lw_law_744 : decode b_lw_law 744 = .ok (.iload 5, 2) := by decide +kernel
theorem d_lw_law_746 : decode b_lw_law 746 = .ok (.ifCond .ne 14, 3) := by decide +kernel
theorem d_lw_law_749 : decode b_lw_law 749 = .ok (.aload_n 3, 1) := by decide +kernel
theorem d_lw_law_750 : decode b_lw_law 750 = .ok (.iconst 0, 1) := by decide +kernel
theorem d_lw_law_751 : decode b_lw_law 751 = .ok (.laload, 1) := by decide +kernel
theorem d_lw_law_752 : decode b_lw_law 752 = .ok (.lload 6, 2) := by decide +kernel
theorem d_lw_law_754 : decode b_lw_law 754 = .ok (.lcmp, 1) := by decide +kernel
theorem d_lw_law_755 : decode b_lw_law 755 = .ok (.ifCond .eq 5, 3) := by decide +kernel
theorem d_lw_law_758 : decode b_lw_law 758 = .ok (.iconst 0, 1) := by decide +kernel
theorem d_lw_law_759 : decode b_lw_law 759 = .ok (.ireturn, 1) := by decide +kernel
theorem d_lw_law_760 : decode b_lw_law 760 = .ok (.goto 495, 3) := by decide +kernel
theorem d_lw_law_763 : decode b_lw_law 763 = .ok (.aload_n 1, 1) := by decide +kernel
theorem d_lw_law_764 : decode b_lw_law 764 = .ok (.aload_n 0, 1) := by decide +kernel
theorem d_lw_law_765 : decode b_lw_law 765 = .ok (.iload 4, 2) := by decide +kernel
theorem d_lw_law_767 : decode b_lw_law 767 = .ok (.iconst 1, 1) := by decide +kernel
theorem d_lw_law_768 : decode b_lw_law 768 = .ok (.iadd, 1) := by decide +kernel
theorem d_lw_law_769 : decode b_lw_law 769 = .ok (.iaload, 1) := by decide +kernel
theorem d_lw_law_770 : decode b_lw_law 770 = .ok (.aload_n 0, 1) := by decide +kernel
theorem d_lw_law_771 : decode b_lw_law 771 = .ok (.iload 4, 2) := by decide +kernel
theorem d_lw_law_773 : decode b_lw_law 773 = .ok (.iconst 2, 1) := by decide +kernel
theorem d_lw_law_774 : decode b_lw_law 774 = .ok (.iadd, 1) := by decide +kernel
theorem d_lw_law_775 : decode b_lw_law 775 = .ok (.iaload, 1) := by decide +kernel
theorem d_lw_law_776 : decode b_lw_law 776 = .ok (.i2l, 1) := by decide +kernel
theorem d_lw_law_777 : decode b_lw_law 777 = .ok (.bipush 32, 2) := by decide +kernel
theorem d_lw_law_779 : decode b_lw_law 779 = .ok (.lshl, 1) := by decide +kernel
theorem d_lw_law_780 : decode b_lw_law 780 = .ok (.aload_n 0, 1) := by decide +kernel
theorem d_lw_law_781 : decode b_lw_law 781 = .ok (.iload 4, 2) := by decide +kernel
theorem d_lw_law_783 : decode b_lw_law 783 = .ok (.iconst 3, 1) := by decide +kernel
theorem d_lw_law_784 : decode b_lw_law 784 = .ok (.iadd, 1) := by decide +kernel
theorem d_lw_law_785 : decode b_lw_law 785 = .ok (.iaload, 1) := by decide +kernel
theorem d_lw_law_786 : decode b_lw_law 786 = .ok (.i2l, 1) := by decide +kernel
theorem d_lw_law_787 : decode b_lw_law 787 = .ok (.ldc2_w 75, 3) := by decide +kernel
theorem d_lw_law_790 : decode b_lw_law 790 = .ok (.land, 1) := by decide +kernel
theorem d_lw_law_791 : decode b_lw_law 791 = .ok (.lor, 1) := by decide +kernel
theorem d_lw_law_792 : decode b_lw_law 792 = .ok (.aload_n 0, 1) := by decide +kernel
theorem d_lw_law_793 : decode b_lw_law 793 = .ok (.iload 4, 2) := by decide +kernel
theorem d_lw_law_795 : decode b_lw_law 795 = .ok (.iconst 4, 1) := by decide +kernel
theorem d_lw_law_796 : decode b_lw_law 796 = .ok (.iadd, 1) := by decide +kernel
theorem d_lw_law_797 : decode b_lw_law 797 = .ok (.iaload, 1) := by decide +kernel
theorem d_lw_law_798 : decode b_lw_law 798 = .ok (.aload_n 3, 1) := by decide +kernel
theorem d_lw_law_799 : decode b_lw_law 799 = .ok (.invokestatic 121, 3) := by decide +kernel
theorem d_lw_law_802 : decode b_lw_law 802 = .ok (.istore 5, 2) := by decide +kernel
theorem d_lw_law_804 : decode b_lw_law 804 = .ok (.aload_n 2, 1) := by decide +kernel
theorem d_lw_law_805 : decode b_lw_law 805 = .ok (.aload_n 0, 1) := by decide +kernel
theorem d_lw_law_806 : decode b_lw_law 806 = .ok (.iload 4, 2) := by decide +kernel
theorem d_lw_law_808 : decode b_lw_law 808 = .ok (.iconst 1, 1) := by decide +kernel
theorem d_lw_law_809 : decode b_lw_law 809 = .ok (.iadd, 1) := by decide +kernel
theorem d_lw_law_810 : decode b_lw_law 810 = .ok (.iaload, 1) := by decide +kernel
theorem d_lw_law_811 : decode b_lw_law 811 = .ok (.aload_n 0, 1) := by decide +kernel
theorem d_lw_law_812 : decode b_lw_law 812 = .ok (.iload 4, 2) := by decide +kernel
theorem d_lw_law_814 : decode b_lw_law 814 = .ok (.iconst 2, 1) := by decide +kernel
theorem d_lw_law_815 : decode b_lw_law 815 = .ok (.iadd, 1) := by decide +kernel
theorem d_lw_law_816 : decode b_lw_law 816 = .ok (.iaload, 1) := by decide +kernel
theorem d_lw_law_817 : decode b_lw_law 817 = .ok (.i2l, 1) := by decide +kernel
theorem d_lw_law_818 : decode b_lw_law 818 = .ok (.bipush 32, 2) := by decide +kernel
theorem d_lw_law_820 : decode b_lw_law 820 = .ok (.lshl, 1) := by decide +kernel
theorem d_lw_law_821 : decode b_lw_law 821 = .ok (.aload_n 0, 1) := by decide +kernel
theorem d_lw_law_822 : decode b_lw_law 822 = .ok (.iload 4, 2) := by decide +kernel
theorem d_lw_law_824 : decode b_lw_law 824 = .ok (.iconst 3, 1) := by decide +kernel
theorem d_lw_law_825 : decode b_lw_law 825 = .ok (.iadd, 1) := by decide +kernel
theorem d_lw_law_826 : decode b_lw_law 826 = .ok (.iaload, 1) := by decide +kernel
theorem d_lw_law_827 : decode b_lw_law 827 = .ok (.i2l, 1) := by decide +kernel
theorem d_lw_law_828 : decode b_lw_law 828 = .ok (.ldc2_w 75, 3) := by decide +kernel
theorem d_lw_law_831 : decode b_lw_law 831 = .ok (.land, 1) := by decide +kernel
theorem d_lw_law_832 : decode b_lw_law 832 = .ok (.lor, 1) := by decide +kernel
theorem d_lw_law_833 : decode b_lw_law 833 = .ok (.aload_n 0, 1) := by decide +kernel
theorem d_lw_law_834 : decode b_lw_law 834 = .ok (.iload 4, 2) := by decide +kernel
theorem d_lw_law_836 : decode b_lw_law 836 = .ok (.iconst 4, 1) := by decide +kernel
theorem d_lw_law_837 : decode b_lw_law 837 = .ok (.iadd, 1) := by decide +kernel
theorem d_lw_law_838 : decode b_lw_law 838 = .ok (.iaload, 1) := by decide +kernel
theorem d_lw_law_839 : decode b_lw_law 839 = .ok (.invokevirtual 124, 3) := by decide +kernel
theorem d_lw_law_842 : decode b_lw_law 842 = .ok (.istore 6, 2) := by decide +kernel
theorem d_lw_law_844 : decode b_lw_law 844 = .ok (.aload_n 2, 1) := by decide +kernel
theorem d_lw_law_845 : decode b_lw_law 845 = .ok (.invokevirtual 83, 3) := by decide +kernel
theorem d_lw_law_848 : decode b_lw_law 848 = .ok (.iload 5, 2) := by decide +kernel
theorem d_lw_law_850 : decode b_lw_law 850 = .ok (.if_icmp .eq 5, 3) := by decide +kernel
theorem d_lw_law_853 : decode b_lw_law 853 = .ok (.iconst 0, 1) := by decide +kernel
theorem d_lw_law_854 : decode b_lw_law 854 = .ok (.ireturn, 1) := by decide +kernel
theorem d_lw_law_855 : decode b_lw_law 855 = .ok (.iload 5, 2) := by decide +kernel
theorem d_lw_law_857 : decode b_lw_law 857 = .ok (.ifCond .ne 15, 3) := by decide +kernel
theorem d_lw_law_860 : decode b_lw_law 860 = .ok (.aload_n 3, 1) := by decide +kernel
theorem d_lw_law_861 : decode b_lw_law 861 = .ok (.iconst 0, 1) := by decide +kernel
theorem d_lw_law_862 : decode b_lw_law 862 = .ok (.laload, 1) := by decide +kernel
theorem d_lw_law_863 : decode b_lw_law 863 = .ok (.iload 6, 2) := by decide +kernel
theorem d_lw_law_865 : decode b_lw_law 865 = .ok (.i2l, 1) := by decide +kernel
theorem d_lw_law_866 : decode b_lw_law 866 = .ok (.lcmp, 1) := by decide +kernel
theorem d_lw_law_867 : decode b_lw_law 867 = .ok (.ifCond .eq 5, 3) := by decide +kernel
theorem d_lw_law_870 : decode b_lw_law 870 = .ok (.iconst 0, 1) := by decide +kernel
theorem d_lw_law_871 : decode b_lw_law 871 = .ok (.ireturn, 1) := by decide +kernel
theorem d_lw_law_872 : decode b_lw_law 872 = .ok (.goto 383, 3) := by decide +kernel
theorem d_lw_law_875 : decode b_lw_law 875 = .ok (.aload_n 1, 1) := by decide +kernel
theorem d_lw_law_876 : decode b_lw_law 876 = .ok (.aload_n 0, 1) := by decide +kernel
theorem d_lw_law_877 : decode b_lw_law 877 = .ok (.iload 4, 2) := by decide +kernel
theorem d_lw_law_879 : decode b_lw_law 879 = .ok (.iconst 1, 1) := by decide +kernel
theorem d_lw_law_880 : decode b_lw_law 880 = .ok (.iadd, 1) := by decide +kernel
theorem d_lw_law_881 : decode b_lw_law 881 = .ok (.iaload, 1) := by decide +kernel
theorem d_lw_law_882 : decode b_lw_law 882 = .ok (.aload_n 0, 1) := by decide +kernel
theorem d_lw_law_883 : decode b_lw_law 883 = .ok (.iload 4, 2) := by decide +kernel
theorem d_lw_law_885 : decode b_lw_law 885 = .ok (.iconst 2, 1) := by decide +kernel
theorem d_lw_law_886 : decode b_lw_law 886 = .ok (.iadd, 1) := by decide +kernel
theorem d_lw_law_887 : decode b_lw_law 887 = .ok (.iaload, 1) := by decide +kernel
theorem d_lw_law_888 : decode b_lw_law 888 = .ok (.aload_n 3, 1) := by decide +kernel
theorem d_lw_law_889 : decode b_lw_law 889 = .ok (.invokestatic 125, 3) := by decide +kernel
theorem d_lw_law_892 : decode b_lw_law 892 = .ok (.istore 5, 2) := by decide +kernel
theorem d_lw_law_894 : decode b_lw_law 894 = .ok (.aload_n 2, 1) := by decide +kernel
theorem d_lw_law_895 : decode b_lw_law 895 = .ok (.aload_n 0, 1) := by decide +kernel
theorem d_lw_law_896 : decode b_lw_law 896 = .ok (.iload 4, 2) := by decide +kernel
theorem d_lw_law_898 : decode b_lw_law 898 = .ok (.iconst 1, 1) := by decide +kernel
theorem d_lw_law_899 : decode b_lw_law 899 = .ok (.iadd, 1) := by decide +kernel
theorem d_lw_law_900 : decode b_lw_law 900 = .ok (.iaload, 1) := by decide +kernel
theorem d_lw_law_901 : decode b_lw_law 901 = .ok (.aload_n 0, 1) := by decide +kernel
theorem d_lw_law_902 : decode b_lw_law 902 = .ok (.iload 4, 2) := by decide +kernel
theorem d_lw_law_904 : decode b_lw_law 904 = .ok (.iconst 2, 1) := by decide +kernel
theorem d_lw_law_905 : decode b_lw_law 905 = .ok (.iadd, 1) := by decide +kernel
theorem d_lw_law_906 : decode b_lw_law 906 = .ok (.iaload, 1) := by decide +kernel
theorem d_lw_law_907 : decode b_lw_law 907 = .ok (.invokevirtual 127, 3) := by decide +kernel
theorem d_lw_law_910 : decode b_lw_law 910 = .ok (.lstore 6, 2) := by decide +kernel
theorem d_lw_law_912 : decode b_lw_law 912 = .ok (.aload_n 2, 1) := by decide +kernel
theorem d_lw_law_913 : decode b_lw_law 913 = .ok (.invokevirtual 83, 3) := by decide +kernel
theorem d_lw_law_916 : decode b_lw_law 916 = .ok (.iload 5, 2) := by decide +kernel
theorem d_lw_law_918 : decode b_lw_law 918 = .ok (.if_icmp .eq 5, 3) := by decide +kernel
theorem d_lw_law_921 : decode b_lw_law 921 = .ok (.iconst 0, 1) := by decide +kernel
theorem d_lw_law_922 : decode b_lw_law 922 = .ok (.ireturn, 1) := by decide +kernel
theorem d_lw_law_923 : decode b_lw_law 923 = .ok (.iload 5, 2) := by decide +kernel
theorem d_lw_law_925 : decode b_lw_law 925 = .ok (.ifCond .ne 14, 3) := by decide +kernel
theorem d_lw_law_928 : decode b_lw_law 928 = .ok (.aload_n 3, 1) := by decide +kernel
theorem d_lw_law_929 : decode b_lw_law 929 = .ok (.iconst 0, 1) := by decide +kernel
theorem d_lw_law_930 : decode b_lw_law 930 = .ok (.laload, 1) := by decide +kernel
theorem d_lw_law_931 : decode b_lw_law 931 = .ok (.lload 6, 2) := by decide +kernel
theorem d_lw_law_933 : decode b_lw_law 933 = .ok (.lcmp, 1) := by decide +kernel
theorem d_lw_law_934 : decode b_lw_law 934 = .ok (.ifCond .eq 5, 3) := by decide +kernel
theorem d_lw_law_937 : decode b_lw_law 937 = .ok (.iconst 0, 1) := by decide +kernel
theorem d_lw_law_938 : decode b_lw_law 938 = .ok (.ireturn, 1) := by decide +kernel
theorem d_lw_law_939 : decode b_lw_law 939 = .ok (.goto 316, 3) := by decide +kernel
theorem d_lw_law_942 : decode b_lw_law 942 = .ok (.aload_n 1, 1) := by decide +kernel
theorem d_lw_law_943 : decode b_lw_law 943 = .ok (.aload_n 0, 1) := by decide +kernel
theorem d_lw_law_944 : decode b_lw_law 944 = .ok (.iload 4, 2) := by decide +kernel
theorem d_lw_law_946 : decode b_lw_law 946 = .ok (.iconst 1, 1) := by decide +kernel
theorem d_lw_law_947 : decode b_lw_law 947 = .ok (.iadd, 1) := by decide +kernel
theorem d_lw_law_948 : decode b_lw_law 948 = .ok (.iaload, 1) := by decide +kernel
theorem d_lw_law_949 : decode b_lw_law 949 = .ok (.aload_n 0, 1) := by decide +kernel
theorem d_lw_law_950 : decode b_lw_law 950 = .ok (.iload 4, 2) := by decide +kernel
theorem d_lw_law_952 : decode b_lw_law 952 = .ok (.iconst 2, 1) := by decide +kernel
theorem d_lw_law_953 : decode b_lw_law 953 = .ok (.iadd, 1) := by decide +kernel
theorem d_lw_law_954 : decode b_lw_law 954 = .ok (.iaload, 1) := by decide +kernel
theorem d_lw_law_955 : decode b_lw_law 955 = .ok (.aload_n 3, 1) := by decide +kernel
theorem d_lw_law_956 : decode b_lw_law 956 = .ok (.invokestatic 128, 3) := by decide +kernel
theorem d_lw_law_959 : decode b_lw_law 959 = .ok (.istore 5, 2) := by decide +kernel
theorem d_lw_law_961 : decode b_lw_law 961 = .ok (.aload_n 2, 1) := by decide +kernel
theorem d_lw_law_962 : decode b_lw_law 962 = .ok (.aload_n 0, 1) := by decide +kernel
theorem d_lw_law_963 : decode b_lw_law 963 = .ok (.iload 4, 2) := by decide +kernel
theorem d_lw_law_965 : decode b_lw_law 965 = .ok (.iconst 1, 1) := by decide +kernel
theorem d_lw_law_966 : decode b_lw_law 966 = .ok (.iadd, 1) := by decide +kernel
theorem d_lw_law_967 : decode b_lw_law 967 = .ok (.iaload, 1) := by decide +kernel
theorem d_lw_law_968 : decode b_lw_law 968 = .ok (.aload_n 0, 1) := by decide +kernel
theorem d_lw_law_969 : decode b_lw_law 969 = .ok (.iload 4, 2) := by decide +kernel
theorem d_lw_law_971 : decode b_lw_law 971 = .ok (.iconst 2, 1) := by decide +kernel
theorem d_lw_law_972 : decode b_lw_law 972 = .ok (.iadd, 1) := by decide +kernel
theorem d_lw_law_973 : decode b_lw_law 973 = .ok (.iaload, 1) := by decide +kernel
theorem d_lw_law_974 : decode b_lw_law 974 = .ok (.invokevirtual 130, 3) := by decide +kernel
theorem d_lw_law_977 : decode b_lw_law 977 = .ok (.lstore 6, 2) := by decide +kernel
theorem d_lw_law_979 : decode b_lw_law 979 = .ok (.aload_n 2, 1) := by decide +kernel
theorem d_lw_law_980 : decode b_lw_law 980 = .ok (.invokevirtual 83, 3) := by decide +kernel
theorem d_lw_law_983 : decode b_lw_law 983 = .ok (.iload 5, 2) := by decide +kernel
theorem d_lw_law_985 : decode b_lw_law 985 = .ok (.if_icmp .eq 5, 3) := by decide +kernel
theorem d_lw_law_988 : decode b_lw_law 988 = .ok (.iconst 0, 1) := by decide +kernel
theorem d_lw_law_989 : decode b_lw_law 989 = .ok (.ireturn, 1) := by decide +kernel
theorem d_lw_law_990 : decode b_lw_law 990 = .ok (.iload 5, 2) := by decide +kernel
theorem d_lw_law_992 : decode b_lw_law 992 = .ok (.ifCond .ne 14, 3) := by decide +kernel
theorem d_lw_law_995 : decode b_lw_law 995 = .ok (.aload_n 3, 1) := by decide +kernel
theorem d_lw_law_996 : decode b_lw_law 996 = .ok (.iconst 0, 1) := by decide +kernel
theorem d_lw_law_997 : decode b_lw_law 997 = .ok (.laload, 1) := by decide +kernel
theorem d_lw_law_998 : decode b_lw_law 998 = .ok (.lload 6, 2) := by decide +kernel
theorem d_lw_law_1000 : decode b_lw_law 1000 = .ok (.lcmp, 1) := by decide +kernel
theorem d_lw_law_1001 : decode b_lw_law 1001 = .ok (.ifCond .eq 5, 3) := by decide +kernel
theorem d_lw_law_1004 : decode b_lw_law 1004 = .ok (.iconst 0, 1) := by decide +kernel
theorem d_lw_law_1005 : decode b_lw_law 1005 = .ok (.ireturn, 1) := by decide +kernel
theorem d_lw_law_1006 : decode b_lw_law 1006 = .ok (.goto 249, 3) := by decide +kernel
theorem d_lw_law_1009 : decode b_lw_law 1009 = .ok (.aload_n 1, 1) := by decide +kernel
theorem d_lw_law_1010 : decode b_lw_law 1010 = .ok (.aload_n 0, 1) := by decide +kernel
theorem d_lw_law_1011 : decode b_lw_law 1011 = .ok (.iload 4, 2) := by decide +kernel
theorem d_lw_law_1013 : decode b_lw_law 1013 = .ok (.iconst 1, 1) := by decide +kernel
theorem d_lw_law_1014 : decode b_lw_law 1014 = .ok (.iadd, 1) := by decide +kernel
theorem d_lw_law_1015 : decode b_lw_law 1015 = .ok (.iaload, 1) := by decide +kernel
theorem d_lw_law_1016 : decode b_lw_law 1016 = .ok (.aload_n 0, 1) := by decide +kernel
theorem d_lw_law_1017 : decode b_lw_law 1017 = .ok (.iload 4, 2) := by decide +kernel
theorem d_lw_law_1019 : decode b_lw_law 1019 = .ok (.iconst 2, 1) := by decide +kernel
theorem d_lw_law_1020 : decode b_lw_law 1020 = .ok (.iadd, 1) := by decide +kernel
theorem d_lw_law_1021 : decode b_lw_law 1021 = .ok (.iaload, 1) := by decide +kernel
theorem d_lw_law_1022 : decode b_lw_law 1022 = .ok (.aload_n 3, 1) := by decide +kernel
theorem d_lw_law_1023 : decode b_lw_law 1023 = .ok (.invokestatic 131, 3) := by decide +kernel
theorem d_lw_law_1026 : decode b_lw_law 1026 = .ok (.istore 5, 2) := by decide +kernel
theorem d_lw_law_1028 : decode b_lw_law 1028 = .ok (.aload_n 2, 1) := by decide +kernel
theorem d_lw_law_1029 : decode b_lw_law 1029 = .ok (.aload_n 0, 1) := by decide +kernel
theorem d_lw_law_1030 : decode b_lw_law 1030 = .ok (.iload 4, 2) := by decide +kernel
theorem d_lw_law_1032 : decode b_lw_law 1032 = .ok (.iconst 1, 1) := by decide +kernel
theorem d_lw_law_1033 : decode b_lw_law 1033 = .ok (.iadd, 1) := by decide +kernel
theorem d_lw_law_1034 : decode b_lw_law 1034 = .ok (.iaload, 1) := by decide +kernel
theorem d_lw_law_1035 : decode b_lw_law 1035 = .ok (.aload_n 0, 1) := by decide +kernel
theorem d_lw_law_1036 : decode b_lw_law 1036 = .ok (.iload 4, 2) := by decide +kernel
theorem d_lw_law_1038 : decode b_lw_law 1038 = .ok (.iconst 2, 1) := by decide +kernel
theorem d_lw_law_1039 : decode b_lw_law 1039 = .ok (.iadd, 1) := by decide +kernel
theorem d_lw_law_1040 : decode b_lw_law 1040 = .ok (.iaload, 1) := by decide +kernel
theorem d_lw_law_1041 : decode b_lw_law 1041 = .ok (.invokevirtual 133, 3) := by decide +kernel
theorem d_lw_law_1044 : decode b_lw_law 1044 = .ok (.lstore 6, 2) := by decide +kernel
theorem d_lw_law_1046 : decode b_lw_law 1046 = .ok (.aload_n 2, 1) := by decide +kernel
theorem d_lw_law_1047 : decode b_lw_law 1047 = .ok (.invokevirtual 83, 3) := by decide +kernel
theorem d_lw_law_1050 : decode b_lw_law 1050 = .ok (.iload 5, 2) := by decide +kernel
theorem d_lw_law_1052 : decode b_lw_law 1052 = .ok (.if_icmp .eq 5, 3) := by decide +kernel
theorem d_lw_law_1055 : decode b_lw_law 1055 = .ok (.iconst 0, 1) := by decide +kernel
theorem d_lw_law_1056 : decode b_lw_law 1056 = .ok (.ireturn, 1) := by decide +kernel
theorem d_lw_law_1057 : decode b_lw_law 1057 = .ok (.iload 5, 2) := by decide +kernel
theorem d_lw_law_1059 : decode b_lw_law 1059 = .ok (.ifCond .ne 14, 3) := by decide +kernel
theorem d_lw_law_1062 : decode b_lw_law 1062 = .ok (.aload_n 3, 1) := by decide +kernel
theorem d_lw_law_1063 : decode b_lw_law 1063 = .ok (.iconst 0, 1) := by decide +kernel
theorem d_lw_law_1064 : decode b_lw_law 1064 = .ok (.laload, 1) := by decide +kernel
theorem d_lw_law_1065 : decode b_lw_law 1065 = .ok (.lload 6, 2) := by decide +kernel
theorem d_lw_law_1067 : decode b_lw_law 1067 = .ok (.lcmp, 1) := by decide +kernel
theorem d_lw_law_1068 : decode b_lw_law 1068 = .ok (.ifCond .eq 5, 3) := by decide +kernel
theorem d_lw_law_1071 : decode b_lw_law 1071 = .ok (.iconst 0, 1) := by decide +kernel
theorem d_lw_law_1072 : decode b_lw_law 1072 = .ok (.ireturn, 1) := by decide +kernel
theorem d_lw_law_1073 : decode b_lw_law 1073 = .ok (.goto 182, 3) := by decide +kernel
theorem d_lw_law_1076 : decode b_lw_law 1076 = .ok (.aload_n 1, 1) := by decide +kernel
theorem d_lw_law_1077 : decode b_lw_law 1077 = .ok (.aload_n 0, 1) := by decide +kernel
theorem d_lw_law_1078 : decode b_lw_law 1078 = .ok (.iload 4, 2) := by decide +kernel
theorem d_lw_law_1080 : decode b_lw_law 1080 = .ok (.iconst 1, 1) := by decide +kernel
theorem d_lw_law_1081 : decode b_lw_law 1081 = .ok (.iadd, 1) := by decide +kernel
theorem d_lw_law_1082 : decode b_lw_law 1082 = .ok (.iaload, 1) := by decide +kernel
theorem d_lw_law_1083 : decode b_lw_law 1083 = .ok (.aload_n 3, 1) := by decide +kernel
theorem d_lw_law_1084 : decode b_lw_law 1084 = .ok (.invokestatic 134, 3) := by decide +kernel
theorem d_lw_law_1087 : decode b_lw_law 1087 = .ok (.istore 5, 2) := by decide +kernel
theorem d_lw_law_1089 : decode b_lw_law 1089 = .ok (.aload_n 2, 1) := by decide +kernel
theorem d_lw_law_1090 : decode b_lw_law 1090 = .ok (.aload_n 0, 1) := by decide +kernel
theorem d_lw_law_1091 : decode b_lw_law 1091 = .ok (.iload 4, 2) := by decide +kernel
theorem d_lw_law_1093 : decode b_lw_law 1093 = .ok (.iconst 1, 1) := by decide +kernel
theorem d_lw_law_1094 : decode b_lw_law 1094 = .ok (.iadd, 1) := by decide +kernel
theorem d_lw_law_1095 : decode b_lw_law 1095 = .ok (.iaload, 1) := by decide +kernel
theorem d_lw_law_1096 : decode b_lw_law 1096 = .ok (.invokevirtual 136, 3) := by decide +kernel
theorem d_lw_law_1099 : decode b_lw_law 1099 = .ok (.lstore 6, 2) := by decide +kernel
theorem d_lw_law_1101 : decode b_lw_law 1101 = .ok (.aload_n 2, 1) := by decide +kernel
theorem d_lw_law_1102 : decode b_lw_law 1102 = .ok (.invokevirtual 83, 3) := by decide +kernel
theorem d_lw_law_1105 : decode b_lw_law 1105 = .ok (.iload 5, 2) := by decide +kernel
theorem d_lw_law_1107 : decode b_lw_law 1107 = .ok (.if_icmp .eq 5, 3) := by decide +kernel
theorem d_lw_law_1110 : decode b_lw_law 1110 = .ok (.iconst 0, 1) := by decide +kernel
theorem d_lw_law_1111 : decode b_lw_law 1111 = .ok (.ireturn, 1) := by decide +kernel
theorem d_lw_law_1112 : decode b_lw_law 1112 = .ok (.iload 5, 2) := by decide +kernel
theorem d_lw_law_1114 : decode b_lw_law 1114 = .ok (.ifCond .ne 14, 3) := by decide +kernel
theorem d_lw_law_1117 : decode b_lw_law 1117 = .ok (.aload_n 3, 1) := by decide +kernel
theorem d_lw_law_1118 : decode b_lw_law 1118 = .ok (.iconst 0, 1) := by decide +kernel
theorem d_lw_law_1119 : decode b_lw_law 1119 = .ok (.laload, 1) := by decide +kernel
theorem d_lw_law_1120 : decode b_lw_law 1120 = .ok (.lload 6, 2) := by decide +kernel
theorem d_lw_law_1122 : decode b_lw_law 1122 = .ok (.lcmp, 1) := by decide +kernel
theorem d_lw_law_1123 : decode b_lw_law 1123 = .ok (.ifCond .eq 5, 3) := by decide +kernel
theorem d_lw_law_1126 : decode b_lw_law 1126 = .ok (.iconst 0, 1) := by decide +kernel
theorem d_lw_law_1127 : decode b_lw_law 1127 = .ok (.ireturn, 1) := by decide +kernel
theorem d_lw_law_1128 : decode b_lw_law 1128 = .ok (.goto 127, 3) := by decide +kernel
theorem d_lw_law_1131 : decode b_lw_law 1131 = .ok (.aload_n 1, 1) := by decide +kernel
theorem d_lw_law_1132 : decode b_lw_law 1132 = .ok (.aload_n 0, 1) := by decide +kernel
theorem d_lw_law_1133 : decode b_lw_law 1133 = .ok (.iload 4, 2) := by decide +kernel
theorem d_lw_law_1135 : decode b_lw_law 1135 = .ok (.iconst 1, 1) := by decide +kernel
theorem d_lw_law_1136 : decode b_lw_law 1136 = .ok (.iadd, 1) := by decide +kernel
theorem d_lw_law_1137 : decode b_lw_law 1137 = .ok (.iaload, 1) := by decide +kernel
theorem d_lw_law_1138 : decode b_lw_law 1138 = .ok (.aload_n 0, 1) := by decide +kernel
theorem d_lw_law_1139 : decode b_lw_law 1139 = .ok (.iload 4, 2) := by decide +kernel
theorem d_lw_law_1141 : decode b_lw_law 1141 = .ok (.iconst 2, 1) := by decide +kernel
theorem d_lw_law_1142 : decode b_lw_law 1142 = .ok (.iadd, 1) := by decide +kernel
theorem d_lw_law_1143 : decode b_lw_law 1143 = .ok (.iaload, 1) := by decide +kernel
theorem d_lw_law_1144 : decode b_lw_law 1144 = .ok (.aload_n 3, 1) := by decide +kernel
theorem d_lw_law_1145 : decode b_lw_law 1145 = .ok (.invokestatic 137, 3) := by decide +kernel
theorem d_lw_law_1148 : decode b_lw_law 1148 = .ok (.istore 5, 2) := by decide +kernel
theorem d_lw_law_1150 : decode b_lw_law 1150 = .ok (.aload_n 2, 1) := by decide +kernel
theorem d_lw_law_1151 : decode b_lw_law 1151 = .ok (.aload_n 0, 1) := by decide +kernel
theorem d_lw_law_1152 : decode b_lw_law 1152 = .ok (.iload 4, 2) := by decide +kernel
theorem d_lw_law_1154 : decode b_lw_law 1154 = .ok (.iconst 1, 1) := by decide +kernel
theorem d_lw_law_1155 : decode b_lw_law 1155 = .ok (.iadd, 1) := by decide +kernel
theorem d_lw_law_1156 : decode b_lw_law 1156 = .ok (.iaload, 1) := by decide +kernel
theorem d_lw_law_1157 : decode b_lw_law 1157 = .ok (.aload_n 0, 1) := by decide +kernel
theorem d_lw_law_1158 : decode b_lw_law 1158 = .ok (.iload 4, 2) := by decide +kernel
theorem d_lw_law_1160 : decode b_lw_law 1160 = .ok (.iconst 2, 1) := by decide +kernel
theorem d_lw_law_1161 : decode b_lw_law 1161 = .ok (.iadd, 1) := by decide +kernel
theorem d_lw_law_1162 : decode b_lw_law 1162 = .ok (.iaload, 1) := by decide +kernel
theorem d_lw_law_1163 : decode b_lw_law 1163 = .ok (.invokevirtual 139, 3) := by decide +kernel
theorem d_lw_law_1166 : decode b_lw_law 1166 = .ok (.istore 6, 2) := by decide +kernel
theorem d_lw_law_1168 : decode b_lw_law 1168 = .ok (.aload_n 2, 1) := by decide +kernel
theorem d_lw_law_1169 : decode b_lw_law 1169 = .ok (.invokevirtual 83, 3) := by decide +kernel
theorem d_lw_law_1172 : decode b_lw_law 1172 = .ok (.iload 5, 2) := by decide +kernel
theorem d_lw_law_1174 : decode b_lw_law 1174 = .ok (.if_icmp .eq 5, 3) := by decide +kernel
theorem d_lw_law_1177 : decode b_lw_law 1177 = .ok (.iconst 0, 1) := by decide +kernel
theorem d_lw_law_1178 : decode b_lw_law 1178 = .ok (.ireturn, 1) := by decide +kernel
theorem d_lw_law_1179 : decode b_lw_law 1179 = .ok (.iload 5, 2) := by decide +kernel
theorem d_lw_law_1181 : decode b_lw_law 1181 = .ok (.ifCond .ne 15, 3) := by decide +kernel
theorem d_lw_law_1184 : decode b_lw_law 1184 = .ok (.aload_n 3, 1) := by decide +kernel
theorem d_lw_law_1185 : decode b_lw_law 1185 = .ok (.iconst 0, 1) := by decide +kernel
theorem d_lw_law_1186 : decode b_lw_law 1186 = .ok (.laload, 1) := by decide +kernel
theorem d_lw_law_1187 : decode b_lw_law 1187 = .ok (.iload 6, 2) := by decide +kernel
theorem d_lw_law_1189 : decode b_lw_law 1189 = .ok (.i2l, 1) := by decide +kernel
theorem d_lw_law_1190 : decode b_lw_law 1190 = .ok (.lcmp, 1) := by decide +kernel
theorem d_lw_law_1191 : decode b_lw_law 1191 = .ok (.ifCond .eq 5, 3) := by decide +kernel
theorem d_lw_law_1194 : decode b_lw_law 1194 = .ok (.iconst 0, 1) := by decide +kernel
theorem d_lw_law_1195 : decode b_lw_law 1195 = .ok (.ireturn, 1) := by decide +kernel
theorem d_lw_law_1196 : decode b_lw_law 1196 = .ok (.goto 59, 3) := by decide +kernel
theorem d_lw_law_1199 : decode b_lw_law 1199 = .ok (.aload_n 1, 1) := by decide +kernel
theorem d_lw_law_1200 : decode b_lw_law 1200 = .ok (.aload_n 0, 1) := by decide +kernel
theorem d_lw_law_1201 : decode b_lw_law 1201 = .ok (.iload 4, 2) := by decide +kernel
theorem d_lw_law_1203 : decode b_lw_law 1203 = .ok (.iconst 1, 1) := by decide +kernel
theorem d_lw_law_1204 : decode b_lw_law 1204 = .ok (.iadd, 1) := by decide +kernel
theorem d_lw_law_1205 : decode b_lw_law 1205 = .ok (.iaload, 1) := by decide +kernel
theorem d_lw_law_1206 : decode b_lw_law 1206 = .ok (.aload_n 3, 1) := by decide +kernel
theorem d_lw_law_1207 : decode b_lw_law 1207 = .ok (.invokestatic 140, 3) := by decide +kernel
theorem d_lw_law_1210 : decode b_lw_law 1210 = .ok (.istore 5, 2) := by decide +kernel
theorem d_lw_law_1212 : decode b_lw_law 1212 = .ok (.aload_n 2, 1) := by decide +kernel
theorem d_lw_law_1213 : decode b_lw_law 1213 = .ok (.aload_n 0, 1) := by decide +kernel
theorem d_lw_law_1214 : decode b_lw_law 1214 = .ok (.iload 4, 2) := by decide +kernel
theorem d_lw_law_1216 : decode b_lw_law 1216 = .ok (.iconst 1, 1) := by decide +kernel
theorem d_lw_law_1217 : decode b_lw_law 1217 = .ok (.iadd, 1) := by decide +kernel
theorem d_lw_law_1218 : decode b_lw_law 1218 = .ok (.iaload, 1) := by decide +kernel
theorem d_lw_law_1219 : decode b_lw_law 1219 = .ok (.invokevirtual 142, 3) := by decide +kernel
theorem d_lw_law_1222 : decode b_lw_law 1222 = .ok (.istore 6, 2) := by decide +kernel
theorem d_lw_law_1224 : decode b_lw_law 1224 = .ok (.aload_n 2, 1) := by decide +kernel
theorem d_lw_law_1225 : decode b_lw_law 1225 = .ok (.invokevirtual 83, 3) := by decide +kernel
theorem d_lw_law_1228 : decode b_lw_law 1228 = .ok (.iload 5, 2) := by decide +kernel
theorem d_lw_law_1230 : decode b_lw_law 1230 = .ok (.if_icmp .eq 5, 3) := by decide +kernel
theorem d_lw_law_1233 : decode b_lw_law 1233 = .ok (.iconst 0, 1) := by decide +kernel
theorem d_lw_law_1234 : decode b_lw_law 1234 = .ok (.ireturn, 1) := by decide +kernel
theorem d_lw_law_1235 : decode b_lw_law 1235 = .ok (.iload 5, 2) := by decide +kernel
theorem d_lw_law_1237 : decode b_lw_law 1237 = .ok (.ifCond .ne 15, 3) := by decide +kernel
theorem d_lw_law_1240 : decode b_lw_law 1240 = .ok (.aload_n 3, 1) := by decide +kernel
theorem d_lw_law_1241 : decode b_lw_law 1241 = .ok (.iconst 0, 1) := by decide +kernel
theorem d_lw_law_1242 : decode b_lw_law 1242 = .ok (.laload, 1) := by decide +kernel
theorem d_lw_law_1243 : decode b_lw_law 1243 = .ok (.iload 6, 2) := by decide +kernel
theorem d_lw_law_1245 : decode b_lw_law 1245 = .ok (.i2l, 1) := by decide +kernel
theorem d_lw_law_1246 : decode b_lw_law 1246 = .ok (.lcmp, 1) := by decide +kernel
theorem d_lw_law_1247 : decode b_lw_law 1247 = .ok (.ifCond .eq 5, 3) := by decide +kernel
theorem d_lw_law_1250 : decode b_lw_law 1250 = .ok (.iconst 0, 1) := by decide +kernel
theorem d_lw_law_1251 : decode b_lw_law 1251 = .ok (.ireturn, 1) := by decide +kernel
theorem d_lw_law_1252 : decode b_lw_law 1252 = .ok (.goto 3, 3) := by decide +kernel
theorem d_lw_law_1255 : decode b_lw_law 1255 = .ok (.iinc 4 5, 3) := by decide +kernel
theorem d_lw_law_1258 : decode b_lw_law 1258 = .ok (.goto (-1235), 3) := by decide +kernel
theorem d_lw_law_1261 : decode b_lw_law 1261 = .ok (.iconst 1, 1) := by decide +kernel
theorem d_lw_law_1262 : decode b_lw_law 1262 = .ok (.ireturn, 1) := by decide +kernel
