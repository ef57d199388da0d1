/-! the bytes of the methods; rows that decode them -/
abbrev b_bf_init : ByteArray := prog_1_method_1_code
abbrev b_bf_text : ByteArray := prog_1_method_2_code
abbrev b_bf_tariff : ByteArray := prog_1_method_3_code
abbrev b_bf_where : ByteArray := prog_1_method_4_code
abbrev b_bf_use : ByteArray := prog_1_method_5_code
abbrev b_bf_subscribe : ByteArray := prog_1_method_6_code
abbrev b_bf_pause : ByteArray := prog_1_method_7_code
abbrev b_bf_event : ByteArray := prog_1_method_8_code
abbrev b_bf_tick : ByteArray := prog_1_method_9_code
abbrev b_bf_run : ByteArray := prog_1_method_10_code
abbrev b_bf_pay : ByteArray := prog_1_method_11_code
abbrev b_bf_plan : ByteArray := prog_1_method_12_code
abbrev b_bf_charge : ByteArray := prog_1_method_13_code
abbrev b_bf_invoice : ByteArray := prog_1_method_14_code
abbrev b_bf_told : ByteArray := prog_1_method_15_code
abbrev b_bf_books : ByteArray := prog_1_method_16_code
abbrev b_bf_date : ByteArray := prog_1_method_17_code
abbrev b_bf_count : ByteArray := prog_1_method_18_code
abbrev b_bf_isTariff : ByteArray := prog_1_method_19_code
abbrev b_bf_isCustomer : ByteArray := prog_1_method_20_code
abbrev b_bf_isPayable : ByteArray := prog_1_method_21_code
abbrev b_bf_shareOf : ByteArray := prog_1_method_22_code
abbrev b_bf_passDay : ByteArray := prog_1_method_23_code
abbrev b_bf_lookAtStage : ByteArray := prog_1_method_24_code
abbrev b_bf_invoiceDifference : ByteArray := prog_1_method_25_code
abbrev b_bf_spendCredit : ByteArray := prog_1_method_26_code
abbrev b_bf_chargeOf : ByteArray := prog_1_method_27_code
abbrev b_bf_countLiveDays : ByteArray := prog_1_method_28_code
abbrev b_bf_countLiveUnits : ByteArray := prog_1_method_29_code
abbrev b_bf_allOpen : ByteArray := prog_1_method_30_code
abbrev b_bf_allCredit : ByteArray := prog_1_method_31_code
abbrev b_bf_allEarned : ByteArray := prog_1_method_32_code
abbrev b_md_init : ByteArray := prog_10_method_1_code
abbrev b_md_in : ByteArray := prog_10_method_3_code
abbrev b_md_refuse : ByteArray := prog_10_method_4_code
abbrev b_md_text : ByteArray := prog_10_method_5_code
abbrev b_md_look : ByteArray := prog_10_method_6_code
abbrev b_md_blanks : ByteArray := prog_10_method_7_code
abbrev b_md_isDigit : ByteArray := prog_10_method_8_code
abbrev b_md_number : ByteArray := prog_10_method_9_code
abbrev b_md_word : ByteArray := prog_10_method_10_code
abbrev b_md_part : ByteArray := prog_10_method_11_code
abbrev b_md_read : ByteArray := prog_10_method_12_code
abbrev b_md_tariff : ByteArray := prog_10_method_13_code
abbrev b_md_where : ByteArray := prog_10_method_14_code
abbrev b_md_priced : ByteArray := prog_10_method_15_code
abbrev b_md_use : ByteArray := prog_10_method_16_code
abbrev b_md_leaps : ByteArray := prog_10_method_17_code
abbrev b_md_daysOf : ByteArray := prog_10_method_18_code
abbrev b_md_firstOf : ByteArray := prog_10_method_19_code
abbrev b_md_date : ByteArray := prog_10_method_20_code
abbrev b_md_live : ByteArray := prog_10_method_21_code
abbrev b_md_due : ByteArray := prog_10_method_22_code
abbrev b_md_charge : ByteArray := prog_10_method_23_code
abbrev b_md_subscribe : ByteArray := prog_10_method_24_code
abbrev b_md_pause : ByteArray := prog_10_method_25_code
abbrev b_md_event : ByteArray := prog_10_method_26_code
abbrev b_md_overdue : ByteArray := prog_10_method_27_code
abbrev b_md_look2 : ByteArray := prog_10_method_28_code
abbrev b_md_tick : ByteArray := prog_10_method_29_code
abbrev b_md_settle : ByteArray := prog_10_method_30_code
abbrev b_md_run : ByteArray := prog_10_method_31_code
abbrev b_md_pay : ByteArray := prog_10_method_32_code
abbrev b_md_plan : ByteArray := prog_10_method_33_code
abbrev b_md_earned : ByteArray := prog_10_method_34_code
abbrev b_md_invoice : ByteArray := prog_10_method_35_code
abbrev b_md_open : ByteArray := prog_10_method_36_code
abbrev b_md_told : ByteArray := prog_10_method_37_code
abbrev b_md_books : ByteArray := prog_10_method_38_code
abbrev b_md_count : ByteArray := prog_10_method_39_code
abbrev b_al_yearOf : ByteArray := prog_2_method_2_code
abbrev b_al_monthOf : ByteArray := prog_2_method_3_code
abbrev b_al_firstDayOf : ByteArray := prog_2_method_4_code
abbrev b_al_periodOf : ByteArray := prog_2_method_5_code
abbrev b_al_firstDayOfYear : ByteArray := prog_2_method_6_code
abbrev b_al_daysInMonth : ByteArray := prog_2_method_7_code
abbrev b_al_isLeapYear : ByteArray := prog_2_method_8_code
abbrev b_cu_init : ByteArray := prog_3_method_1_code
abbrev b_cu_tariffNow : ByteArray := prog_3_method_2_code
abbrev b_cu_isPaused : ByteArray := prog_3_method_3_code
abbrev b_cu_stage : ByteArray := prog_3_method_4_code
abbrev b_cu_credit : ByteArray := prog_3_method_5_code
abbrev b_cu_isStopped : ByteArray := prog_3_method_6_code
abbrev b_cu_changeTariff : ByteArray := prog_3_method_7_code
abbrev b_cu_setPaused : ByteArray := prog_3_method_8_code
abbrev b_cu_addCredit : ByteArray := prog_3_method_9_code
abbrev b_cu_keepDay : ByteArray := prog_3_method_10_code
abbrev b_cu_liveTariff : ByteArray := prog_3_method_11_code
abbrev b_cu_lookAtStage : ByteArray := prog_3_method_12_code
abbrev b_cu_liveTariffNow : ByteArray := prog_3_method_13_code
abbrev b_cu_stageFor : ByteArray := prog_3_method_14_code
abbrev b_ev_init : ByteArray := prog_4_method_1_code
abbrev b_ev_size : ByteArray := prog_4_method_2_code
abbrev b_ev_isFull : ByteArray := prog_4_method_3_code
abbrev b_ev_has : ByteArray := prog_4_method_4_code
abbrev b_ev_add : ByteArray := prog_4_method_5_code
abbrev b_ev_customerOf : ByteArray := prog_4_method_6_code
abbrev b_ev_dayOf : ByteArray := prog_4_method_7_code
abbrev b_ev_unitsOf : ByteArray := prog_4_method_8_code
abbrev b_ib_init : ByteArray := prog_5_method_1_code
abbrev b_ib_size : ByteArray := prog_5_method_2_code
abbrev b_ib_isFull : ByteArray := prog_5_method_3_code
abbrev b_ib_has : ByteArray := prog_5_method_4_code
abbrev b_ib_add : ByteArray := prog_5_method_5_code
abbrev b_ib_customerOf : ByteArray := prog_5_method_6_code
abbrev b_ib_periodOf : ByteArray := prog_5_method_7_code
abbrev b_ib_amountOf : ByteArray := prog_5_method_8_code
abbrev b_ib_dayOf : ByteArray := prog_5_method_9_code
abbrev b_ib_paidOf : ByteArray := prog_5_method_10_code
abbrev b_ib_overdueDays : ByteArray := prog_5_method_11_code
abbrev b_ib_mostOverdueDays : ByteArray := prog_5_method_12_code
abbrev b_ib_amountsOf : ByteArray := prog_5_method_13_code
abbrev b_ib_allAmounts : ByteArray := prog_5_method_14_code
abbrev b_ib_openOf : ByteArray := prog_5_method_15_code
abbrev b_ib_payOpen : ByteArray := prog_5_method_16_code
abbrev b_pb_init : ByteArray := prog_6_method_1_code
abbrev b_pb_size : ByteArray := prog_6_method_2_code
abbrev b_pb_isFull : ByteArray := prog_6_method_3_code
abbrev b_pb_add : ByteArray := prog_6_method_4_code
abbrev b_pb_amountsOf : ByteArray := prog_6_method_5_code
abbrev b_pb_allAmounts : ByteArray := prog_6_method_6_code
abbrev b_pb_earnedOf : ByteArray := prog_6_method_7_code
abbrev b_tf_init : ByteArray := prog_7_method_1_code
abbrev b_tf_clear : ByteArray := prog_7_method_2_code
abbrev b_tf_copyFrom : ByteArray := prog_7_method_3_code
abbrev b_tf_setFee : ByteArray := prog_7_method_4_code
abbrev b_tf_setFree : ByteArray := prog_7_method_5_code
abbrev b_tf_setLeast : ByteArray := prog_7_method_6_code
abbrev b_tf_setPack : ByteArray := prog_7_method_7_code
abbrev b_tf_setRestPrice : ByteArray := prog_7_method_8_code
abbrev b_tf_addTier : ByteArray := prog_7_method_9_code
abbrev b_tf_hasPack : ByteArray := prog_7_method_10_code
abbrev b_tf_tiers : ByteArray := prog_7_method_11_code
abbrev b_tf_lastTierEnd : ByteArray := prog_7_method_12_code
abbrev b_tf_feeOf : ByteArray := prog_7_method_13_code
abbrev b_tf_useOf : ByteArray := prog_7_method_14_code
abbrev b_tf_priceByPacks : ByteArray := prog_7_method_15_code
abbrev b_tf_priceByTiers : ByteArray := prog_7_method_16_code
abbrev b_tr_init : ByteArray := prog_8_method_1_code
abbrev b_tr_charactersIn : ByteArray := prog_8_method_2_code
abbrev b_tr_append : ByteArray := prog_8_method_3_code
abbrev b_tr_empty : ByteArray := prog_8_method_4_code
abbrev b_tr_forgetFault : ByteArray := prog_8_method_5_code
abbrev b_tr_length : ByteArray := prog_8_method_6_code
abbrev b_tr_parts : ByteArray := prog_8_method_7_code
abbrev b_tr_fault : ByteArray := prog_8_method_8_code
abbrev b_tr_draft : ByteArray := prog_8_method_9_code
abbrev b_tr_readAll : ByteArray := prog_8_method_10_code
abbrev b_tr_readPart : ByteArray := prog_8_method_11_code
abbrev b_tr_readEndOfPart : ByteArray := prog_8_method_12_code
abbrev b_tr_canStand : ByteArray := prog_8_method_13_code
abbrev b_tr_readNumbers : ByteArray := prog_8_method_14_code
abbrev b_tr_readTwoNumbers : ByteArray := prog_8_method_15_code
abbrev b_tr_readNumber : ByteArray := prog_8_method_16_code
abbrev b_tr_skipBlanks : ByteArray := prog_8_method_17_code
abbrev b_tr_skipLetters : ByteArray := prog_8_method_18_code
abbrev b_tr_isLetter : ByteArray := prog_8_method_19_code
abbrev b_tr_wordBetween : ByteArray := prog_8_method_20_code
abbrev b_tr_isSpelled : ByteArray := prog_8_method_21_code
abbrev b_tr_spellingOf : ByteArray := prog_8_method_22_code
abbrev b_lw_text : ByteArray := method_3_code
abbrev b_lw_tariff : ByteArray := method_4_code
abbrev b_lw_use : ByteArray := method_5_code
abbrev b_lw_subscribe : ByteArray := method_6_code
abbrev b_lw_pause : ByteArray := method_7_code
abbrev b_lw_event : ByteArray := method_8_code
abbrev b_lw_tick : ByteArray := method_9_code
abbrev b_lw_pay : ByteArray := method_10_code
abbrev b_lw_plan : ByteArray := method_11_code
abbrev b_lw_charge : ByteArray := method_12_code
abbrev b_lw_invoice : ByteArray := method_13_code
abbrev b_lw_told : ByteArray := method_14_code
abbrev b_lw_books : ByteArray := method_15_code
abbrev b_lw_date : ByteArray := method_16_code
abbrev b_lw_count : ByteArray := method_17_code
abbrev b_lw_law : ByteArray := code
abbrev b_js_length : ByteArray := prog_17_method_54_code
abbrev b_js_coder : ByteArray := prog_17_method_152_code
abbrev b_js_charAt : ByteArray := prog_17_method_56_code
abbrev b_js_isLatin1 : ByteArray := prog_17_method_154_code
abbrev b_j1_charAt : ByteArray := prog_18_method_2_code
abbrev b_js_checkIndex : ByteArray := prog_17_method_155_code
abbrev b_jp_checkIndex : ByteArray := prog_22_method_11_code
theorem d_js_length_0 : decode b_js_length 0 = .ok (.aload_n 0, 1) := by decide +kernel
theorem d_js_length_1 : decode b_js_length 1 = .ok (.getfield 9, 3) := by decide +kernel
theorem d_js_length_4 : decode b_js_length 4 = .ok (.arraylength, 1) := by decide +kernel
theorem d_js_length_5 : decode b_js_length 5 = .ok (.aload_n 0, 1) := by decide +kernel
theorem d_js_length_6 : decode b_js_length 6 = .ok (.invokevirtual 335, 3) := by decide +kernel
theorem d_js_length_9 : decode b_js_length 9 = .ok (.ishr, 1) := by decide +kernel
theorem d_js_length_10 : decode b_js_length 10 = .ok (.ireturn, 1) := by decide +kernel
theorem d_js_coder_0 : decode b_js_coder 0 = .ok (.getstatic 38, 3) := by decide +kernel
theorem d_js_coder_3 : decode b_js_coder 3 = .ok (.ifCond .eq 10, 3) := by decide +kernel
theorem d_js_coder_6 : decode b_js_coder 6 = .ok (.aload_n 0, 1) := by decide +kernel
theorem d_js_coder_7 : decode b_js_coder 7 = .ok (.getfield 15, 3) := by decide +kernel
theorem d_js_coder_10 : decode b_js_coder 10 = .ok (.goto 4, 3) := by decide +kernel
theorem d_js_coder_14 : decode b_js_coder 14 = .ok (.ireturn, 1) := by decide +kernel
theorem d_js_charAt_0 : decode b_js_charAt 0 = .ok (.aload_n 0, 1) := by decide +kernel
theorem d_js_charAt_1 : decode b_js_charAt 1 = .ok (.invokevirtual 492, 3) := by decide +kernel
theorem d_js_charAt_4 : decode b_js_charAt 4 = .ok (.ifCond .eq 12, 3) := by decide +kernel
theorem d_js_charAt_7 : decode b_js_charAt 7 = .ok (.aload_n 0, 1) := by decide +kernel
theorem d_js_charAt_8 : decode b_js_charAt 8 = .ok (.getfield 9, 3) := by decide +kernel
theorem d_js_charAt_11 : decode b_js_charAt 11 = .ok (.iload_n 1, 1) := by decide +kernel
theorem d_js_charAt_12 : decode b_js_charAt 12 = .ok (.invokestatic 495, 3) := by decide +kernel
theorem d_js_charAt_15 : decode b_js_charAt 15 = .ok (.ireturn, 1) := by decide +kernel
theorem d_js_isLatin1_0 : decode b_js_isLatin1 0 = .ok (.getstatic 38, 3) := by decide +kernel
theorem d_js_isLatin1_3 : decode b_js_isLatin1 3 = .ok (.ifCond .eq 14, 3) := by decide +kernel
theorem d_js_isLatin1_6 : decode b_js_isLatin1 6 = .ok (.aload_n 0, 1) := by decide +kernel
theorem d_js_isLatin1_7 : decode b_js_isLatin1 7 = .ok (.getfield 15, 3) := by decide +kernel
theorem d_js_isLatin1_10 : decode b_js_isLatin1 10 = .ok (.ifCond .ne 7, 3) := by decide +kernel
theorem d_js_isLatin1_13 : decode b_js_isLatin1 13 = .ok (.iconst 1, 1) := by decide +kernel
theorem d_js_isLatin1_14 : decode b_js_isLatin1 14 = .ok (.goto 4, 3) := by decide +kernel
theorem d_js_isLatin1_18 : decode b_js_isLatin1 18 = .ok (.ireturn, 1) := by decide +kernel
theorem d_j1_charAt_0 : decode b_j1_charAt 0 = .ok (.iload_n 1, 1) := by decide +kernel
theorem d_j1_charAt_1 : decode b_j1_charAt 1 = .ok (.aload_n 0, 1) := by decide +kernel
theorem d_j1_charAt_2 : decode b_j1_charAt 2 = .ok (.arraylength, 1) := by decide +kernel
theorem d_j1_charAt_3 : decode b_j1_charAt 3 = .ok (.invokestatic 9, 3) := by decide +kernel
theorem d_j1_charAt_6 : decode b_j1_charAt 6 = .ok (.aload_n 0, 1) := by decide +kernel
theorem d_j1_charAt_7 : decode b_j1_charAt 7 = .ok (.iload_n 1, 1) := by decide +kernel
theorem d_j1_charAt_8 : decode b_j1_charAt 8 = .ok (.baload, 1) := by decide +kernel
theorem d_j1_charAt_9 : decode b_j1_charAt 9 = .ok (.sipush 255, 3) := by decide +kernel
theorem d_j1_charAt_12 : decode b_j1_charAt 12 = .ok (.iand, 1) := by decide +kernel
theorem d_j1_charAt_13 : decode b_j1_charAt 13 = .ok (.i2c, 1) := by decide +kernel
theorem d_j1_charAt_14 : decode b_j1_charAt 14 = .ok (.ireturn, 1) := by decide +kernel
theorem d_js_checkIndex_0 : decode b_js_checkIndex 0 = .ok (.iload_n 0, 1) := by decide +kernel
theorem d_js_checkIndex_1 : decode b_js_checkIndex 1 = .ok (.iload_n 1, 1) := by decide +kernel
theorem d_js_checkIndex_2 : decode b_js_checkIndex 2 = .ok (.getstatic 1053, 3) := by decide +kernel
theorem d_js_checkIndex_5 : decode b_js_checkIndex 5 = .ok (.invokestatic 1059, 3) := by decide +kernel
theorem d_js_checkIndex_8 : decode b_js_checkIndex 8 = .ok (.pop, 1) := by decide +kernel
theorem d_js_checkIndex_9 : decode b_js_checkIndex 9 = .ok (.return_, 1) := by decide +kernel
theorem d_jp_checkIndex_0 : decode b_jp_checkIndex 0 = .ok (.iload_n 0, 1) := by decide +kernel
theorem d_jp_checkIndex_1 : decode b_jp_checkIndex 1 = .ok (.ifCond .lt 8, 3) := by decide +kernel
theorem d_jp_checkIndex_4 : decode b_jp_checkIndex 4 = .ok (.iload_n 0, 1) := by decide +kernel
theorem d_jp_checkIndex_5 : decode b_jp_checkIndex 5 = .ok (.iload_n 1, 1) := by decide +kernel
theorem d_jp_checkIndex_6 : decode b_jp_checkIndex 6 = .ok (.if_icmp .lt 10, 3) := by decide +kernel
theorem d_jp_checkIndex_16 : decode b_jp_checkIndex 16 = .ok (.iload_n 0, 1) := by decide +kernel
theorem d_jp_checkIndex_17 : decode b_jp_checkIndex 17 = .ok (.ireturn, 1) := by decide +kernel
