set_option maxRecDepth 10000 in
theorem s_tr_length (l : Launch) (x : Bool) (I : Nat → Nat → Int32) (L : Nat → Nat → Int64)  : qSp l y_tr_length b_tr_length 1 (some .int) x 1 0 0 [.ref 1] 77 (fm I L) (qD (some (.int (I 1 3))) 77 (fm I L)) := by
  refine qSp_of (ini := false) (by decide +kernel) (fun h => nomatch h) (Nat.le_of_ble_eq_true rfl) ?_
  show qR _ _ _ 0 [(0, .ref 1)] [] _ _ _ _
  refine qr_aload_n (pc := 0) d_tr_length_0 rfl rfl ?_
  refine qr_get (v := .int (I 1 3)) (pc := 1) d_tr_length_1 fl_tr_26 (by decide) (by decide) (c_1 _ _) rfl ?_
  exact qr_iret (pc := 4) d_tr_length_4 rfl rfl ⟨rfl, rfl, rfl⟩ (Nat.zero_le _) (Nat.zero_le _)
set_option maxRecDepth 10000 in
theorem s_tr_parts (l : Launch) (x : Bool) (I : Nat → Nat → Int32) (L : Nat → Nat → Int64)  : qSp l y_tr_parts b_tr_parts 1 (some .int) x 1 0 0 [.ref 1] 77 (fm I L) (qD (some (.int (I 1 5))) 77 (fm I L)) := by
  refine qSp_of (ini := false) (by decide +kernel) (fun h => nomatch h) (Nat.le_of_ble_eq_true rfl) ?_
  show qR _ _ _ 0 [(0, .ref 1)] [] _ _ _ _
  refine qr_aload_n (pc := 0) d_tr_parts_0 rfl rfl ?_
  refine qr_get (v := .int (I 1 5)) (pc := 1) d_tr_parts_1 fl_tr_33 (by decide) (by decide) (c_1 _ _) rfl ?_
  exact qr_iret (pc := 4) d_tr_parts_4 rfl rfl ⟨rfl, rfl, rfl⟩ (Nat.zero_le _) (Nat.zero_le _)
set_option maxRecDepth 10000 in
theorem s_tr_fault (l : Launch) (x : Bool) (I : Nat → Nat → Int32) (L : Nat → Nat → Int64)  : qSp l y_tr_fault b_tr_fault 1 (some .int) x 1 0 0 [.ref 1] 77 (fm I L) (qD (some (.int (I 1 6))) 77 (fm I L)) := by
  refine qSp_of (ini := false) (by decide +kernel) (fun h => nomatch h) (Nat.le_of_ble_eq_true rfl) ?_
  show qR _ _ _ 0 [(0, .ref 1)] [] _ _ _ _
  refine qr_aload_n (pc := 0) d_tr_fault_0 rfl rfl ?_
  refine qr_get (v := .int (I 1 6)) (pc := 1) d_tr_fault_1 fl_tr_36 (by decide) (by decide) (c_1 _ _) rfl ?_
  exact qr_iret (pc := 4) d_tr_fault_4 rfl rfl ⟨rfl, rfl, rfl⟩ (Nat.zero_le _) (Nat.zero_le _)
set_option maxRecDepth 10000 in
theorem s_tr_draft (l : Launch) (x : Bool) (I : Nat → Nat → Int32) (L : Nat → Nat → Int64)  : qSp l y_tr_draft b_tr_draft 1 (some (.object "BillForge$Tariff")) x 1 0 0 [.ref 1] 77 (fm I L) (qD (some (.ref 4)) 77 (fm I L)) := by
  refine qSp_of (ini := false) (by decide +kernel) (fun h => nomatch h) (Nat.le_of_ble_eq_true rfl) ?_
  show qR _ _ _ 0 [(0, .ref 1)] [] _ _ _ _
  refine qr_aload_n (pc := 0) d_tr_draft_0 rfl rfl ?_
  refine qr_get (v := .ref 4) (pc := 1) d_tr_draft_1 fl_tr_22 (by decide) (by decide) (c_1 _ _) rfl ?_
  exact qr_aret (pc := 4) d_tr_draft_4 rfl (Or.inl ⟨_, rfl⟩) ⟨rfl, rfl, rfl⟩ (Nat.zero_le _) (Nat.zero_le _)
set_option maxRecDepth 10000 in
theorem s_tr_empty (l : Launch) (x : Bool) (I : Nat → Nat → Int32) (L : Nat → Nat → Int64)  : qSp l y_tr_empty b_tr_empty 1 none x 1 0 0 [.ref 1] 77 (fm I L) (qD none 77 (fm (wI I 1 3 0) L)) := by
  refine qSp_of (ini := false) (by decide +kernel) (fun h => nomatch h) (Nat.le_of_ble_eq_true rfl) ?_
  show qR _ _ _ 0 [(0, .ref 1)] [] _ _ _ _
  refine qr_aload_n (pc := 0) d_tr_empty_0 rfl rfl ?_
  refine qr_iconst (v := 0) (pc := 1) d_tr_empty_1 (by decide) ?_
  refine qr_putI (pc := 2) d_tr_empty_2 fl_tr_26 (by decide) (by decide) (c_1 _ _) (Nat.le_of_ble_eq_true rfl) (qFit_i _) (fun w => rfl) ?_
  exact qr_vret (pc := 5) d_tr_empty_5 rfl ⟨rfl, rfl, rfl⟩ (Nat.zero_le _) (Nat.zero_le _)
set_option maxRecDepth 10000 in
theorem s_tr_forgetFault (l : Launch) (x : Bool) (I : Nat → Nat → Int32) (L : Nat → Nat → Int64)  : qSp l y_tr_forgetFault b_tr_forgetFault 1 none x 1 0 0 [.ref 1] 77 (fm I L) (qD none 77 (fm (wI I 1 6 (-2)) L)) := by
  refine qSp_of (ini := false) (by decide +kernel) (fun h => nomatch h) (Nat.le_of_ble_eq_true rfl) ?_
  show qR _ _ _ 0 [(0, .ref 1)] [] _ _ _ _
  refine qr_aload_n (pc := 0) d_tr_forgetFault_0 rfl rfl ?_
  refine qr_bipush (v := (-2)) (pc := 1) d_tr_forgetFault_1 (by decide) ?_
  refine qr_putI (pc := 3) d_tr_forgetFault_3 fl_tr_36 (by decide) (by decide) (c_1 _ _) (Nat.le_of_ble_eq_true rfl) (qFit_i _) (fun w => rfl) ?_
  exact qr_vret (pc := 6) d_tr_forgetFault_6 rfl ⟨rfl, rfl, rfl⟩ (Nat.zero_le _) (Nat.zero_le _)
set_option maxRecDepth 10000 in
theorem r_bf_pay (l : Launch) (x : Bool) (I : Nat → Nat → Int32) (L : Nat → Nat → Int64) (z : Nat) (hz : I 14 5 = nI z) (hz2 : z ≤ 50) (c : Int32) (a : Int64) : qR (l, y_bf_pay.cls, b_bf_pay, 6, (some .long), false, x, 9, 1, 6, 77, q0) (qE2 (¬ noC c ∧ ¬ noP a) (some (.long ((u_spend I (wL (wL L 0 10 (L 0 10 + a)) (37 + 2 * c.toNatClampNeg) 4 (wL L 0 10 (L 0 10 + a) (37 + 2 * c.toNatClampNeg) 4 + a)) c.toNatClampNeg z).2 (37 + 2 * c.toNatClampNeg) 4 - L (37 + 2 * c.toNatClampNeg) 4))) (fm (u_spend I (wL (wL L 0 10 (L 0 10 + a)) (37 + 2 * c.toNatClampNeg) 4 (wL L 0 10 (L 0 10 + a) (37 + 2 * c.toNatClampNeg) 4 + a)) c.toNatClampNeg z).1 (u_spend I (wL (wL L 0 10 (L 0 10 + a)) (37 + 2 * c.toNatClampNeg) 4 (wL L 0 10 (L 0 10 + a) (37 + 2 * c.toNatClampNeg) 4 + a)) c.toNatClampNeg z).2)) (qX2 (fm I L) (fun En => En = xA ∧ ¬ (¬ noC c ∧ ¬ noP a))) 0 [(0, .ref 0), (1, .int c), (2, .long a)] [] 77 0 0 (fm I L) := by
  refine qr_iload_n (pc := 0) d_bf_pay_0 rfl rfl ?_
  refine qr_callS (As := [.int c]) (pc := 1) d_bf_pay_1 lk_bf_127 sm_bf_isCustomer (s_bf_isCustomer _ x _ _ c) rfl rfl (Nat.le_of_ble_eq_true rfl) (Nat.le_of_ble_eq_true rfl) (Nat.le_of_ble_eq_true rfl) (Nat.zero_le _) (Nat.zero_le _) (fun h => ⟨h, rfl, Or.inl rfl⟩) (fun v n9 f9 hE1 => ?_)
  obtain ⟨rfl, rfl, rfl⟩ := hE1
  refine qr_if_eq (tgt := 14) (pc := 4) d_bf_pay_4 (by decide) (fun h4 => ?_) (fun h4 => ?_)
  · skip
    rw [isN0] at h4
    exact qr_throw (pc := 14) ⟨80, 82, d_bf_pay_14, d_bf_pay_17, d_bf_pay_18, d_bf_pay_21, cl_bf_80, ie_IllegalArgumentException, th_IllegalArgumentException, (by decide +kernel)⟩ (Nat.le_of_ble_eq_true rfl) ⟨⟨rfl, by simp [noC, noP, *]⟩, rfl, rfl⟩ (Nat.le_of_ble_eq_true rfl) (Nat.le_of_ble_eq_true rfl)
  · skip
    rw [isN0] at h4
    refine qr_lload_n (pc := 7) d_bf_pay_7 rfl rfl ?_
    refine qr_callS (As := [.long a]) (pc := 8) d_bf_pay_8 lk_bf_171 sm_bf_isPayable (s_bf_isPayable _ x _ _ a) rfl rfl (Nat.le_of_ble_eq_true rfl) (Nat.le_of_ble_eq_true rfl) (Nat.le_of_ble_eq_true rfl) (Nat.zero_le _) (Nat.zero_le _) (fun h => ⟨h, rfl, Or.inl rfl⟩) (fun v n9 f9 hE8 => ?_)
    obtain ⟨rfl, rfl, rfl⟩ := hE8
    refine qr_if_ne (tgt := 22) (pc := 11) d_bf_pay_11 (by decide) (fun h11 => ?_) (fun h11 => ?_)
    · skip
      rw [isP0] at h11
      obtain ⟨c9, hc9, rfl⟩ := isN_nI 5 h4
      have hc : c9 < 5 := hc9
      have ccl : (nI c9).toNatClampNeg = c9 := nI_clamp (by omega)
      refine qr_aload_n (pc := 22) d_bf_pay_22 rfl rfl ?_
      refine qr_get (v := .ref 8) (pc := 23) d_bf_pay_23 fl_bf_24 (by decide) (by decide) (c_0 _ _) rfl ?_
      refine qr_iload_n (pc := 26) d_bf_pay_26 rfl rfl ?_
      refine qr_aald (w := 37 + 2 * c9) (pc := 27) d_bf_pay_27 (by decide) (by decide) (c_8 _ _) rfl (vp_in_nI (by omega) (by decide)) (aal_8 (by omega)) ?_
      refine qr_callV (q := 37 + 2 * c9) (As := []) (pc := 28) d_bf_pay_28 lk_bf_175 im_cu_credit se_cu_credit rfl (isCu_c hc).1 (isCu_c hc).1 ((isCu_c hc).2.2.1 _ _) (s_cu_credit _ x I L (37 + 2 * c9) (38 + 2 * c9) (isCu_c hc)) rfl rfl (Nat.le_of_ble_eq_true rfl) (Nat.le_of_ble_eq_true rfl) (Nat.le_of_ble_eq_true rfl) (Nat.zero_le _) (Nat.zero_le _) (fun h => ⟨h, rfl, Or.inl rfl⟩) (fun v n9 f9 hE28 => ?_)
      obtain ⟨rfl, rfl, rfl⟩ := hE28
      refine qr_lstore (lv' := [(4, .long (L (37 + 2 * c9) 4)), (0, .ref 0), (1, .int (nI c9)), (2, .long a)]) (pc := 31) d_bf_pay_31 (Nat.le_of_ble_eq_true rfl) rfl ?_
      refine qr_aload_n (pc := 33) d_bf_pay_33 rfl rfl ?_
      refine qr_dup (pc := 34) d_bf_pay_34 rfl ?_
      refine qr_get (v := .long (L 0 10)) (pc := 35) d_bf_pay_35 fl_bf_64 (by decide) (by decide) (c_0 _ _) rfl ?_
      refine qr_lload_n (pc := 38) d_bf_pay_38 rfl rfl ?_
      refine qr_ladd (pc := 39) d_bf_pay_39 ?_
      refine qr_putL (pc := 40) d_bf_pay_40 fl_bf_64 (by decide) (by decide) (c_0 _ _) (Nat.le_of_ble_eq_true rfl) (qFit_l _) (fun w => rfl) ?_
      refine qr_aload_n (pc := 43) d_bf_pay_43 rfl rfl ?_
      refine qr_get (v := .ref 8) (pc := 44) d_bf_pay_44 fl_bf_24 (by decide) (by decide) (c_0 _ _) rfl ?_
      refine qr_iload_n (pc := 47) d_bf_pay_47 rfl rfl ?_
      refine qr_aald (w := 37 + 2 * c9) (pc := 48) d_bf_pay_48 (by decide) (by decide) (c_8 _ _) rfl (vp_in_nI (by omega) (by decide)) (aal_8 (by omega)) ?_
      refine qr_lload_n (pc := 49) d_bf_pay_49 rfl rfl ?_
      refine qr_callV (q := 37 + 2 * c9) (As := [.long a]) (pc := 50) d_bf_pay_50 lk_bf_179 im_cu_addCredit se_cu_addCredit rfl (isCu_c hc).1 (isCu_c hc).1 ((isCu_c hc).2.2.1 _ _) (s_cu_addCredit _ x I (wL L 0 10 ((L 0 10) + a)) (37 + 2 * c9) (38 + 2 * c9) (isCu_c hc) a) rfl rfl (Nat.le_of_ble_eq_true rfl) (Nat.le_of_ble_eq_true rfl) (Nat.le_of_ble_eq_true rfl) (Nat.zero_le _) (Nat.zero_le _) (fun h => ⟨h, rfl, Or.inl rfl⟩) (fun v n9 f9 hE50 => ?_)
      obtain ⟨rfl, rfl, rfl⟩ := hE50
      refine qr_aload_n (pc := 53) d_bf_pay_53 rfl rfl ?_
      refine qr_iload_n (pc := 54) d_bf_pay_54 rfl rfl ?_
      refine qr_callV (q := 0) (As := [.int (nI c9)]) (pc := 55) d_bf_pay_55 lk_bf_182 im_bf_spendCredit se_bf_spendCredit rfl (by decide) (by decide) (c_0 _ _) (s_bf_spendCredit _ x I (wL (wL L 0 10 ((L 0 10) + a)) (37 + 2 * c9) 4 ((wL L 0 10 ((L 0 10) + a)) (37 + 2 * c9) 4 + a)) z c9 hz hz2 hc) rfl rfl (Nat.le_of_ble_eq_true rfl) (Nat.le_of_ble_eq_true rfl) (Nat.le_of_ble_eq_true rfl) (Nat.zero_le _) (Nat.zero_le _) (fun h => ⟨h, rfl, Or.inl rfl⟩) (fun v n9 f9 hE55 => ?_)
      obtain ⟨rfl, rfl, rfl⟩ := hE55
      refine qr_aload_n (pc := 58) d_bf_pay_58 rfl rfl ?_
      refine qr_get (v := .ref 8) (pc := 59) d_bf_pay_59 fl_bf_24 (by decide) (by decide) (c_0 _ _) rfl ?_
      refine qr_iload_n (pc := 62) d_bf_pay_62 rfl rfl ?_
      refine qr_aald (w := 37 + 2 * c9) (pc := 63) d_bf_pay_63 (by decide) (by decide) (c_8 _ _) rfl (vp_in_nI (by omega) (by decide)) (aal_8 (by omega)) ?_
      refine qr_callV (q := 37 + 2 * c9) (As := []) (pc := 64) d_bf_pay_64 lk_bf_175 im_cu_credit se_cu_credit rfl (isCu_c hc).1 (isCu_c hc).1 ((isCu_c hc).2.2.1 _ _) (s_cu_credit _ x (u_spend I (wL (wL L 0 10 ((L 0 10) + a)) (37 + 2 * c9) 4 ((wL L 0 10 ((L 0 10) + a)) (37 + 2 * c9) 4 + a)) c9 z).1 (u_spend I (wL (wL L 0 10 ((L 0 10) + a)) (37 + 2 * c9) 4 ((wL L 0 10 ((L 0 10) + a)) (37 + 2 * c9) 4 + a)) c9 z).2 (37 + 2 * c9) (38 + 2 * c9) (isCu_c hc)) rfl rfl (Nat.le_of_ble_eq_true rfl) (Nat.le_of_ble_eq_true rfl) (Nat.le_of_ble_eq_true rfl) (Nat.zero_le _) (Nat.zero_le _) (fun h => ⟨h, rfl, Or.inl rfl⟩) (fun v n9 f9 hE64 => ?_)
      obtain ⟨rfl, rfl, rfl⟩ := hE64
      refine qr_lload (pc := 67) d_bf_pay_67 rfl ?_
      refine qr_lsub (pc := 69) d_bf_pay_69 ?_
      exact qr_lret (pc := 70) d_bf_pay_70 rfl ⟨(by simp [noC, noP, *]), (by simp [*]), rfl, (by simp [*])⟩ (Nat.zero_le _) (Nat.zero_le _)
    · skip
      rw [isP0] at h11
      exact qr_throw (pc := 14) ⟨80, 82, d_bf_pay_14, d_bf_pay_17, d_bf_pay_18, d_bf_pay_21, cl_bf_80, ie_IllegalArgumentException, th_IllegalArgumentException, (by decide +kernel)⟩ (Nat.le_of_ble_eq_true rfl) ⟨⟨rfl, by simp [noC, noP, *]⟩, rfl, rfl⟩ (Nat.le_of_ble_eq_true rfl) (Nat.le_of_ble_eq_true rfl)
set_option maxRecDepth 10000 in
theorem r_bf_plan (l : Launch) (x : Bool) (I : Nat → Nat → Int32) (L : Nat → Nat → Int64) (z : Nat) (hz : I 20 4 = nI z) (hz2 : z ≤ 10) (c : Int32) (a : Int64) (d : Int32) : qR (l, y_bf_plan.cls, b_bf_plan, 5, (some .int), false, x, 9, 1, 6, 77, q0) (qE2 (¬ noC c ∧ ¬ noP a ∧ ¬ (d < 1 ∨ 400 < d) ∧ ¬ z = 10) (some (.int (nI (z + 1)))) (fm (wI (wI (wI (wI I 21 z c) 23 z d) 24 z (I 0 9)) 20 4 (nI (z + 1))) (wL (wL L 0 10 (L 0 10 + a)) 22 z a))) (qX2 (fm I L) (fun En => (En = xA ∧ ¬ (¬ noC c ∧ ¬ noP a ∧ ¬ (d < 1 ∨ 400 < d))) ∨ (En = xS ∧ (¬ noC c ∧ ¬ noP a ∧ ¬ (d < 1 ∨ 400 < d)) ∧ z = 10))) 0 [(0, .ref 0), (1, .int c), (2, .long a), (4, .int d)] [] 77 0 0 (fm I L) := by
  refine qr_iload_n (pc := 0) d_bf_plan_0 rfl rfl ?_
  refine qr_callS (As := [.int c]) (pc := 1) d_bf_plan_1 lk_bf_127 sm_bf_isCustomer (s_bf_isCustomer _ x _ _ c) rfl rfl (Nat.le_of_ble_eq_true rfl) (Nat.le_of_ble_eq_true rfl) (Nat.le_of_ble_eq_true rfl) (Nat.zero_le _) (Nat.zero_le _) (fun h => ⟨h, rfl, Or.inl rfl⟩) (fun v n9 f9 hE1 => ?_)
  obtain ⟨rfl, rfl, rfl⟩ := hE1
  refine qr_if_eq (tgt := 28) (pc := 4) d_bf_plan_4 (by decide) (fun h4 => ?_) (fun h4 => ?_)
  · skip
    rw [isN0] at h4
    exact qr_throw (pc := 28) ⟨80, 82, d_bf_plan_28, d_bf_plan_31, d_bf_plan_32, d_bf_plan_35, cl_bf_80, ie_IllegalArgumentException, th_IllegalArgumentException, (by decide +kernel)⟩ (Nat.le_of_ble_eq_true rfl) ⟨Or.inl ⟨rfl, by grind [noC, noP]⟩, rfl, rfl⟩ (Nat.le_of_ble_eq_true rfl) (Nat.le_of_ble_eq_true rfl)
  · skip
    rw [isN0] at h4
    refine qr_lload_n (pc := 7) d_bf_plan_7 rfl rfl ?_
    refine qr_callS (As := [.long a]) (pc := 8) d_bf_plan_8 lk_bf_171 sm_bf_isPayable (s_bf_isPayable _ x _ _ a) rfl rfl (Nat.le_of_ble_eq_true rfl) (Nat.le_of_ble_eq_true rfl) (Nat.le_of_ble_eq_true rfl) (Nat.zero_le _) (Nat.zero_le _) (fun h => ⟨h, rfl, Or.inl rfl⟩) (fun v n9 f9 hE8 => ?_)
    obtain ⟨rfl, rfl, rfl⟩ := hE8
    refine qr_if_eq (tgt := 28) (pc := 11) d_bf_plan_11 (by decide) (fun h11 => ?_) (fun h11 => ?_)
    · skip
      rw [isP0] at h11
      exact qr_throw (pc := 28) ⟨80, 82, d_bf_plan_28, d_bf_plan_31, d_bf_plan_32, d_bf_plan_35, cl_bf_80, ie_IllegalArgumentException, th_IllegalArgumentException, (by decide +kernel)⟩ (Nat.le_of_ble_eq_true rfl) ⟨Or.inl ⟨rfl, by grind [noC, noP]⟩, rfl, rfl⟩ (Nat.le_of_ble_eq_true rfl) (Nat.le_of_ble_eq_true rfl)
    · skip
      rw [isP0] at h11
      refine qr_iload (pc := 14) d_bf_plan_14 rfl ?_
      refine qr_iconst (v := 1) (pc := 16) d_bf_plan_16 (by decide) ?_
      refine qr_icmp_lt (tgt := 28) (pc := 17) d_bf_plan_17 (by decide) (fun h17 => ?_) (fun h17 => ?_)
      · skip
        exact qr_throw (pc := 28) ⟨80, 82, d_bf_plan_28, d_bf_plan_31, d_bf_plan_32, d_bf_plan_35, cl_bf_80, ie_IllegalArgumentException, th_IllegalArgumentException, (by decide +kernel)⟩ (Nat.le_of_ble_eq_true rfl) ⟨Or.inl ⟨rfl, by grind [noC, noP]⟩, rfl, rfl⟩ (Nat.le_of_ble_eq_true rfl) (Nat.le_of_ble_eq_true rfl)
      · skip
        refine qr_iload (pc := 20) d_bf_plan_20 rfl ?_
        refine qr_sipush (v := 400) (pc := 22) d_bf_plan_22 (by decide) ?_
        refine qr_icmp_le (tgt := 36) (pc := 25) d_bf_plan_25 (by decide) (fun h25 => ?_) (fun h25 => ?_)
        · skip
          have g25 := Int32.not_lt.mpr h25
          refine qr_aload_n (pc := 36) d_bf_plan_36 rfl rfl ?_
          refine qr_get (v := .ref 20) (pc := 37) d_bf_plan_37 fl_bf_45 (by decide) (by decide) (c_0 _ _) rfl ?_
          refine qr_callV (q := 20) (As := []) (pc := 40) d_bf_plan_40 lk_bf_185 im_pb_isFull se_pb_isFull rfl (by decide) (by decide) (c_20 _ _) (s_pb_isFull _ x I L z hz hz2) rfl rfl (Nat.le_of_ble_eq_true rfl) (Nat.le_of_ble_eq_true rfl) (Nat.le_of_ble_eq_true rfl) (Nat.zero_le _) (Nat.zero_le _) (fun h => ⟨h, rfl, Or.inl rfl⟩) (fun v n9 f9 hE40 => ?_)
          obtain ⟨rfl, rfl, rfl⟩ := hE40
          refine qr_if_eq (tgt := 54) (pc := 43) d_bf_plan_43 (by decide) (fun h43 => ?_) (fun h43 => ?_)
          · skip
            simp only [b01, Decidable.not_not] at h43
            have hlt : z < 10 := Nat.not_le.mp (fun q => h43 (nI_le (a := 10) q (by omega)))
            have hne8 : ¬ z = 10 := by omega
            refine qr_aload_n (pc := 54) d_bf_plan_54 rfl rfl ?_
            refine qr_dup (pc := 55) d_bf_plan_55 rfl ?_
            refine qr_get (v := .long (L 0 10)) (pc := 56) d_bf_plan_56 fl_bf_64 (by decide) (by decide) (c_0 _ _) rfl ?_
            refine qr_lload_n (pc := 59) d_bf_plan_59 rfl rfl ?_
            refine qr_ladd (pc := 60) d_bf_plan_60 ?_
            refine qr_putL (pc := 61) d_bf_plan_61 fl_bf_64 (by decide) (by decide) (c_0 _ _) (Nat.le_of_ble_eq_true rfl) (qFit_l _) (fun w => rfl) ?_
            refine qr_aload_n (pc := 64) d_bf_plan_64 rfl rfl ?_
            refine qr_get (v := .ref 20) (pc := 65) d_bf_plan_65 fl_bf_45 (by decide) (by decide) (c_0 _ _) rfl ?_
            refine qr_iload_n (pc := 68) d_bf_plan_68 rfl rfl ?_
            refine qr_lload_n (pc := 69) d_bf_plan_69 rfl rfl ?_
            refine qr_iload (pc := 70) d_bf_plan_70 rfl ?_
            refine qr_aload_n (pc := 72) d_bf_plan_72 rfl rfl ?_
            refine qr_get (v := .int (I 0 9)) (pc := 73) d_bf_plan_73 fl_bf_60 (by decide) (by decide) (c_0 _ _) rfl ?_
            refine qr_callV (q := 20) (As := [.int c, .long a, .int d, .int (I 0 9)]) (pc := 76) d_bf_plan_76 lk_bf_186 im_pb_add se_pb_add rfl (by decide) (by decide) (c_20 _ _) (s_pb_addL _ x I (wL L 0 10 ((L 0 10) + a)) z hz hlt c a d (I 0 9)) rfl rfl (Nat.le_of_ble_eq_true rfl) (Nat.le_of_ble_eq_true rfl) (Nat.le_of_ble_eq_true rfl) (Nat.zero_le _) (Nat.zero_le _) (fun h => ⟨h, rfl, Or.inl rfl⟩) (fun v n9 f9 hE76 => ?_)
            obtain ⟨rfl, rfl, rfl⟩ := hE76
            refine qr_aload_n (pc := 79) d_bf_plan_79 rfl rfl ?_
            refine qr_get (v := .ref 20) (pc := 80) d_bf_plan_80 fl_bf_45 (by decide) (by decide) (c_0 _ _) rfl ?_
            refine qr_callV (q := 20) (As := []) (pc := 83) d_bf_plan_83 lk_bf_189 im_pb_size se_pb_size rfl (by decide) (by decide) (c_20 _ _) (s_pb_size _ x (wI (wI (wI (wI I 21 z c) 23 z d) 24 z (I 0 9)) 20 4 (nI (z + 1))) (wL (wL L 0 10 ((L 0 10) + a)) 22 z a) (z + 1) rfl (by omega)) rfl rfl (Nat.le_of_ble_eq_true rfl) (Nat.le_of_ble_eq_true rfl) (Nat.le_of_ble_eq_true rfl) (Nat.zero_le _) (Nat.zero_le _) (fun h => ⟨h, rfl, Or.inl rfl⟩) (fun v n9 f9 hE83 => ?_)
            obtain ⟨rfl, rfl, rfl⟩ := hE83
            exact qr_iret (pc := 86) d_bf_plan_86 rfl rfl ⟨(by grind [noC, noP]), rfl, rfl, rfl⟩ (Nat.zero_le _) (Nat.zero_le _)
          · skip
            simp only [b01, Decidable.not_not] at h43
            have hz8 : z = 10 := by
              have := (nI_leI (a := 10) (b := z) (by omega) (by omega)).mp h43
              omega
            exact qr_throw (pc := 46) ⟨87, 89, d_bf_plan_46, d_bf_plan_49, d_bf_plan_50, d_bf_plan_53, cl_bf_87, ie_IllegalStateException, th_IllegalStateException, (by decide +kernel)⟩ (Nat.le_of_ble_eq_true rfl) ⟨Or.inr ⟨rfl, by grind [noC, noP], hz8⟩, rfl, rfl⟩ (Nat.le_of_ble_eq_true rfl) (Nat.le_of_ble_eq_true rfl)
        · skip
          have g25 := Int32.not_le.mp h25
          exact qr_throw (pc := 28) ⟨80, 82, d_bf_plan_28, d_bf_plan_31, d_bf_plan_32, d_bf_plan_35, cl_bf_80, ie_IllegalArgumentException, th_IllegalArgumentException, (by decide +kernel)⟩ (Nat.le_of_ble_eq_true rfl) ⟨Or.inl ⟨rfl, by grind [noC, noP]⟩, rfl, rfl⟩ (Nat.le_of_ble_eq_true rfl) (Nat.le_of_ble_eq_true rfl)
set_option maxRecDepth 10000 in
theorem r_bf_charge (l : Launch) (x : Bool) (I : Nat → Nat → Int32) (L : Nat → Nat → Int64) (T ne : Nat) (hT : I 0 9 = nI T) (hT2 : T ≤ 400) (hne : I 9 4 = nI ne) (hne2 : ne ≤ 80) (hTz : cT I) (Fd : Nat → Nat) (hFd : ∀ P, P < 15 → I 25 P = nI (Fd P)) (hmo : ∀ P, P < 14 → Fd P ≤ Fd (P + 1)) (hFb : ∀ P, P < 15 → Fd P ≤ 1000) (c p : Int32) : qR (l, y_bf_charge.cls, b_bf_charge, 3, (some .long), false, x, 9, 1, 6, 77, q0) (qE2 (¬ noC c ∧ ¬ p < 0 ∧ p < 14) (some (.long (u_charge I L c.toNatClampNeg (Fd p.toNatClampNeg) (Fd (p.toNatClampNeg + 1)) T (min (Fd (p.toNatClampNeg + 1) - Fd p.toNatClampNeg) (T + 1 - Fd p.toNatClampNeg)) ne))) (fm (u_cd I c.toNatClampNeg (Fd p.toNatClampNeg) T (min (Fd (p.toNatClampNeg + 1) - Fd p.toNatClampNeg) (T + 1 - Fd p.toNatClampNeg))) (u_cuL (u_cd I c.toNatClampNeg (Fd p.toNatClampNeg) T (min (Fd (p.toNatClampNeg + 1) - Fd p.toNatClampNeg) (T + 1 - Fd p.toNatClampNeg))) L c.toNatClampNeg (Fd p.toNatClampNeg) (Fd (p.toNatClampNeg + 1)) T ne))) (qX2 (fm I L) (fun En => En = xA ∧ ¬ (¬ noC c ∧ ¬ p < 0 ∧ p < 14))) 0 [(0, .ref 0), (1, .int c), (2, .int p)] [] 77 0 0 (fm I L) := by
  refine qr_iload_n (pc := 0) d_bf_charge_0 rfl rfl ?_
  refine qr_callS (As := [.int c]) (pc := 1) d_bf_charge_1 lk_bf_127 sm_bf_isCustomer (s_bf_isCustomer _ x _ _ c) rfl rfl (Nat.le_of_ble_eq_true rfl) (Nat.le_of_ble_eq_true rfl) (Nat.le_of_ble_eq_true rfl) (Nat.zero_le _) (Nat.zero_le _) (fun h => ⟨h, rfl, Or.inl rfl⟩) (fun v n9 f9 hE1 => ?_)
  obtain ⟨rfl, rfl, rfl⟩ := hE1
  refine qr_if_eq (tgt := 17) (pc := 4) d_bf_charge_4 (by decide) (fun h4 => ?_) (fun h4 => ?_)
  · skip
    rw [isN0] at h4
    exact qr_throw (pc := 17) ⟨80, 82, d_bf_charge_17, d_bf_charge_20, d_bf_charge_21, d_bf_charge_24, cl_bf_80, ie_IllegalArgumentException, th_IllegalArgumentException, (by decide +kernel)⟩ (Nat.le_of_ble_eq_true rfl) ⟨⟨rfl, by grind [noC]⟩, rfl, rfl⟩ (Nat.le_of_ble_eq_true rfl) (Nat.le_of_ble_eq_true rfl)
  · skip
    rw [isN0] at h4
    refine qr_iload_n (pc := 7) d_bf_charge_7 rfl rfl ?_
    refine qr_if_lt (tgt := 17) (pc := 8) d_bf_charge_8 (by decide) (fun h8 => ?_) (fun h8 => ?_)
    · skip
      exact qr_throw (pc := 17) ⟨80, 82, d_bf_charge_17, d_bf_charge_20, d_bf_charge_21, d_bf_charge_24, cl_bf_80, ie_IllegalArgumentException, th_IllegalArgumentException, (by decide +kernel)⟩ (Nat.le_of_ble_eq_true rfl) ⟨⟨rfl, by grind [noC]⟩, rfl, rfl⟩ (Nat.le_of_ble_eq_true rfl) (Nat.le_of_ble_eq_true rfl)
    · skip
      refine qr_iload_n (pc := 11) d_bf_charge_11 rfl rfl ?_
      refine qr_bipush (v := 14) (pc := 12) d_bf_charge_12 (by decide) ?_
      refine qr_icmp_lt (tgt := 25) (pc := 14) d_bf_charge_14 (by decide) (fun h14 => ?_) (fun h14 => ?_)
      · skip
        obtain ⟨c9, hc9, rfl⟩ := isN_nI 5 h4
        have hc : c9 < 5 := hc9
        have ccl : (nI c9).toNatClampNeg = c9 := nI_clamp (by omega)
        obtain ⟨p9, hp9, rfl⟩ := isN_nI 14 (fun q => q.elim h8 (fun q => Int32.not_le.mpr h14 q))
        have pcl : (nI p9).toNatClampNeg = p9 := nI_clamp (by omega)
        refine qr_aload_n (pc := 25) d_bf_charge_25 rfl rfl ?_
        refine qr_iload_n (pc := 26) d_bf_charge_26 rfl rfl ?_
        refine qr_iload_n (pc := 27) d_bf_charge_27 rfl rfl ?_
        refine qr_callV (q := 0) (As := [.int (nI c9), .int (nI p9)]) (pc := 28) d_bf_charge_28 lk_bf_190 im_bf_chargeOf se_bf_chargeOf rfl (by decide) (by decide) (c_0 _ _) (s_bf_chargeOf _ x I L c9 p9 (Fd p9) (Fd (p9 + 1)) T (min (Fd (p9 + 1) - Fd p9) (T + 1 - Fd p9)) hc (by omega) (hFd p9 (by omega)) (hFd (p9 + 1) (by omega)) hT hT2 (hmo p9 (by omega)) (hFb (p9 + 1) (by omega)) rfl ne hne hne2 hTz) rfl rfl (Nat.le_of_ble_eq_true rfl) (Nat.le_of_ble_eq_true rfl) (Nat.le_of_ble_eq_true rfl) (Nat.zero_le _) (Nat.zero_le _) (fun h => ⟨h, rfl, Or.inl rfl⟩) (fun v n9 f9 hE28 => ?_)
        obtain ⟨rfl, rfl, rfl⟩ := hE28
        exact qr_lret (pc := 31) d_bf_charge_31 rfl ⟨(by simp [noC, *]), (by simp only [ccl, pcl]), rfl, (by simp only [ccl, pcl])⟩ (Nat.zero_le _) (Nat.zero_le _)
      · skip
        exact qr_throw (pc := 17) ⟨80, 82, d_bf_charge_17, d_bf_charge_20, d_bf_charge_21, d_bf_charge_24, cl_bf_80, ie_IllegalArgumentException, th_IllegalArgumentException, (by decide +kernel)⟩ (Nat.le_of_ble_eq_true rfl) ⟨⟨rfl, by grind [noC]⟩, rfl, rfl⟩ (Nat.le_of_ble_eq_true rfl) (Nat.le_of_ble_eq_true rfl)
set_option maxRecDepth 10000 in
theorem r_bf_use (l : Launch) (x : Bool) (I : Nat → Nat → Int32) (L : Nat → Nat → Int64) (hTz1 : cT I) (t u : Int32) : qR (l, y_bf_use.cls, b_bf_use, 3, (some .long), false, x, 9, 1, 6, 77, q0) (qE2 (¬ noT t ∧ ¬ u < 0 ∧ ¬ 1000000 < u) (some (.long (u_use I (28 + 3 * t.toNatClampNeg) (29 + 3 * t.toNatClampNeg) (30 + 3 * t.toNatClampNeg) (ctz I t.toNatClampNeg) (Int32.toInt64 u) 1 1))) (fm I L)) (qX2 (fm I L) (fun En => En = xA ∧ ¬ (¬ noT t ∧ ¬ u < 0 ∧ ¬ 1000000 < u))) 0 [(0, .ref 0), (1, .int t), (2, .int u)] [] 77 0 0 (fm I L) := by
  refine qr_iload_n (pc := 0) d_bf_use_0 rfl rfl ?_
  refine qr_callS (As := [.int t]) (pc := 1) d_bf_use_1 lk_bf_94 sm_bf_isTariff (s_bf_isTariff _ x _ _ t) rfl rfl (Nat.le_of_ble_eq_true rfl) (Nat.le_of_ble_eq_true rfl) (Nat.le_of_ble_eq_true rfl) (Nat.zero_le _) (Nat.zero_le _) (fun h => ⟨h, rfl, Or.inl rfl⟩) (fun v n9 f9 hE1 => ?_)
  obtain ⟨rfl, rfl, rfl⟩ := hE1
  refine qr_if_eq (tgt := 17) (pc := 4) d_bf_use_4 (by decide) (fun h4 => ?_) (fun h4 => ?_)
  · skip
    rw [isN0] at h4
    exact qr_throw (pc := 17) ⟨80, 82, d_bf_use_17, d_bf_use_20, d_bf_use_21, d_bf_use_24, cl_bf_80, ie_IllegalArgumentException, th_IllegalArgumentException, (by decide +kernel)⟩ (Nat.le_of_ble_eq_true rfl) ⟨⟨rfl, by grind [noT]⟩, rfl, rfl⟩ (Nat.le_of_ble_eq_true rfl) (Nat.le_of_ble_eq_true rfl)
  · skip
    rw [isN0] at h4
    refine qr_iload_n (pc := 7) d_bf_use_7 rfl rfl ?_
    refine qr_if_lt (tgt := 17) (pc := 8) d_bf_use_8 (by decide) (fun h8 => ?_) (fun h8 => ?_)
    · skip
      exact qr_throw (pc := 17) ⟨80, 82, d_bf_use_17, d_bf_use_20, d_bf_use_21, d_bf_use_24, cl_bf_80, ie_IllegalArgumentException, th_IllegalArgumentException, (by decide +kernel)⟩ (Nat.le_of_ble_eq_true rfl) ⟨⟨rfl, by grind [noT]⟩, rfl, rfl⟩ (Nat.le_of_ble_eq_true rfl) (Nat.le_of_ble_eq_true rfl)
    · skip
      refine qr_iload_n (pc := 11) d_bf_use_11 rfl rfl ?_
      refine qr_ldc (v := 1000000) (pc := 12) d_bf_use_12 ki_bf_122 ?_
      refine qr_icmp_le (tgt := 25) (pc := 14) d_bf_use_14 (by decide) (fun h14 => ?_) (fun h14 => ?_)
      · skip
        have g14 := Int32.not_lt.mpr h14
        obtain ⟨t9, ht, rfl⟩ := isN_nI 3 h4
        have tcl : (nI t9).toNatClampNeg = t9 := nI_clamp (by omega)
        refine qr_aload_n (pc := 25) d_bf_use_25 rfl rfl ?_
        refine qr_get (v := .ref 7) (pc := 26) d_bf_use_26 fl_bf_18 (by decide) (by decide) (c_0 _ _) rfl ?_
        refine qr_iload_n (pc := 29) d_bf_use_29 rfl rfl ?_
        refine qr_aald (w := 28 + 3 * t9) (pc := 30) d_bf_use_30 (by decide) (by decide) (c_7 _ _) rfl (vp_in_nI (by omega) (by decide)) (aal_7 (by omega)) ?_
        refine qr_iload_n (pc := 31) d_bf_use_31 rfl rfl ?_
        refine qr_i2l (pc := 32) d_bf_use_32 ?_
        refine qr_iconst (v := 1) (pc := 33) d_bf_use_33 (by decide) ?_
        refine qr_iconst (v := 1) (pc := 34) d_bf_use_34 (by decide) ?_
        refine qr_callV (q := 28 + 3 * t9) (As := [.long (Int32.toInt64 u), .int 1, .int 1]) (pc := 35) d_bf_use_35 lk_bf_123 im_tf_useOf se_tf_useOf rfl (isTf_t ht).1 (isTf_t ht).1 ((isTf_t ht).2.2.2.1 _ _) (s_tf_useOf _ x I L (28 + 3 * t9) (29 + 3 * t9) (30 + 3 * t9) (isTf_t ht) (ctz I t9) (hTz1 t9 ht).1 (hTz1 t9 ht).2 (Int32.toInt64 u) 1 1) rfl rfl (Nat.le_of_ble_eq_true rfl) (Nat.le_of_ble_eq_true rfl) (Nat.le_of_ble_eq_true rfl) (Nat.zero_le _) (Nat.zero_le _) (fun h => ⟨h, rfl, Or.inl rfl⟩) (fun v n9 f9 hE35 => ?_)
        obtain ⟨rfl, rfl, rfl⟩ := hE35
        exact qr_lret (pc := 38) d_bf_use_38 rfl ⟨(by grind [noT]), (by simp only [tcl]), rfl, rfl⟩ (Nat.zero_le _) (Nat.zero_le _)
      · skip
        have g14 := Int32.not_le.mp h14
        exact qr_throw (pc := 17) ⟨80, 82, d_bf_use_17, d_bf_use_20, d_bf_use_21, d_bf_use_24, cl_bf_80, ie_IllegalArgumentException, th_IllegalArgumentException, (by decide +kernel)⟩ (Nat.le_of_ble_eq_true rfl) ⟨⟨rfl, by grind [noT]⟩, rfl, rfl⟩ (Nat.le_of_ble_eq_true rfl) (Nat.le_of_ble_eq_true rfl)
