/-! tariff, where THE TEXT is empty -/
theorem s_tr_sb0 (l : Launch) (I : Nat → Nat → Int32) (L : Nat → Nat → Int64) (h3 : I 1 3 = 0) (h4 : I 1 4 = 0) : qSp l y_tr_skipBlanks b_tr_skipBlanks 1 none false 2 0 0 [.ref 1] 77 (fm I L) (qD none 77 (fm (wI I 1 4 0) L)) := by
  have h := s_tr_skipBlanks l false I L 0 0 (h4.trans nI_0.symm) (h3.trans nI_0.symm) (Nat.le_refl _) (by omega) 0 (Nat.le_refl _) (fun i h1 h2 => by omega) (fun h => by omega) (Nat.le_refl _)
  rw [nI_0] at h
  exact h
theorem s_tr_sl0 (l : Launch) (I : Nat → Nat → Int32) (L : Nat → Nat → Int64) (h3 : I 1 3 = 0) (h4 : I 1 4 = 0) : qSp l y_tr_skipLetters b_tr_skipLetters 1 none false 2 0 0 [.ref 1] 77 (fm I L) (qD none 77 (fm (wI I 1 4 0) L)) := by
  have h := s_tr_skipLetters l false I L 0 0 (h4.trans nI_0.symm) (h3.trans nI_0.symm) (Nat.le_refl _) (by omega) 0 (Nat.le_refl _) (fun i h1 h2 => by omega) (fun h => by omega) (Nat.le_refl _)
  rw [nI_0] at h
  exact h
theorem s_md_bl0 (l : Launch) (I : Nat → Nat → Int32) (L : Nat → Nat → Int64) (h3 : I 47 4 = 0) (h4 : I 47 36 = 0) : qSp l y_md_blanks b_md_blanks 1 none false 2 0 0 [.ref 47] 77 (fm I L) (qD none 77 (fm (wI I 47 36 0) L)) := by
  have h := s_md_blanks l false I L 0 0 (h4.trans nI_0.symm) (h3.trans nI_0.symm) (Nat.le_refl _) (by omega) 0 (Nat.le_refl _) (fun i h1 h2 => by omega) (fun h => by omega) (Nat.le_refl _)
  rw [nI_0] at h
  exact h
theorem s_md_lk0 (l : Launch) (I : Nat → Nat → Int32) (L : Nat → Nat → Int64) (h3 : I 47 4 = 0) (h4 : I 47 36 = 0) : qSp l y_md_look b_md_look 1 (some .int) false 1 0 0 [.ref 47] 77 (fm I L) (qD (some (.int 0)) 77 (fm I L)) := by
  have h := s_md_look l false I L 0 0 (h4.trans nI_0.symm) (h3.trans nI_0.symm) (Nat.le_refl _) (by omega)
  have h0 : m_lc I 0 0 = 0 := by simp [m_lc]
  rw [h0] at h
  exact h
set_option maxRecDepth 10000 in
theorem s_tr_readPart0 (l : Launch) (I : Nat → Nat → Int32) (L : Nat → Nat → Int64) (h3 : I 1 3 = 0) (h4 : I 1 4 = 0) : qSp l y_tr_readPart b_tr_readPart 3 none false 3 0 0 [.ref 1] 77 (fm I L) (qD none 77 (fm (wI (wI (wI I 1 4 0) 1 4 0) 1 6 0) L)) := by
  refine qSp_of (ini := false) (by decide +kernel) (fun h => nomatch h) (Nat.le_of_ble_eq_true rfl) ?_
  show qR _ _ _ 0 [(0, .ref 1)] [] _ _ _ _
  refine qr_aload_n (pc := 0) d_tr_readPart_0 rfl rfl ?_
  refine qr_callV (q := 1) (As := []) (pc := 1) d_tr_readPart_1 lk_tr_45 im_tr_skipBlanks se_tr_skipBlanks rfl (by decide) (by decide) (c_1 _ _) (s_tr_sb0 _ I L (by simp [wI, va_up, upd, *]) (by simp [wI, va_up, upd, *])) rfl rfl (Nat.le_of_ble_eq_true rfl) (Nat.le_of_ble_eq_true rfl) (Nat.le_of_ble_eq_true rfl) (Nat.zero_le _) (Nat.zero_le _) (fun h => nomatch h) (fun v n9 f9 hE1 => ?_)
  obtain ⟨rfl, rfl, rfl⟩ := hE1
  refine qr_aload_n (pc := 4) d_tr_readPart_4 rfl rfl ?_
  refine qr_get (v := .int 0) (pc := 5) d_tr_readPart_5 fl_tr_30 (by decide) (by decide) (c_1 _ _) rfl ?_
  refine qr_istore_n (lv' := [(1, .int 0), (0, .ref 1)]) (pc := 8) d_tr_readPart_8 rfl (Nat.le_of_ble_eq_true rfl) rfl ?_
  refine qr_aload_n (pc := 9) d_tr_readPart_9 rfl rfl ?_
  refine qr_callV (q := 1) (As := []) (pc := 10) d_tr_readPart_10 lk_tr_48 im_tr_skipLetters se_tr_skipLetters rfl (by decide) (by decide) (c_1 _ _) (s_tr_sl0 _ (wI I 1 4 0) L (by simp [wI, va_up, upd, *]) (by simp [wI, va_up, upd, *])) rfl rfl (Nat.le_of_ble_eq_true rfl) (Nat.le_of_ble_eq_true rfl) (Nat.le_of_ble_eq_true rfl) (Nat.zero_le _) (Nat.zero_le _) (fun h => nomatch h) (fun v n9 f9 hE10 => ?_)
  obtain ⟨rfl, rfl, rfl⟩ := hE10
  refine qr_aload_n (pc := 13) d_tr_readPart_13 rfl rfl ?_
  refine qr_get (v := .int 0) (pc := 14) d_tr_readPart_14 fl_tr_30 (by decide) (by decide) (c_1 _ _) rfl ?_
  refine qr_iload_n (pc := 17) d_tr_readPart_17 rfl rfl ?_
  refine qr_icmp_ne (tgt := 30) (pc := 18) d_tr_readPart_18 (by decide) (fun h18 => absurd h18 (by decide)) (fun _ => ?_)
  refine qr_aload_n (pc := 21) d_tr_readPart_21 rfl rfl ?_
  refine qr_aload_n (pc := 22) d_tr_readPart_22 rfl rfl ?_
  refine qr_get (v := .int 0) (pc := 23) d_tr_readPart_23 fl_tr_30 (by decide) (by decide) (c_1 _ _) rfl ?_
  refine qr_putI (pc := 26) d_tr_readPart_26 fl_tr_36 (by decide) (by decide) (c_1 _ _) (Nat.le_of_ble_eq_true rfl) (qFit_i _) (fun w => rfl) ?_
  exact qr_vret (pc := 29) d_tr_readPart_29 rfl ⟨rfl, rfl, rfl⟩ (Nat.zero_le _) (Nat.zero_le _)
def u_ra0 (I : Nat → Nat → Int32) : Nat → Nat → Int32 := (wI (wI (wI (wI (wI (wI (wI (wI (wI (wI (wI (wI (wI (wI (wI (wI (wI (wI (wI (wI I 1 6 (-2)) 1 4 0) 1 5 0) 4 0 0) 4 1 0) 4 2 0) 4 3 0) 4 4 0) 4 5 0) 4 8 0) 3 0 (vp_nar .boolean 0)) 3 1 (vp_nar .boolean 0)) 3 2 (vp_nar .boolean 0)) 3 3 (vp_nar .boolean 0)) 3 4 (vp_nar .boolean 0)) 3 5 (vp_nar .boolean 0)) 1 4 0) 1 4 0) 1 6 0) 1 5 (0 + 1))
set_option maxRecDepth 10000 in
theorem s_tr_readAll0 (l : Launch) (I : Nat → Nat → Int32) (L : Nat → Nat → Int64) (h3 : I 1 3 = 0) : qSp l y_tr_readAll b_tr_readAll 2 (some .boolean) false 4 0 0 [.ref 1] 77 (fm I L) (qD (some (.int 0)) 77 (fm (u_ra0 I) L)) := by
  refine qSp_of (ini := false) (by decide +kernel) (fun h => nomatch h) (Nat.le_of_ble_eq_true rfl) ?_
  show qR _ _ _ 0 [(0, .ref 1)] [] _ _ _ _
  refine qr_aload_n (pc := 0) d_tr_readAll_0 rfl rfl ?_
  refine qr_bipush (v := (-2)) (pc := 1) d_tr_readAll_1 (by decide) ?_
  refine qr_putI (pc := 3) d_tr_readAll_3 fl_tr_36 (by decide) (by decide) (c_1 _ _) (Nat.le_of_ble_eq_true rfl) (qFit_i _) (fun w => rfl) ?_
  refine qr_aload_n (pc := 6) d_tr_readAll_6 rfl rfl ?_
  refine qr_iconst (v := 0) (pc := 7) d_tr_readAll_7 (by decide) ?_
  refine qr_putI (pc := 8) d_tr_readAll_8 fl_tr_30 (by decide) (by decide) (c_1 _ _) (Nat.le_of_ble_eq_true rfl) (qFit_i _) (fun w => rfl) ?_
  refine qr_aload_n (pc := 11) d_tr_readAll_11 rfl rfl ?_
  refine qr_iconst (v := 0) (pc := 12) d_tr_readAll_12 (by decide) ?_
  refine qr_putI (pc := 13) d_tr_readAll_13 fl_tr_33 (by decide) (by decide) (c_1 _ _) (Nat.le_of_ble_eq_true rfl) (qFit_i _) (fun w => rfl) ?_
  refine qr_aload_n (pc := 16) d_tr_readAll_16 rfl rfl ?_
  refine qr_get (v := .ref 4) (pc := 17) d_tr_readAll_17 fl_tr_22 (by decide) (by decide) (c_1 _ _) rfl ?_
  refine qr_callV (q := 4) (As := []) (pc := 20) d_tr_readAll_20 lk_tr_39 im_tf_clear se_tf_clear rfl (by decide) (by decide) (c_4 _ _) (s_tf_clear _ false (wI (wI (wI I 1 6 (-2)) 1 4 0) 1 5 0) L) rfl rfl (Nat.le_of_ble_eq_true rfl) (Nat.le_of_ble_eq_true rfl) (Nat.le_of_ble_eq_true rfl) (Nat.zero_le _) (Nat.zero_le _) (fun h => nomatch h) (fun v n9 f9 hE20 => ?_)
  obtain ⟨rfl, rfl, rfl⟩ := hE20
  refine qr_iconst (v := 0) (pc := 23) d_tr_readAll_23 (by decide) ?_
  refine qr_istore_n (lv' := [(1, .int 0), (0, .ref 1)]) (pc := 24) d_tr_readAll_24 rfl (Nat.le_of_ble_eq_true rfl) rfl ?_
  refine qr_iload_n (pc := 25) d_tr_readAll_25 rfl rfl ?_
  refine qr_bipush (v := 6) (pc := 26) d_tr_readAll_26 (by decide) ?_
  refine qr_icmp_ge (tgt := 44) (pc := 28) d_tr_readAll_28 (by decide) (fun h28 => absurd h28 (by decide)) (fun _ => ?_)
  refine qr_aload_n (pc := 31) d_tr_readAll_31 rfl rfl ?_
  refine qr_get (v := .ref 3) (pc := 32) d_tr_readAll_32 fl_tr_15 (by decide) (by decide) (c_1 _ _) rfl ?_
  refine qr_iload_n (pc := 35) d_tr_readAll_35 rfl rfl ?_
  refine qr_iconst (v := 0) (pc := 36) d_tr_readAll_36 (by decide) ?_
  refine qr_zastMN (j := 0) (pc := 37) d_tr_readAll_37 (by decide) (by decide) (c_3 _ _) (by decide) (by decide) (fun w => rfl) ?_
  refine qr_iinc (v := 1) (lv' := [(1, .int 1), (0, .ref 1)]) (pc := 38) d_tr_readAll_38 rfl (by decide) (Nat.le_of_ble_eq_true rfl) rfl ?_
  refine qr_goto (tgt := 25) (pc := 41) d_tr_readAll_41 (by decide) ?_
  refine qr_iload_n (pc := 25) d_tr_readAll_25 rfl rfl ?_
  refine qr_bipush (v := 6) (pc := 26) d_tr_readAll_26 (by decide) ?_
  refine qr_icmp_ge (tgt := 44) (pc := 28) d_tr_readAll_28 (by decide) (fun h28 => absurd h28 (by decide)) (fun _ => ?_)
  refine qr_aload_n (pc := 31) d_tr_readAll_31 rfl rfl ?_
  refine qr_get (v := .ref 3) (pc := 32) d_tr_readAll_32 fl_tr_15 (by decide) (by decide) (c_1 _ _) rfl ?_
  refine qr_iload_n (pc := 35) d_tr_readAll_35 rfl rfl ?_
  refine qr_iconst (v := 0) (pc := 36) d_tr_readAll_36 (by decide) ?_
  refine qr_zastMN (j := 1) (pc := 37) d_tr_readAll_37 (by decide) (by decide) (c_3 _ _) (by decide) (by decide) (fun w => rfl) ?_
  refine qr_iinc (v := 2) (lv' := [(1, .int 2), (0, .ref 1)]) (pc := 38) d_tr_readAll_38 rfl (by decide) (Nat.le_of_ble_eq_true rfl) rfl ?_
  refine qr_goto (tgt := 25) (pc := 41) d_tr_readAll_41 (by decide) ?_
  refine qr_iload_n (pc := 25) d_tr_readAll_25 rfl rfl ?_
  refine qr_bipush (v := 6) (pc := 26) d_tr_readAll_26 (by decide) ?_
  refine qr_icmp_ge (tgt := 44) (pc := 28) d_tr_readAll_28 (by decide) (fun h28 => absurd h28 (by decide)) (fun _ => ?_)
  refine qr_aload_n (pc := 31) d_tr_readAll_31 rfl rfl ?_
  refine qr_get (v := .ref 3) (pc := 32) d_tr_readAll_32 fl_tr_15 (by decide) (by decide) (c_1 _ _) rfl ?_
  refine qr_iload_n (pc := 35) d_tr_readAll_35 rfl rfl ?_
  refine qr_iconst (v := 0) (pc := 36) d_tr_readAll_36 (by decide) ?_
  refine qr_zastMN (j := 2) (pc := 37) d_tr_readAll_37 (by decide) (by decide) (c_3 _ _) (by decide) (by decide) (fun w => rfl) ?_
  refine qr_iinc (v := 3) (lv' := [(1, .int 3), (0, .ref 1)]) (pc := 38) d_tr_readAll_38 rfl (by decide) (Nat.le_of_ble_eq_true rfl) rfl ?_
  refine qr_goto (tgt := 25) (pc := 41) d_tr_readAll_41 (by decide) ?_
  refine qr_iload_n (pc := 25) d_tr_readAll_25 rfl rfl ?_
  refine qr_bipush (v := 6) (pc := 26) d_tr_readAll_26 (by decide) ?_
  refine qr_icmp_ge (tgt := 44) (pc := 28) d_tr_readAll_28 (by decide) (fun h28 => absurd h28 (by decide)) (fun _ => ?_)
  refine qr_aload_n (pc := 31) d_tr_readAll_31 rfl rfl ?_
  refine qr_get (v := .ref 3) (pc := 32) d_tr_readAll_32 fl_tr_15 (by decide) (by decide) (c_1 _ _) rfl ?_
  refine qr_iload_n (pc := 35) d_tr_readAll_35 rfl rfl ?_
  refine qr_iconst (v := 0) (pc := 36) d_tr_readAll_36 (by decide) ?_
  refine qr_zastMN (j := 3) (pc := 37) d_tr_readAll_37 (by decide) (by decide) (c_3 _ _) (by decide) (by decide) (fun w => rfl) ?_
  refine qr_iinc (v := 4) (lv' := [(1, .int 4), (0, .ref 1)]) (pc := 38) d_tr_readAll_38 rfl (by decide) (Nat.le_of_ble_eq_true rfl) rfl ?_
  refine qr_goto (tgt := 25) (pc := 41) d_tr_readAll_41 (by decide) ?_
  refine qr_iload_n (pc := 25) d_tr_readAll_25 rfl rfl ?_
  refine qr_bipush (v := 6) (pc := 26) d_tr_readAll_26 (by decide) ?_
  refine qr_icmp_ge (tgt := 44) (pc := 28) d_tr_readAll_28 (by decide) (fun h28 => absurd h28 (by decide)) (fun _ => ?_)
  refine qr_aload_n (pc := 31) d_tr_readAll_31 rfl rfl ?_
  refine qr_get (v := .ref 3) (pc := 32) d_tr_readAll_32 fl_tr_15 (by decide) (by decide) (c_1 _ _) rfl ?_
  refine qr_iload_n (pc := 35) d_tr_readAll_35 rfl rfl ?_
  refine qr_iconst (v := 0) (pc := 36) d_tr_readAll_36 (by decide) ?_
  refine qr_zastMN (j := 4) (pc := 37) d_tr_readAll_37 (by decide) (by decide) (c_3 _ _) (by decide) (by decide) (fun w => rfl) ?_
  refine qr_iinc (v := 5) (lv' := [(1, .int 5), (0, .ref 1)]) (pc := 38) d_tr_readAll_38 rfl (by decide) (Nat.le_of_ble_eq_true rfl) rfl ?_
  refine qr_goto (tgt := 25) (pc := 41) d_tr_readAll_41 (by decide) ?_
  refine qr_iload_n (pc := 25) d_tr_readAll_25 rfl rfl ?_
  refine qr_bipush (v := 6) (pc := 26) d_tr_readAll_26 (by decide) ?_
  refine qr_icmp_ge (tgt := 44) (pc := 28) d_tr_readAll_28 (by decide) (fun h28 => absurd h28 (by decide)) (fun _ => ?_)
  refine qr_aload_n (pc := 31) d_tr_readAll_31 rfl rfl ?_
  refine qr_get (v := .ref 3) (pc := 32) d_tr_readAll_32 fl_tr_15 (by decide) (by decide) (c_1 _ _) rfl ?_
  refine qr_iload_n (pc := 35) d_tr_readAll_35 rfl rfl ?_
  refine qr_iconst (v := 0) (pc := 36) d_tr_readAll_36 (by decide) ?_
  refine qr_zastMN (j := 5) (pc := 37) d_tr_readAll_37 (by decide) (by decide) (c_3 _ _) (by decide) (by decide) (fun w => rfl) ?_
  refine qr_iinc (v := 6) (lv' := [(1, .int 6), (0, .ref 1)]) (pc := 38) d_tr_readAll_38 rfl (by decide) (Nat.le_of_ble_eq_true rfl) rfl ?_
  refine qr_goto (tgt := 25) (pc := 41) d_tr_readAll_41 (by decide) ?_
  refine qr_iload_n (pc := 25) d_tr_readAll_25 rfl rfl ?_
  refine qr_bipush (v := 6) (pc := 26) d_tr_readAll_26 (by decide) ?_
  refine qr_icmp_ge (tgt := 44) (pc := 28) d_tr_readAll_28 (by decide) (fun _ => ?_) (fun h28 => absurd h28 (by decide))
  refine qr_aload_n (pc := 44) d_tr_readAll_44 rfl rfl ?_
  refine qr_get (v := .int (-2)) (pc := 45) d_tr_readAll_45 fl_tr_36 (by decide) (by decide) (c_1 _ _) rfl ?_
  refine qr_bipush (v := (-2)) (pc := 48) d_tr_readAll_48 (by decide) ?_
  refine qr_icmp_ne (tgt := 88) (pc := 50) d_tr_readAll_50 (by decide) (fun h50 => absurd h50 (by decide)) (fun _ => ?_)
  refine qr_aload_n (pc := 53) d_tr_readAll_53 rfl rfl ?_
  refine qr_get (v := .ref 3) (pc := 54) d_tr_readAll_54 fl_tr_15 (by decide) (by decide) (c_1 _ _) rfl ?_
  refine qr_iconst (v := 5) (pc := 57) d_tr_readAll_57 (by decide) ?_
  refine qr_zaldN (j := 5) (pc := 58) d_tr_readAll_58 (by decide) (by decide) (c_3 _ _) (by decide) (by decide) ?_
  refine qR_st (st' := [.int (vp_nar .boolean 0)]) rfl (by simp [wI, wL, va_up, upd, vp_updL]) rfl ?_
  refine qr_if_ne (tgt := 88) (pc := 59) d_tr_readAll_59 (by decide) (fun h59 => ?_) (fun h59 => ?_)
  · skip
    exact absurd (by decide) h59
  · skip
    refine qr_aload_n (pc := 62) d_tr_readAll_62 rfl rfl ?_
    refine qr_get (v := .int 0) (pc := 63) d_tr_readAll_63 fl_tr_33 (by decide) (by decide) (c_1 _ _) rfl ?_
    refine qr_bipush (v := 60) (pc := 66) d_tr_readAll_66 (by decide) ?_
    refine qr_icmp_gt (tgt := 88) (pc := 68) d_tr_readAll_68 (by decide) (fun h68 => absurd h68 (by decide)) (fun _ => ?_)
    refine qr_aload_n (pc := 71) d_tr_readAll_71 rfl rfl ?_
    refine qr_callV (q := 1) (As := []) (pc := 72) d_tr_readAll_72 lk_tr_42 im_tr_readPart se_tr_readPart rfl (by decide) (by decide) (c_1 _ _) (s_tr_readPart0 _ (wI (wI (wI (wI (wI (wI (wI (wI (wI (wI (wI (wI (wI (wI (wI (wI I 1 6 (-2)) 1 4 0) 1 5 0) 4 0 0) 4 1 0) 4 2 0) 4 3 0) 4 4 0) 4 5 0) 4 8 0) 3 0 (vp_nar .boolean 0)) 3 1 (vp_nar .boolean 0)) 3 2 (vp_nar .boolean 0)) 3 3 (vp_nar .boolean 0)) 3 4 (vp_nar .boolean 0)) 3 5 (vp_nar .boolean 0)) L (by simp [wI, va_up, upd, *]) (by simp [wI, va_up, upd, *])) rfl rfl (Nat.le_of_ble_eq_true rfl) (Nat.le_of_ble_eq_true rfl) (Nat.le_of_ble_eq_true rfl) (Nat.zero_le _) (Nat.zero_le _) (fun h => nomatch h) (fun v n9 f9 hE72 => ?_)
    obtain ⟨rfl, rfl, rfl⟩ := hE72
    refine qr_aload_n (pc := 75) d_tr_readAll_75 rfl rfl ?_
    refine qr_dup (pc := 76) d_tr_readAll_76 rfl ?_
    refine qr_get (v := .int 0) (pc := 77) d_tr_readAll_77 fl_tr_33 (by decide) (by decide) (c_1 _ _) rfl ?_
    refine qr_iconst (v := 1) (pc := 80) d_tr_readAll_80 (by decide) ?_
    refine qr_iadd (pc := 81) d_tr_readAll_81 ?_
    refine qr_putI (pc := 82) d_tr_readAll_82 fl_tr_33 (by decide) (by decide) (c_1 _ _) (Nat.le_of_ble_eq_true rfl) (qFit_i _) (fun w => rfl) ?_
    refine qr_goto (tgt := 44) (pc := 85) d_tr_readAll_85 (by decide) ?_
    refine qr_aload_n (pc := 44) d_tr_readAll_44 rfl rfl ?_
    refine qr_get (v := .int 0) (pc := 45) d_tr_readAll_45 fl_tr_36 (by decide) (by decide) (c_1 _ _) rfl ?_
    refine qr_bipush (v := (-2)) (pc := 48) d_tr_readAll_48 (by decide) ?_
    refine qr_icmp_ne (tgt := 88) (pc := 50) d_tr_readAll_50 (by decide) (fun _ => ?_) (fun h50 => absurd h50 (by decide))
    refine qr_aload_n (pc := 88) d_tr_readAll_88 rfl rfl ?_
    refine qr_get (v := .int 0) (pc := 89) d_tr_readAll_89 fl_tr_36 (by decide) (by decide) (c_1 _ _) rfl ?_
    refine qr_bipush (v := (-2)) (pc := 92) d_tr_readAll_92 (by decide) ?_
    refine qr_icmp_ne (tgt := 101) (pc := 94) d_tr_readAll_94 (by decide) (fun _ => ?_) (fun h94 => absurd h94 (by decide))
    refine qr_iconst (v := 0) (pc := 101) d_tr_readAll_101 (by decide) ?_
    exact qr_iret (pc := 102) d_tr_readAll_102 rfl rfl ⟨rfl, rfl, rfl⟩ (Nat.zero_le _) (Nat.zero_le _)
set_option maxRecDepth 10000 in
theorem r_bf_tariff0 (l : Launch) (I : Nat → Nat → Int32) (L : Nat → Nat → Int64) (h3 : I 1 3 = 0) (t : Int32) : qR (l, y_bf_tariff.cls, b_bf_tariff, 2, (some .int), false, false, 9, 1, 6, 77, q0) (qE2 (False) (some (.int 0)) (fm I L)) (qX3 (fun En f' => En = xA ∧ ∃ I', fm I' L = f' ∧ ∀ k, 47 ≤ k → I' k = I k)) 0 [(0, .ref 0), (1, .int t)] [] 77 0 0 (fm I L) := by
  refine qr_iload_n (pc := 0) d_bf_tariff_0 rfl rfl ?_
  refine qr_callS (As := [.int t]) (pc := 1) d_bf_tariff_1 lk_bf_94 sm_bf_isTariff (s_bf_isTariff _ false _ _ t) rfl rfl (Nat.le_of_ble_eq_true rfl) (Nat.le_of_ble_eq_true rfl) (Nat.le_of_ble_eq_true rfl) (Nat.zero_le _) (Nat.zero_le _) (fun h => nomatch h) (fun v n9 f9 hE1 => ?_)
  obtain ⟨rfl, rfl, rfl⟩ := hE1
  refine qr_if_ne (tgt := 22) (pc := 4) d_bf_tariff_4 (by decide) (fun h4 => ?_) (fun h4 => ?_)
  · skip
    refine qr_aload_n (pc := 22) d_bf_tariff_22 rfl rfl ?_
    refine qr_get (v := .ref 1) (pc := 23) d_bf_tariff_23 fl_bf_10 (by decide) (by decide) (c_0 _ _) rfl ?_
    refine qr_callV (q := 1) (As := []) (pc := 26) d_bf_tariff_26 lk_bf_101 im_tr_readAll se_tr_readAll rfl (by decide) (by decide) (c_1 _ _) (s_tr_readAll0 _ I L h3) rfl rfl (Nat.le_of_ble_eq_true rfl) (Nat.le_of_ble_eq_true rfl) (Nat.le_of_ble_eq_true rfl) (Nat.zero_le _) (Nat.zero_le _) (fun h => nomatch h) (fun v n9 f9 hE26 => ?_)
    obtain ⟨rfl, rfl, rfl⟩ := hE26
    refine qr_if_ne (tgt := 40) (pc := 29) d_bf_tariff_29 (by decide) (fun h29 => absurd h29 (by decide)) (fun _ => ?_)
    exact qr_throw (pc := 32) ⟨80, 82, d_bf_tariff_32, d_bf_tariff_35, d_bf_tariff_36, d_bf_tariff_39, cl_bf_80, ie_IllegalArgumentException, th_IllegalArgumentException, (by decide +kernel)⟩ (Nat.le_of_ble_eq_true rfl) ⟨⟨rfl, ⟨_, rfl, fun k hk => by funext j; simp [wI, va_up, u_ra0, show ¬ k = 1 by omega, show ¬ k = 3 by omega, show ¬ k = 4 by omega]⟩⟩, rfl⟩ (Nat.le_of_ble_eq_true rfl) (Nat.le_of_ble_eq_true rfl)
  · skip
    refine qr_aload_n (pc := 7) d_bf_tariff_7 rfl rfl ?_
    refine qr_get (v := .ref 1) (pc := 8) d_bf_tariff_8 fl_bf_10 (by decide) (by decide) (c_0 _ _) rfl ?_
    refine qr_callV (q := 1) (As := []) (pc := 11) d_bf_tariff_11 lk_bf_98 im_tr_forgetFault se_tr_forgetFault rfl (by decide) (by decide) (c_1 _ _) (s_tr_forgetFault _ false I L) rfl rfl (Nat.le_of_ble_eq_true rfl) (Nat.le_of_ble_eq_true rfl) (Nat.le_of_ble_eq_true rfl) (Nat.zero_le _) (Nat.zero_le _) (fun h => nomatch h) (fun v n9 f9 hE11 => ?_)
    obtain ⟨rfl, rfl, rfl⟩ := hE11
    exact qr_throw (pc := 14) ⟨80, 82, d_bf_tariff_14, d_bf_tariff_17, d_bf_tariff_18, d_bf_tariff_21, cl_bf_80, ie_IllegalArgumentException, th_IllegalArgumentException, (by decide +kernel)⟩ (Nat.le_of_ble_eq_true rfl) ⟨⟨rfl, ⟨_, rfl, fun k hk => by funext j; simp [wI, va_up, u_ra0, show ¬ k = 1 by omega, show ¬ k = 3 by omega, show ¬ k = 4 by omega]⟩⟩, rfl⟩ (Nat.le_of_ble_eq_true rfl) (Nat.le_of_ble_eq_true rfl)
set_option maxRecDepth 10000 in
theorem s_md_word0 (l : Launch) (I : Nat → Nat → Int32) (L : Nat → Nat → Int64) (h : I 47 36 = 0) : qSp l y_md_word b_md_word 6 (some .int) false 1 0 0 [.ref 47, .int 0] 77 (fm I L) (qD (some (.int (-1))) 77 (fm I L)) := by
  refine qSp_of (ini := false) (by decide +kernel) (fun h => nomatch h) (Nat.le_of_ble_eq_true rfl) ?_
  show qR _ _ _ 0 [(0, .ref 47), (1, .int 0)] [] _ _ _ _
  refine qr_aload_n (pc := 0) d_md_word_0 rfl rfl ?_
  refine qr_get (v := .int 0) (pc := 1) d_md_word_1 fl_md_117 (by decide) (by decide) (c_47 _ _) (congrArg (fun t => some (Value.int t)) h) ?_
  refine qr_iload_n (pc := 4) d_md_word_4 rfl rfl ?_
  refine qr_isub (pc := 5) d_md_word_5 ?_
  refine qr_istore_n (lv' := [(2, .int (0 - 0)), (0, .ref 47), (1, .int 0)]) (pc := 6) d_md_word_6 rfl (Nat.le_of_ble_eq_true rfl) rfl ?_
  refine qr_lconst (v := 0) (pc := 7) d_md_word_7 (by decide) ?_
  refine qr_lstore_n (lv' := [(3, .long 0), (2, .int (0 - 0)), (0, .ref 47), (1, .int 0)]) (pc := 8) d_md_word_8 rfl (Nat.le_of_ble_eq_true rfl) rfl ?_
  refine qr_iload_n (pc := 9) d_md_word_9 rfl rfl ?_
  refine qr_istore (lv' := [(5, .int 0), (3, .long 0), (2, .int (0 - 0)), (0, .ref 47), (1, .int 0)]) (pc := 10) d_md_word_10 (Nat.le_of_ble_eq_true rfl) rfl ?_
  refine qr_iload (pc := 12) d_md_word_12 rfl ?_
  refine qr_aload_n (pc := 14) d_md_word_14 rfl rfl ?_
  refine qr_get (v := .int 0) (pc := 15) d_md_word_15 fl_md_117 (by decide) (by decide) (c_47 _ _) (congrArg (fun t => some (Value.int t)) h) ?_
  refine qr_icmp_ge (tgt := 46) (pc := 18) d_md_word_18 (by decide) (fun _ => ?_) (fun h18 => absurd h18 (by decide))
  refine qr_lload_n (pc := 46) d_md_word_46 rfl rfl ?_
  refine qr_ldc2 (v := 6710629) (pc := 47) d_md_word_47 kl_md_135 ?_
  refine qr_lcmp (pc := 50) d_md_word_50 ?_
  refine qr_if_ne (tgt := 56) (pc := 51) d_md_word_51 (by decide) (fun h51 => ?_) (fun h51 => ?_)
  · skip
    rw [lgc_eq] at h51
    refine qr_lload_n (pc := 56) d_md_word_56 rfl rfl ?_
    refine qr_ldc2 (v := 1718773093) (pc := 57) d_md_word_57 kl_md_137 ?_
    refine qr_lcmp (pc := 60) d_md_word_60 ?_
    refine qr_if_ne (tgt := 66) (pc := 61) d_md_word_61 (by decide) (fun h61 => ?_) (fun h61 => ?_)
    · skip
      rw [lgc_eq] at h61
      refine qr_lload_n (pc := 66) d_md_word_66 rfl rfl ?_
      refine qr_ldc2 (v := 7170414) (pc := 67) d_md_word_67 kl_md_139 ?_
      refine qr_lcmp (pc := 70) d_md_word_70 ?_
      refine qr_if_ne (tgt := 76) (pc := 71) d_md_word_71 (by decide) (fun h71 => ?_) (fun h71 => ?_)
      · skip
        rw [lgc_eq] at h71
        refine qr_lload_n (pc := 76) d_md_word_76 rfl rfl ?_
        refine qr_ldc2 (v := 7366002) (pc := 77) d_md_word_77 kl_md_141 ?_
        refine qr_lcmp (pc := 80) d_md_word_80 ?_
        refine qr_if_ne (tgt := 86) (pc := 81) d_md_word_81 (by decide) (fun h81 => ?_) (fun h81 => ?_)
        · skip
          rw [lgc_eq] at h81
          refine qr_lload_n (pc := 86) d_md_word_86 rfl rfl ?_
          refine qr_ldc2 (v := 1953064306) (pc := 87) d_md_word_87 kl_md_143 ?_
          refine qr_lcmp (pc := 90) d_md_word_90 ?_
          refine qr_if_ne (tgt := 96) (pc := 91) d_md_word_91 (by decide) (fun h91 => ?_) (fun h91 => ?_)
          · skip
            rw [lgc_eq] at h91
            refine qr_lload_n (pc := 96) d_md_word_96 rfl rfl ?_
            refine qr_ldc2 (v := 1919251316) (pc := 97) d_md_word_97 kl_md_145 ?_
            refine qr_lcmp (pc := 100) d_md_word_100 ?_
            refine qr_if_ne (tgt := 108) (pc := 101) d_md_word_101 (by decide) (fun h101 => ?_) (fun h101 => ?_)
            · skip
              rw [lgc_eq] at h101
              refine qr_iconst (v := (-1)) (pc := 108) d_md_word_108 (by decide) ?_
              exact qr_iret (pc := 109) d_md_word_109 rfl rfl ⟨rfl, rfl, rfl⟩ (Nat.zero_le _) (Nat.zero_le _)
            · skip
              rw [lgc_eq] at h101
              exact absurd h101 (by decide)
          · skip
            rw [lgc_eq] at h91
            exact absurd h91 (by decide)
        · skip
          rw [lgc_eq] at h81
          exact absurd h81 (by decide)
      · skip
        rw [lgc_eq] at h71
        exact absurd h71 (by decide)
    · skip
      rw [lgc_eq] at h61
      exact absurd h61 (by decide)
  · skip
    rw [lgc_eq] at h51
    exact absurd h51 (by decide)
set_option maxRecDepth 10000 in
theorem s_md_part0 (l : Launch) (I : Nat → Nat → Int32) (L : Nat → Nat → Int64) (h3 : I 47 4 = 0) (h4 : I 47 36 = 0) : qSp l y_md_part b_md_part 7 (some .boolean) false 3 0 0 [.ref 47] 77 (fm I L) (qD (some (.int 0)) 77 (fm (wI (wI I 47 36 0) 47 1 0) L)) := by
  refine qSp_of (ini := false) (by decide +kernel) (fun h => nomatch h) (Nat.le_of_ble_eq_true rfl) ?_
  show qR _ _ _ 0 [(0, .ref 47)] [] _ _ _ _
  refine qr_aload_n (pc := 0) d_md_part_0 rfl rfl ?_
  refine qr_callV (q := 47) (As := []) (pc := 1) d_md_part_1 lk_md_128 im_md_blanks se_md_blanks rfl (by decide) (by decide) (c_47 _ _) (s_md_bl0 _ I L (by simp [wI, va_up, upd, *]) (by simp [wI, va_up, upd, *])) rfl rfl (Nat.le_of_ble_eq_true rfl) (Nat.le_of_ble_eq_true rfl) (Nat.le_of_ble_eq_true rfl) (Nat.zero_le _) (Nat.zero_le _) (fun h => nomatch h) (fun v n9 f9 hE1 => ?_)
  obtain ⟨rfl, rfl, rfl⟩ := hE1
  refine qr_aload_n (pc := 4) d_md_part_4 rfl rfl ?_
  refine qr_get (v := .int 0) (pc := 5) d_md_part_5 fl_md_117 (by decide) (by decide) (c_47 _ _) rfl ?_
  refine qr_istore_n (lv' := [(1, .int 0), (0, .ref 47)]) (pc := 8) d_md_part_8 rfl (Nat.le_of_ble_eq_true rfl) rfl ?_
  refine qr_aload_n (pc := 9) d_md_part_9 rfl rfl ?_
  refine qr_callV (q := 47) (As := []) (pc := 10) d_md_part_10 lk_md_120 im_md_look se_md_look rfl (by decide) (by decide) (c_47 _ _) (s_md_lk0 _ (wI I 47 36 0) L (by simp [wI, va_up, upd, *]) (by simp [wI, va_up, upd, *])) rfl rfl (Nat.le_of_ble_eq_true rfl) (Nat.le_of_ble_eq_true rfl) (Nat.le_of_ble_eq_true rfl) (Nat.zero_le _) (Nat.zero_le _) (fun h => nomatch h) (fun v n9 f9 hE10 => ?_)
  obtain ⟨rfl, rfl, rfl⟩ := hE10
  refine qr_i2l (pc := 13) d_md_part_13 ?_
  refine qr_ldc2 (v := 97) (pc := 14) d_md_part_14 kl_md_147 ?_
  refine qr_ldc2 (v := 122) (pc := 17) d_md_part_17 kl_md_149 ?_
  refine qr_callS (As := [.long (Int32.toInt64 0), .long 97, .long 122]) (pc := 20) d_md_part_20 lk_md_106 sm_md_in (s_md_in _ false _ _ (Int32.toInt64 0) 97 122) rfl rfl (Nat.le_of_ble_eq_true rfl) (Nat.le_of_ble_eq_true rfl) (Nat.le_of_ble_eq_true rfl) (Nat.zero_le _) (Nat.zero_le _) (fun h => nomatch h) (fun v n9 f9 hE20 => ?_)
  obtain ⟨rfl, rfl, rfl⟩ := hE20
  refine qr_if_eq (tgt := 39) (pc := 23) d_md_part_23 (by decide) (fun h23 => ?_) (fun h23 => ?_)
  · skip
    simp only [b01, Decidable.not_not] at h23
    refine qr_aload_n (pc := 39) d_md_part_39 rfl rfl ?_
    refine qr_iload_n (pc := 40) d_md_part_40 rfl rfl ?_
    refine qr_callV (q := 47) (As := [.int 0]) (pc := 41) d_md_part_41 lk_md_151 im_md_word se_md_word rfl (by decide) (by decide) (c_47 _ _) (s_md_word0 _ (wI I 47 36 0) L (by simp [wI, va_up, upd, *])) rfl rfl (Nat.le_of_ble_eq_true rfl) (Nat.le_of_ble_eq_true rfl) (Nat.le_of_ble_eq_true rfl) (Nat.zero_le _) (Nat.zero_le _) (fun h => nomatch h) (fun v n9 f9 hE41 => ?_)
    obtain ⟨rfl, rfl, rfl⟩ := hE41
    refine qr_istore_n (lv' := [(2, .int (-1)), (1, .int 0), (0, .ref 47)]) (pc := 44) d_md_part_44 rfl (Nat.le_of_ble_eq_true rfl) rfl ?_
    refine qr_iload_n (pc := 45) d_md_part_45 rfl rfl ?_
    refine qr_if_lt (tgt := 70) (pc := 46) d_md_part_46 (by decide) (fun _ => ?_) (fun h46 => absurd h46 (by decide))
    refine qr_iconst (v := 0) (pc := 70) d_md_part_70 (by decide) ?_
    refine qr_istore_n (lv' := [(3, .int 0), (2, .int (-1)), (1, .int 0), (0, .ref 47)]) (pc := 71) d_md_part_71 rfl (Nat.le_of_ble_eq_true rfl) rfl ?_
    refine qr_iload_n (pc := 72) d_md_part_72 rfl rfl ?_
    refine qr_if_lt (tgt := 129) (pc := 73) d_md_part_73 (by decide) (fun _ => ?_) (fun h73 => absurd h73 (by decide))
    refine qr_aload_n (pc := 129) d_md_part_129 rfl rfl ?_
    refine qr_iload_n (pc := 130) d_md_part_130 rfl rfl ?_
    refine qr_putI (pc := 131) d_md_part_131 fl_md_7 (by decide) (by decide) (c_47 _ _) (Nat.le_of_ble_eq_true rfl) (qFit_i _) (fun w => rfl) ?_
    refine qr_iconst (v := 0) (pc := 134) d_md_part_134 (by decide) ?_
    exact qr_iret (pc := 135) d_md_part_135 rfl rfl ⟨rfl, rfl, rfl⟩ (Nat.zero_le _) (Nat.zero_le _)
  · skip
    simp only [b01, Decidable.not_not] at h23
    exact absurd h23 (by decide)
def m_rd0 (I : Nat → Nat → Int32) : Nat → Nat → Int32 := (wI (wI (wI (wI (wI (wI (wI (wI (wI (wI I 47 36 0) 47 37 0) 47 38 0) 49 3 0) 50 3 0) 51 3 0) 52 3 0) 54 3 0) 47 36 0) 47 1 0)
set_option maxRecDepth 10000 in
theorem s_md_read0 (l : Launch) (I : Nat → Nat → Int32) (L : Nat → Nat → Int64) (h3 : I 47 4 = 0) : qSp l y_md_read b_md_read 2 (some .boolean) false 4 0 0 [.ref 47] 77 (fm I L) (qD (some (.int 0)) 77 (fm (m_rd0 I) L)) := by
  refine qSp_of (ini := false) (by decide +kernel) (fun h => nomatch h) (Nat.le_of_ble_eq_true rfl) ?_
  show qR _ _ _ 0 [(0, .ref 47)] [] _ _ _ _
  refine qr_aload_n (pc := 0) d_md_read_0 rfl rfl ?_
  refine qr_iconst (v := 0) (pc := 1) d_md_read_1 (by decide) ?_
  refine qr_putI (pc := 2) d_md_read_2 fl_md_117 (by decide) (by decide) (c_47 _ _) (Nat.le_of_ble_eq_true rfl) (qFit_i _) (fun w => rfl) ?_
  refine qr_aload_n (pc := 5) d_md_read_5 rfl rfl ?_
  refine qr_iconst (v := 0) (pc := 6) d_md_read_6 (by decide) ?_
  refine qr_putI (pc := 7) d_md_read_7 fl_md_154 (by decide) (by decide) (c_47 _ _) (Nat.le_of_ble_eq_true rfl) (qFit_i _) (fun w => rfl) ?_
  refine qr_aload_n (pc := 10) d_md_read_10 rfl rfl ?_
  refine qr_iconst (v := 0) (pc := 11) d_md_read_11 (by decide) ?_
  refine qr_putI (pc := 12) d_md_read_12 fl_md_160 (by decide) (by decide) (c_47 _ _) (Nat.le_of_ble_eq_true rfl) (qFit_i _) (fun w => rfl) ?_
  refine qr_aload_n (pc := 15) d_md_read_15 rfl rfl ?_
  refine qr_get (v := .ref 49) (pc := 16) d_md_read_16 fl_md_17 (by decide) (by decide) (c_47 _ _) rfl ?_
  refine qr_iconst (v := 3) (pc := 19) d_md_read_19 (by decide) ?_
  refine qr_iconst (v := 0) (pc := 20) d_md_read_20 (by decide) ?_
  refine qr_iastMN (j := 3) (pc := 21) d_md_read_21 (by decide) (by decide) (c_49 _ _) (by decide) (by decide) (fun w => rfl) ?_
  refine qr_aload_n (pc := 22) d_md_read_22 rfl rfl ?_
  refine qr_get (v := .ref 50) (pc := 23) d_md_read_23 fl_md_20 (by decide) (by decide) (c_47 _ _) rfl ?_
  refine qr_iconst (v := 3) (pc := 26) d_md_read_26 (by decide) ?_
  refine qr_iconst (v := 0) (pc := 27) d_md_read_27 (by decide) ?_
  refine qr_iastMN (j := 3) (pc := 28) d_md_read_28 (by decide) (by decide) (c_50 _ _) (by decide) (by decide) (fun w => rfl) ?_
  refine qr_aload_n (pc := 29) d_md_read_29 rfl rfl ?_
  refine qr_get (v := .ref 51) (pc := 30) d_md_read_30 fl_md_23 (by decide) (by decide) (c_47 _ _) rfl ?_
  refine qr_iconst (v := 3) (pc := 33) d_md_read_33 (by decide) ?_
  refine qr_iconst (v := 0) (pc := 34) d_md_read_34 (by decide) ?_
  refine qr_iastMN (j := 3) (pc := 35) d_md_read_35 (by decide) (by decide) (c_51 _ _) (by decide) (by decide) (fun w => rfl) ?_
  refine qr_aload_n (pc := 36) d_md_read_36 rfl rfl ?_
  refine qr_get (v := .ref 52) (pc := 37) d_md_read_37 fl_md_26 (by decide) (by decide) (c_47 _ _) rfl ?_
  refine qr_iconst (v := 3) (pc := 40) d_md_read_40 (by decide) ?_
  refine qr_iconst (v := 0) (pc := 41) d_md_read_41 (by decide) ?_
  refine qr_iastMN (j := 3) (pc := 42) d_md_read_42 (by decide) (by decide) (c_52 _ _) (by decide) (by decide) (fun w => rfl) ?_
  refine qr_aload_n (pc := 43) d_md_read_43 rfl rfl ?_
  refine qr_get (v := .ref 54) (pc := 44) d_md_read_44 fl_md_32 (by decide) (by decide) (c_47 _ _) rfl ?_
  refine qr_iconst (v := 3) (pc := 47) d_md_read_47 (by decide) ?_
  refine qr_iconst (v := 0) (pc := 48) d_md_read_48 (by decide) ?_
  refine qr_iastMN (j := 3) (pc := 49) d_md_read_49 (by decide) (by decide) (c_54 _ _) (by decide) (by decide) (fun w => rfl) ?_
  refine qr_aload_n (pc := 50) d_md_read_50 rfl rfl ?_
  refine qr_callV (q := 47) (As := []) (pc := 51) d_md_read_51 lk_md_163 im_md_part se_md_part rfl (by decide) (by decide) (c_47 _ _) (s_md_part0 _ (wI (wI (wI (wI (wI (wI (wI (wI I 47 36 0) 47 37 0) 47 38 0) 49 3 0) 50 3 0) 51 3 0) 52 3 0) 54 3 0) L (by simp [wI, va_up, upd, *]) (by simp [wI, va_up, upd, *])) rfl rfl (Nat.le_of_ble_eq_true rfl) (Nat.le_of_ble_eq_true rfl) (Nat.le_of_ble_eq_true rfl) (Nat.zero_le _) (Nat.zero_le _) (fun h => nomatch h) (fun v n9 f9 hE51 => ?_)
  obtain ⟨rfl, rfl, rfl⟩ := hE51
  refine qr_if_ne (tgt := 59) (pc := 54) d_md_read_54 (by decide) (fun h54 => absurd h54 (by decide)) (fun _ => ?_)
  refine qr_iconst (v := 0) (pc := 57) d_md_read_57 (by decide) ?_
  exact qr_iret (pc := 58) d_md_read_58 rfl rfl ⟨rfl, rfl, rfl⟩ (Nat.zero_le _) (Nat.zero_le _)
set_option maxRecDepth 10000 in
theorem s_md_tariff0 (l : Launch) (I : Nat → Nat → Int32) (L : Nat → Nat → Int64) (h3 : I 47 4 = 0) (t : Int32) : qSp l y_md_tariff b_md_tariff 3 (some .int) false 6 0 0 [.ref 47, .int t] 77 (fm I L) (qD (some (.int 0)) 77 (fm (if 0 ≤ Int32.toInt64 t ∧ Int32.toInt64 t ≤ 2 then wI (m_rd0 (wI I 47 1 (-2))) 47 0 1 else wI (wI I 47 1 (-2)) 47 0 1) L)) := by
  refine qSp_of (ini := false) (by decide +kernel) (fun h => nomatch h) (Nat.le_of_ble_eq_true rfl) ?_
  show qR _ _ _ 0 [(0, .ref 47), (1, .int t)] [] _ _ _ _
  refine qr_aload_n (pc := 0) d_md_tariff_0 rfl rfl ?_
  refine qr_bipush (v := (-2)) (pc := 1) d_md_tariff_1 (by decide) ?_
  refine qr_putI (pc := 3) d_md_tariff_3 fl_md_7 (by decide) (by decide) (c_47 _ _) (Nat.le_of_ble_eq_true rfl) (qFit_i _) (fun w => rfl) ?_
  refine qr_iload_n (pc := 6) d_md_tariff_6 rfl rfl ?_
  refine qr_i2l (pc := 7) d_md_tariff_7 ?_
  refine qr_lconst (v := 0) (pc := 8) d_md_tariff_8 (by decide) ?_
  refine qr_ldc2 (v := 2) (pc := 9) d_md_tariff_9 kl_md_167 ?_
  refine qr_callS (As := [.long (Int32.toInt64 t), .long 0, .long 2]) (pc := 12) d_md_tariff_12 lk_md_106 sm_md_in (s_md_in _ false _ _ (Int32.toInt64 t) 0 2) rfl rfl (Nat.le_of_ble_eq_true rfl) (Nat.le_of_ble_eq_true rfl) (Nat.le_of_ble_eq_true rfl) (Nat.zero_le _) (Nat.zero_le _) (fun h => nomatch h) (fun v n9 f9 hE12 => ?_)
  obtain ⟨rfl, rfl, rfl⟩ := hE12
  refine qr_if_eq (tgt := 25) (pc := 15) d_md_tariff_15 (by decide) (fun h15 => ?_) (fun h15 => ?_)
  · skip
    simp only [b01, Decidable.not_not] at h15
    refine qr_aload_n (pc := 25) d_md_tariff_25 rfl rfl ?_
    refine qr_iconst (v := 1) (pc := 26) d_md_tariff_26 (by decide) ?_
    refine qr_callV (q := 47) (As := [.int 1]) (pc := 27) d_md_tariff_27 lk_md_110 im_md_refuse se_md_refuse rfl (by decide) (by decide) (c_47 _ _) (s_md_refuse _ false (wI I 47 1 (-2)) L 1) rfl rfl (Nat.le_of_ble_eq_true rfl) (Nat.le_of_ble_eq_true rfl) (Nat.le_of_ble_eq_true rfl) (Nat.zero_le _) (Nat.zero_le _) (fun h => nomatch h) (fun v n9 f9 hE27 => ?_)
    obtain ⟨rfl, rfl, rfl⟩ := hE27
    exact qr_iret (pc := 30) d_md_tariff_30 rfl rfl ⟨rfl, rfl, (by simp [*])⟩ (Nat.zero_le _) (Nat.zero_le _)
  · skip
    simp only [b01, Decidable.not_not] at h15
    refine qr_aload_n (pc := 18) d_md_tariff_18 rfl rfl ?_
    refine qr_callV (q := 47) (As := []) (pc := 19) d_md_tariff_19 lk_md_169 im_md_read se_md_read rfl (by decide) (by decide) (c_47 _ _) (s_md_read0 _ (wI I 47 1 (-2)) L (by simp [wI, va_up, upd, *])) rfl rfl (Nat.le_of_ble_eq_true rfl) (Nat.le_of_ble_eq_true rfl) (Nat.le_of_ble_eq_true rfl) (Nat.zero_le _) (Nat.zero_le _) (fun h => nomatch h) (fun v n9 f9 hE19 => ?_)
    obtain ⟨rfl, rfl, rfl⟩ := hE19
    refine qr_if_ne (tgt := 31) (pc := 22) d_md_tariff_22 (by decide) (fun h22 => absurd h22 (by decide)) (fun _ => ?_)
    refine qr_aload_n (pc := 25) d_md_tariff_25 rfl rfl ?_
    refine qr_iconst (v := 1) (pc := 26) d_md_tariff_26 (by decide) ?_
    refine qr_callV (q := 47) (As := [.int 1]) (pc := 27) d_md_tariff_27 lk_md_110 im_md_refuse se_md_refuse rfl (by decide) (by decide) (c_47 _ _) (s_md_refuse _ false (m_rd0 (wI I 47 1 (-2))) L 1) rfl rfl (Nat.le_of_ble_eq_true rfl) (Nat.le_of_ble_eq_true rfl) (Nat.le_of_ble_eq_true rfl) (Nat.zero_le _) (Nat.zero_le _) (fun h => nomatch h) (fun v n9 f9 hE27 => ?_)
    obtain ⟨rfl, rfl, rfl⟩ := hE27
    exact qr_iret (pc := 30) d_md_tariff_30 rfl rfl ⟨rfl, rfl, (by simp [*])⟩ (Nat.zero_le _) (Nat.zero_le _)
