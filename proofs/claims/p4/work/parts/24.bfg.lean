set_option maxRecDepth 10000 in
theorem r_bf_count (l : Launch) (x : Bool) (I : Nat → Nat → Int32) (L : Nat → Nat → Int64) (ne z zp : Nat) (hne : I 9 4 = nI ne) (hne2 : ne ≤ 80) (hz : I 14 5 = nI z) (hz2 : z ≤ 50) (hzp : I 20 4 = nI zp) (hzp2 : zp ≤ 10) (w : Int32) : qR (l, y_bf_count.cls, b_bf_count, 2, (some .int), false, x, 9, 1, 6, 77, q0) (qE2 ((w = 0 ∨ w = 1 ∨ w = 2 ∨ w = 3 ∨ w = 4)) (some (.int (if w = 0 then I 0 9 else if w = 1 then nI ne else if w = 2 then nI z else if w = 3 then nI zp else I 1 3))) (fm I L)) (qX2 (fm I L) (fun En => En = xA ∧ ¬ (w = 0 ∨ w = 1 ∨ w = 2 ∨ w = 3 ∨ w = 4))) 0 [(0, .ref 0), (1, .int w)] [] 77 0 0 (fm I L) := by
  refine qr_iload_n (pc := 0) d_bf_count_0 rfl rfl ?_
  by_cases hs0 : w = 0
  · subst hs0
    refine qr_tableIn (x := 0) (off := 35) (tgt := 36) (pc := 1) d_bf_count_1 (by decide) (by decide) (by decide) (by decide) ?_
    refine qr_aload_n (pc := 36) d_bf_count_36 rfl rfl ?_
    refine qr_get (v := .int (I 0 9)) (pc := 37) d_bf_count_37 fl_bf_60 (by decide) (by decide) (c_0 _ _) rfl ?_
    exact qr_iret (pc := 40) d_bf_count_40 rfl rfl ⟨(by simp), (by simp), rfl, rfl⟩ (Nat.zero_le _) (Nat.zero_le _)
  by_cases hs1 : w = 1
  · subst hs1
    refine qr_tableIn (x := 1) (off := 40) (tgt := 41) (pc := 1) d_bf_count_1 (by decide) (by decide) (by decide) (by decide) ?_
    refine qr_aload_n (pc := 41) d_bf_count_41 rfl rfl ?_
    refine qr_get (v := .ref 9) (pc := 42) d_bf_count_42 fl_bf_31 (by decide) (by decide) (c_0 _ _) rfl ?_
    refine qr_callV (q := 9) (As := []) (pc := 45) d_bf_count_45 lk_bf_160 im_ev_size se_ev_size rfl (by decide) (by decide) (c_9 _ _) (s_ev_size _ x I L ne hne hne2) rfl rfl (Nat.le_of_ble_eq_true rfl) (Nat.le_of_ble_eq_true rfl) (Nat.le_of_ble_eq_true rfl) (Nat.zero_le _) (Nat.zero_le _) (fun h => ⟨h, rfl, Or.inl rfl⟩) (fun v n9 f9 hE45 => ?_)
    obtain ⟨rfl, rfl, rfl⟩ := hE45
    exact qr_iret (pc := 48) d_bf_count_48 rfl rfl ⟨(by simp), (by simp), rfl, rfl⟩ (Nat.zero_le _) (Nat.zero_le _)
  by_cases hs2 : w = 2
  · subst hs2
    refine qr_tableIn (x := 2) (off := 48) (tgt := 49) (pc := 1) d_bf_count_1 (by decide) (by decide) (by decide) (by decide) ?_
    refine qr_aload_n (pc := 49) d_bf_count_49 rfl rfl ?_
    refine qr_get (v := .ref 14) (pc := 50) d_bf_count_50 fl_bf_38 (by decide) (by decide) (c_0 _ _) rfl ?_
    refine qr_callV (q := 14) (As := []) (pc := 53) d_bf_count_53 lk_bf_166 im_ib_size se_ib_size rfl (by decide) (by decide) (c_14 _ _) (s_ib_size _ x I L z hz hz2) rfl rfl (Nat.le_of_ble_eq_true rfl) (Nat.le_of_ble_eq_true rfl) (Nat.le_of_ble_eq_true rfl) (Nat.zero_le _) (Nat.zero_le _) (fun h => ⟨h, rfl, Or.inl rfl⟩) (fun v n9 f9 hE53 => ?_)
    obtain ⟨rfl, rfl, rfl⟩ := hE53
    exact qr_iret (pc := 56) d_bf_count_56 rfl rfl ⟨(by simp), (by simp), rfl, rfl⟩ (Nat.zero_le _) (Nat.zero_le _)
  by_cases hs3 : w = 3
  · subst hs3
    refine qr_tableIn (x := 3) (off := 56) (tgt := 57) (pc := 1) d_bf_count_1 (by decide) (by decide) (by decide) (by decide) ?_
    refine qr_aload_n (pc := 57) d_bf_count_57 rfl rfl ?_
    refine qr_get (v := .ref 20) (pc := 58) d_bf_count_58 fl_bf_45 (by decide) (by decide) (c_0 _ _) rfl ?_
    refine qr_callV (q := 20) (As := []) (pc := 61) d_bf_count_61 lk_bf_189 im_pb_size se_pb_size rfl (by decide) (by decide) (c_20 _ _) (s_pb_size _ x I L zp hzp hzp2) rfl rfl (Nat.le_of_ble_eq_true rfl) (Nat.le_of_ble_eq_true rfl) (Nat.le_of_ble_eq_true rfl) (Nat.zero_le _) (Nat.zero_le _) (fun h => ⟨h, rfl, Or.inl rfl⟩) (fun v n9 f9 hE61 => ?_)
    obtain ⟨rfl, rfl, rfl⟩ := hE61
    exact qr_iret (pc := 64) d_bf_count_64 rfl rfl ⟨(by simp), (by simp), rfl, rfl⟩ (Nat.zero_le _) (Nat.zero_le _)
  by_cases hs4 : w = 4
  · subst hs4
    refine qr_tableIn (x := 4) (off := 64) (tgt := 65) (pc := 1) d_bf_count_1 (by decide) (by decide) (by decide) (by decide) ?_
    refine qr_aload_n (pc := 65) d_bf_count_65 rfl rfl ?_
    refine qr_get (v := .ref 1) (pc := 66) d_bf_count_66 fl_bf_10 (by decide) (by decide) (c_0 _ _) rfl ?_
    refine qr_callV (q := 1) (As := []) (pc := 69) d_bf_count_69 lk_bf_83 im_tr_length se_tr_length rfl (by decide) (by decide) (c_1 _ _) (s_tr_length _ x I L) rfl rfl (Nat.le_of_ble_eq_true rfl) (Nat.le_of_ble_eq_true rfl) (Nat.le_of_ble_eq_true rfl) (Nat.zero_le _) (Nat.zero_le _) (fun h => ⟨h, rfl, Or.inl rfl⟩) (fun v n9 f9 hE69 => ?_)
    obtain ⟨rfl, rfl, rfl⟩ := hE69
    exact qr_iret (pc := 72) d_bf_count_72 rfl rfl ⟨(by simp), (by simp), rfl, rfl⟩ (Nat.zero_le _) (Nat.zero_le _)
  have hout : w.toInt < 0 ∨ 4 < w.toInt := by
    rcases (show w.toInt < 0 ∨ 4 < w.toInt ∨ w.toInt = 0 ∨ w.toInt = 1 ∨ w.toInt = 2 ∨ w.toInt = 3 ∨ w.toInt = 4 by omega) with h9 | h9 | h9 | h9 | h9 | h9 | h9
    · exact Or.inl h9
    · exact Or.inr h9
    · exact absurd (Int32.toInt_inj.mp (h9.trans (by decide))) hs0
    · exact absurd (Int32.toInt_inj.mp (h9.trans (by decide))) hs1
    · exact absurd (Int32.toInt_inj.mp (h9.trans (by decide))) hs2
    · exact absurd (Int32.toInt_inj.mp (h9.trans (by decide))) hs3
    · exact absurd (Int32.toInt_inj.mp (h9.trans (by decide))) hs4
  refine qr_tableOut (tgt := 73) (pc := 1) d_bf_count_1 hout (by decide) ?_
  exact qr_throw (pc := 73) ⟨80, 82, d_bf_count_73, d_bf_count_76, d_bf_count_77, d_bf_count_80, cl_bf_80, ie_IllegalArgumentException, th_IllegalArgumentException, (by decide +kernel)⟩ (Nat.le_of_ble_eq_true rfl) ⟨⟨rfl, by simp [*]⟩, rfl, rfl⟩ (Nat.le_of_ble_eq_true rfl) (Nat.le_of_ble_eq_true rfl)
def u_told (I : Nat → Nat → Int32) (L : Nat → Nat → Int64) (c z zp : Nat) (w : Int32) : Int64 := if w = 0 then Int32.toInt64 (I (37 + 2 * c) 1) else if w = 1 then (if I (37 + 2 * c) 2 = 0 then 0 else 1) else if w = 2 then Int32.toInt64 (I (37 + 2 * c) 3) else if w = 3 then L (37 + 2 * c) 4 else if w = 4 then u_open I L (nI c) z else if w = 5 then u_pamt I L (nI c) zp - u_earn I L (nI c) (I 0 9) zp else u_earn I L (nI c) (I 0 9) zp
def u_inv (I : Nat → Nat → Int32) (L : Nat → Nat → Int64) (k : Nat) (w : Int32) : Int64 := if w = 0 then Int32.toInt64 (I 15 k) else if w = 1 then Int32.toInt64 (I 16 k) else if w = 2 then L 17 k else if w = 3 then Int32.toInt64 (I 18 k) else if w = 4 then L 19 k else Int32.toInt64 (u_over I L (I 0 9) k)
def u_books (I : Nat → Nat → Int32) (L : Nat → Nat → Int64) (z zp : Nat) (w : Int32) : Int64 := if w = 0 then L 0 10 else if w = 1 then u_allOpen I L z 5 else if w = 2 then u_allCr L 5 else if w = 3 then u_all (L 17) z + u_allEa I L zp 5 else u_all (L 22) zp - u_allEa I L zp 5
set_option maxRecDepth 10000 in
theorem r_bf_told (l : Launch) (x : Bool) (I : Nat → Nat → Int32) (L : Nat → Nat → Int64) (ne z zp : Nat) (hne : I 9 4 = nI ne) (hne2 : ne ≤ 80) (hz : I 14 5 = nI z) (hz2 : z ≤ 50) (hzp : I 20 4 = nI zp) (hzp2 : zp ≤ 10) (hB : ∀ c, c < 5 → qB (I (37 + 2 * c) 2)) (c w : Int32) : qR (l, y_bf_told.cls, b_bf_told, 3, (some .long), false, x, 9, 1, 6, 77, q0) (qE2 (¬ noC c ∧ (w = 0 ∨ w = 1 ∨ w = 2 ∨ w = 3 ∨ w = 4 ∨ w = 5 ∨ w = 6)) (some (.long (u_told I L c.toNatClampNeg z zp w))) (fm I L)) (qX2 (fm I L) (fun En => En = xA ∧ ¬ (¬ noC c ∧ (w = 0 ∨ w = 1 ∨ w = 2 ∨ w = 3 ∨ w = 4 ∨ w = 5 ∨ w = 6)))) 0 [(0, .ref 0), (1, .int c), (2, .int w)] [] 77 0 0 (fm I L) := by
  refine qr_iload_n (pc := 0) d_bf_told_0 rfl rfl ?_
  refine qr_callS (As := [.int c]) (pc := 1) d_bf_told_1 lk_bf_127 sm_bf_isCustomer (s_bf_isCustomer _ x _ _ c) rfl rfl (Nat.le_of_ble_eq_true rfl) (Nat.le_of_ble_eq_true rfl) (Nat.le_of_ble_eq_true rfl) (Nat.zero_le _) (Nat.zero_le _) (fun h => ⟨h, rfl, Or.inl rfl⟩) (fun v n9 f9 hE1 => ?_)
  obtain ⟨rfl, rfl, rfl⟩ := hE1
  refine qr_if_ne (tgt := 15) (pc := 4) d_bf_told_4 (by decide) (fun h4 => ?_) (fun h4 => ?_)
  · skip
    rw [isN0] at h4
    obtain ⟨c9, hc9, rfl⟩ := isN_nI 5 h4
    have hc : c9 < 5 := hc9
    have ccl : (nI c9).toNatClampNeg = c9 := nI_clamp (by omega)
    refine qr_iload_n (pc := 15) d_bf_told_15 rfl rfl ?_
    by_cases hs0 : w = 0
    · subst hs0
      refine qr_tableIn (x := 0) (off := 44) (tgt := 60) (pc := 16) d_bf_told_16 (by decide) (by decide) (by decide) (by decide) ?_
      refine qr_aload_n (pc := 60) d_bf_told_60 rfl rfl ?_
      refine qr_get (v := .ref 8) (pc := 61) d_bf_told_61 fl_bf_24 (by decide) (by decide) (c_0 _ _) rfl ?_
      refine qr_iload_n (pc := 64) d_bf_told_64 rfl rfl ?_
      refine qr_aald (w := 37 + 2 * c9) (pc := 65) d_bf_told_65 (by decide) (by decide) (c_8 _ _) rfl (vp_in_nI (by omega) (by decide)) (aal_8 (by omega)) ?_
      refine qr_callV (q := 37 + 2 * c9) (As := []) (pc := 66) d_bf_told_66 lk_bf_130 im_cu_tariffNow se_cu_tariffNow rfl (isCu_c hc).1 (isCu_c hc).1 ((isCu_c hc).2.2.1 _ _) (s_cu_tariffNow _ x I L (37 + 2 * c9) (38 + 2 * c9) (isCu_c hc)) rfl rfl (Nat.le_of_ble_eq_true rfl) (Nat.le_of_ble_eq_true rfl) (Nat.le_of_ble_eq_true rfl) (Nat.zero_le _) (Nat.zero_le _) (fun h => ⟨h, rfl, Or.inl rfl⟩) (fun v n9 f9 hE66 => ?_)
      obtain ⟨rfl, rfl, rfl⟩ := hE66
      refine qr_i2l (pc := 69) d_bf_told_69 ?_
      exact qr_lret (pc := 70) d_bf_told_70 rfl ⟨(by simp [noC, *]), (by simp [u_told, *]), rfl, rfl⟩ (Nat.zero_le _) (Nat.zero_le _)
    by_cases hs1 : w = 1
    · subst hs1
      refine qr_tableIn (x := 1) (off := 55) (tgt := 71) (pc := 16) d_bf_told_16 (by decide) (by decide) (by decide) (by decide) ?_
      refine qr_aload_n (pc := 71) d_bf_told_71 rfl rfl ?_
      refine qr_get (v := .ref 8) (pc := 72) d_bf_told_72 fl_bf_24 (by decide) (by decide) (c_0 _ _) rfl ?_
      refine qr_iload_n (pc := 75) d_bf_told_75 rfl rfl ?_
      refine qr_aald (w := 37 + 2 * c9) (pc := 76) d_bf_told_76 (by decide) (by decide) (c_8 _ _) rfl (vp_in_nI (by omega) (by decide)) (aal_8 (by omega)) ?_
      refine qr_callV (q := 37 + 2 * c9) (As := []) (pc := 77) d_bf_told_77 lk_bf_140 im_cu_isPaused se_cu_isPaused rfl (isCu_c hc).1 (isCu_c hc).1 ((isCu_c hc).2.2.1 _ _) (s_cu_isPaused _ x I L (37 + 2 * c9) (38 + 2 * c9) (isCu_c hc) (hB c9 hc)) rfl rfl (Nat.le_of_ble_eq_true rfl) (Nat.le_of_ble_eq_true rfl) (Nat.le_of_ble_eq_true rfl) (Nat.zero_le _) (Nat.zero_le _) (fun h => ⟨h, rfl, Or.inl rfl⟩) (fun v n9 f9 hE77 => ?_)
      obtain ⟨rfl, rfl, rfl⟩ := hE77
      refine qr_if_eq (tgt := 87) (pc := 80) d_bf_told_80 (by decide) (fun h80 => ?_) (fun h80 => ?_)
      · skip
        refine qr_lconst (v := 0) (pc := 87) d_bf_told_87 (by decide) ?_
        exact qr_lret (pc := 88) d_bf_told_88 rfl ⟨(by simp [noC, *]), (by simp [u_told, *]), rfl, rfl⟩ (Nat.zero_le _) (Nat.zero_le _)
      · skip
        refine qr_lconst (v := 1) (pc := 83) d_bf_told_83 (by decide) ?_
        refine qr_goto (tgt := 88) (pc := 84) d_bf_told_84 (by decide) ?_
        exact qr_lret (pc := 88) d_bf_told_88 rfl ⟨(by simp [noC, *]), (by simp [u_told, *]), rfl, rfl⟩ (Nat.zero_le _) (Nat.zero_le _)
    by_cases hs2 : w = 2
    · subst hs2
      refine qr_tableIn (x := 2) (off := 73) (tgt := 89) (pc := 16) d_bf_told_16 (by decide) (by decide) (by decide) (by decide) ?_
      refine qr_aload_n (pc := 89) d_bf_told_89 rfl rfl ?_
      refine qr_get (v := .ref 8) (pc := 90) d_bf_told_90 fl_bf_24 (by decide) (by decide) (c_0 _ _) rfl ?_
      refine qr_iload_n (pc := 93) d_bf_told_93 rfl rfl ?_
      refine qr_aald (w := 37 + 2 * c9) (pc := 94) d_bf_told_94 (by decide) (by decide) (c_8 _ _) rfl (vp_in_nI (by omega) (by decide)) (aal_8 (by omega)) ?_
      refine qr_callV (q := 37 + 2 * c9) (As := []) (pc := 95) d_bf_told_95 lk_bf_218 im_cu_stage se_cu_stage rfl (isCu_c hc).1 (isCu_c hc).1 ((isCu_c hc).2.2.1 _ _) (s_cu_stage _ x I L (37 + 2 * c9) (38 + 2 * c9) (isCu_c hc)) rfl rfl (Nat.le_of_ble_eq_true rfl) (Nat.le_of_ble_eq_true rfl) (Nat.le_of_ble_eq_true rfl) (Nat.zero_le _) (Nat.zero_le _) (fun h => ⟨h, rfl, Or.inl rfl⟩) (fun v n9 f9 hE95 => ?_)
      obtain ⟨rfl, rfl, rfl⟩ := hE95
      refine qr_i2l (pc := 98) d_bf_told_98 ?_
      exact qr_lret (pc := 99) d_bf_told_99 rfl ⟨(by simp [noC, *]), (by simp [u_told, *]), rfl, rfl⟩ (Nat.zero_le _) (Nat.zero_le _)
    by_cases hs3 : w = 3
    · subst hs3
      refine qr_tableIn (x := 3) (off := 84) (tgt := 100) (pc := 16) d_bf_told_16 (by decide) (by decide) (by decide) (by decide) ?_
      refine qr_aload_n (pc := 100) d_bf_told_100 rfl rfl ?_
      refine qr_get (v := .ref 8) (pc := 101) d_bf_told_101 fl_bf_24 (by decide) (by decide) (c_0 _ _) rfl ?_
      refine qr_iload_n (pc := 104) d_bf_told_104 rfl rfl ?_
      refine qr_aald (w := 37 + 2 * c9) (pc := 105) d_bf_told_105 (by decide) (by decide) (c_8 _ _) rfl (vp_in_nI (by omega) (by decide)) (aal_8 (by omega)) ?_
      refine qr_callV (q := 37 + 2 * c9) (As := []) (pc := 106) d_bf_told_106 lk_bf_175 im_cu_credit se_cu_credit rfl (isCu_c hc).1 (isCu_c hc).1 ((isCu_c hc).2.2.1 _ _) (s_cu_credit _ x I L (37 + 2 * c9) (38 + 2 * c9) (isCu_c hc)) rfl rfl (Nat.le_of_ble_eq_true rfl) (Nat.le_of_ble_eq_true rfl) (Nat.le_of_ble_eq_true rfl) (Nat.zero_le _) (Nat.zero_le _) (fun h => ⟨h, rfl, Or.inl rfl⟩) (fun v n9 f9 hE106 => ?_)
      obtain ⟨rfl, rfl, rfl⟩ := hE106
      exact qr_lret (pc := 109) d_bf_told_109 rfl ⟨(by simp [noC, *]), (by simp [u_told, *]), rfl, rfl⟩ (Nat.zero_le _) (Nat.zero_le _)
    by_cases hs4 : w = 4
    · subst hs4
      refine qr_tableIn (x := 4) (off := 94) (tgt := 110) (pc := 16) d_bf_told_16 (by decide) (by decide) (by decide) (by decide) ?_
      refine qr_aload_n (pc := 110) d_bf_told_110 rfl rfl ?_
      refine qr_get (v := .ref 14) (pc := 111) d_bf_told_111 fl_bf_38 (by decide) (by decide) (c_0 _ _) rfl ?_
      refine qr_iload_n (pc := 114) d_bf_told_114 rfl rfl ?_
      refine qr_callV (q := 14) (As := [.int (nI c9)]) (pc := 115) d_bf_told_115 lk_bf_221 im_ib_openOf se_ib_openOf rfl (by decide) (by decide) (c_14 _ _) (s_ib_openOf _ x I L z hz hz2 (nI c9)) rfl rfl (Nat.le_of_ble_eq_true rfl) (Nat.le_of_ble_eq_true rfl) (Nat.le_of_ble_eq_true rfl) (Nat.zero_le _) (Nat.zero_le _) (fun h => ⟨h, rfl, Or.inl rfl⟩) (fun v n9 f9 hE115 => ?_)
      obtain ⟨rfl, rfl, rfl⟩ := hE115
      exact qr_lret (pc := 118) d_bf_told_118 rfl ⟨(by simp [noC, *]), (by simp [u_told, *]), rfl, rfl⟩ (Nat.zero_le _) (Nat.zero_le _)
    by_cases hs5 : w = 5
    · subst hs5
      refine qr_tableIn (x := 5) (off := 103) (tgt := 119) (pc := 16) d_bf_told_16 (by decide) (by decide) (by decide) (by decide) ?_
      refine qr_aload_n (pc := 119) d_bf_told_119 rfl rfl ?_
      refine qr_get (v := .ref 20) (pc := 120) d_bf_told_120 fl_bf_45 (by decide) (by decide) (c_0 _ _) rfl ?_
      refine qr_iload_n (pc := 123) d_bf_told_123 rfl rfl ?_
      refine qr_callV (q := 20) (As := [.int (nI c9)]) (pc := 124) d_bf_told_124 lk_bf_224 im_pb_amountsOf se_pb_amountsOf rfl (by decide) (by decide) (c_20 _ _) (s_pb_amountsOf _ x I L zp hzp hzp2 (nI c9)) rfl rfl (Nat.le_of_ble_eq_true rfl) (Nat.le_of_ble_eq_true rfl) (Nat.le_of_ble_eq_true rfl) (Nat.zero_le _) (Nat.zero_le _) (fun h => ⟨h, rfl, Or.inl rfl⟩) (fun v n9 f9 hE124 => ?_)
      obtain ⟨rfl, rfl, rfl⟩ := hE124
      refine qr_aload_n (pc := 127) d_bf_told_127 rfl rfl ?_
      refine qr_get (v := .ref 20) (pc := 128) d_bf_told_128 fl_bf_45 (by decide) (by decide) (c_0 _ _) rfl ?_
      refine qr_iload_n (pc := 131) d_bf_told_131 rfl rfl ?_
      refine qr_aload_n (pc := 132) d_bf_told_132 rfl rfl ?_
      refine qr_get (v := .int (I 0 9)) (pc := 133) d_bf_told_133 fl_bf_60 (by decide) (by decide) (c_0 _ _) rfl ?_
      refine qr_callV (q := 20) (As := [.int (nI c9), .int (I 0 9)]) (pc := 136) d_bf_told_136 lk_bf_227 im_pb_earnedOf se_pb_earnedOf rfl (by decide) (by decide) (c_20 _ _) (s_pb_earnedOf _ x I L zp hzp hzp2 (nI c9) (I 0 9)) rfl rfl (Nat.le_of_ble_eq_true rfl) (Nat.le_of_ble_eq_true rfl) (Nat.le_of_ble_eq_true rfl) (Nat.zero_le _) (Nat.zero_le _) (fun h => ⟨h, rfl, Or.inl rfl⟩) (fun v n9 f9 hE136 => ?_)
      obtain ⟨rfl, rfl, rfl⟩ := hE136
      refine qr_lsub (pc := 139) d_bf_told_139 ?_
      exact qr_lret (pc := 140) d_bf_told_140 rfl ⟨(by simp [noC, *]), (by simp [u_told, *]), rfl, rfl⟩ (Nat.zero_le _) (Nat.zero_le _)
    by_cases hs6 : w = 6
    · subst hs6
      refine qr_tableIn (x := 6) (off := 125) (tgt := 141) (pc := 16) d_bf_told_16 (by decide) (by decide) (by decide) (by decide) ?_
      refine qr_aload_n (pc := 141) d_bf_told_141 rfl rfl ?_
      refine qr_get (v := .ref 20) (pc := 142) d_bf_told_142 fl_bf_45 (by decide) (by decide) (c_0 _ _) rfl ?_
      refine qr_iload_n (pc := 145) d_bf_told_145 rfl rfl ?_
      refine qr_aload_n (pc := 146) d_bf_told_146 rfl rfl ?_
      refine qr_get (v := .int (I 0 9)) (pc := 147) d_bf_told_147 fl_bf_60 (by decide) (by decide) (c_0 _ _) rfl ?_
      refine qr_callV (q := 20) (As := [.int (nI c9), .int (I 0 9)]) (pc := 150) d_bf_told_150 lk_bf_227 im_pb_earnedOf se_pb_earnedOf rfl (by decide) (by decide) (c_20 _ _) (s_pb_earnedOf _ x I L zp hzp hzp2 (nI c9) (I 0 9)) rfl rfl (Nat.le_of_ble_eq_true rfl) (Nat.le_of_ble_eq_true rfl) (Nat.le_of_ble_eq_true rfl) (Nat.zero_le _) (Nat.zero_le _) (fun h => ⟨h, rfl, Or.inl rfl⟩) (fun v n9 f9 hE150 => ?_)
      obtain ⟨rfl, rfl, rfl⟩ := hE150
      exact qr_lret (pc := 153) d_bf_told_153 rfl ⟨(by simp [noC, *]), (by simp [u_told, *]), rfl, rfl⟩ (Nat.zero_le _) (Nat.zero_le _)
    have hout : w.toInt < 0 ∨ 6 < w.toInt := by
      rcases (show w.toInt < 0 ∨ 6 < w.toInt ∨ w.toInt = 0 ∨ w.toInt = 1 ∨ w.toInt = 2 ∨ w.toInt = 3 ∨ w.toInt = 4 ∨ w.toInt = 5 ∨ w.toInt = 6 by omega) with h9 | h9 | h9 | h9 | h9 | h9 | h9 | h9 | h9
      · exact Or.inl h9
      · exact Or.inr h9
      · exact absurd (Int32.toInt_inj.mp (h9.trans (by decide))) hs0
      · exact absurd (Int32.toInt_inj.mp (h9.trans (by decide))) hs1
      · exact absurd (Int32.toInt_inj.mp (h9.trans (by decide))) hs2
      · exact absurd (Int32.toInt_inj.mp (h9.trans (by decide))) hs3
      · exact absurd (Int32.toInt_inj.mp (h9.trans (by decide))) hs4
      · exact absurd (Int32.toInt_inj.mp (h9.trans (by decide))) hs5
      · exact absurd (Int32.toInt_inj.mp (h9.trans (by decide))) hs6
    refine qr_tableOut (tgt := 154) (pc := 16) d_bf_told_16 hout (by decide) ?_
    exact qr_throw (pc := 154) ⟨80, 82, d_bf_told_154, d_bf_told_157, d_bf_told_158, d_bf_told_161, cl_bf_80, ie_IllegalArgumentException, th_IllegalArgumentException, (by decide +kernel)⟩ (Nat.le_of_ble_eq_true rfl) ⟨⟨rfl, by simp [noC, *]⟩, rfl, rfl⟩ (Nat.le_of_ble_eq_true rfl) (Nat.le_of_ble_eq_true rfl)
  · skip
    rw [isN0] at h4
    exact qr_throw (pc := 7) ⟨80, 82, d_bf_told_7, d_bf_told_10, d_bf_told_11, d_bf_told_14, cl_bf_80, ie_IllegalArgumentException, th_IllegalArgumentException, (by decide +kernel)⟩ (Nat.le_of_ble_eq_true rfl) ⟨⟨rfl, by simp [noC, *]⟩, rfl, rfl⟩ (Nat.le_of_ble_eq_true rfl) (Nat.le_of_ble_eq_true rfl)
set_option maxRecDepth 10000 in
theorem r_bf_books (l : Launch) (x : Bool) (I : Nat → Nat → Int32) (L : Nat → Nat → Int64) (ne z zp : Nat) (hne : I 9 4 = nI ne) (hne2 : ne ≤ 80) (hz : I 14 5 = nI z) (hz2 : z ≤ 50) (hzp : I 20 4 = nI zp) (hzp2 : zp ≤ 10) (w : Int32) : qR (l, y_bf_books.cls, b_bf_books, 2, (some .long), false, x, 9, 1, 6, 77, q0) (qE2 ((w = 0 ∨ w = 1 ∨ w = 2 ∨ w = 3 ∨ w = 4)) (some (.long (u_books I L z zp w))) (fm I L)) (qX2 (fm I L) (fun En => En = xA ∧ ¬ (w = 0 ∨ w = 1 ∨ w = 2 ∨ w = 3 ∨ w = 4))) 0 [(0, .ref 0), (1, .int w)] [] 77 0 0 (fm I L) := by
  refine qr_iload_n (pc := 0) d_bf_books_0 rfl rfl ?_
  by_cases hs0 : w = 0
  · subst hs0
    refine qr_tableIn (x := 0) (off := 35) (tgt := 36) (pc := 1) d_bf_books_1 (by decide) (by decide) (by decide) (by decide) ?_
    refine qr_aload_n (pc := 36) d_bf_books_36 rfl rfl ?_
    refine qr_get (v := .long (L 0 10)) (pc := 37) d_bf_books_37 fl_bf_64 (by decide) (by decide) (c_0 _ _) rfl ?_
    exact qr_lret (pc := 40) d_bf_books_40 rfl ⟨(by simp), (by simp [u_books]), rfl, rfl⟩ (Nat.zero_le _) (Nat.zero_le _)
  by_cases hs1 : w = 1
  · subst hs1
    refine qr_tableIn (x := 1) (off := 40) (tgt := 41) (pc := 1) d_bf_books_1 (by decide) (by decide) (by decide) (by decide) ?_
    refine qr_aload_n (pc := 41) d_bf_books_41 rfl rfl ?_
    refine qr_callV (q := 0) (As := []) (pc := 42) d_bf_books_42 lk_bf_230 im_bf_allOpen se_bf_allOpen rfl (by decide) (by decide) (c_0 _ _) (s_bf_allOpen _ x I L z hz hz2) rfl rfl (Nat.le_of_ble_eq_true rfl) (Nat.le_of_ble_eq_true rfl) (Nat.le_of_ble_eq_true rfl) (Nat.zero_le _) (Nat.zero_le _) (fun h => ⟨h, rfl, Or.inl rfl⟩) (fun v n9 f9 hE42 => ?_)
    obtain ⟨rfl, rfl, rfl⟩ := hE42
    exact qr_lret (pc := 45) d_bf_books_45 rfl ⟨(by simp), (by simp [u_books]), rfl, rfl⟩ (Nat.zero_le _) (Nat.zero_le _)
  by_cases hs2 : w = 2
  · subst hs2
    refine qr_tableIn (x := 2) (off := 45) (tgt := 46) (pc := 1) d_bf_books_1 (by decide) (by decide) (by decide) (by decide) ?_
    refine qr_aload_n (pc := 46) d_bf_books_46 rfl rfl ?_
    refine qr_callV (q := 0) (As := []) (pc := 47) d_bf_books_47 lk_bf_233 im_bf_allCredit se_bf_allCredit rfl (by decide) (by decide) (c_0 _ _) (s_bf_allCredit _ x I L) rfl rfl (Nat.le_of_ble_eq_true rfl) (Nat.le_of_ble_eq_true rfl) (Nat.le_of_ble_eq_true rfl) (Nat.zero_le _) (Nat.zero_le _) (fun h => ⟨h, rfl, Or.inl rfl⟩) (fun v n9 f9 hE47 => ?_)
    obtain ⟨rfl, rfl, rfl⟩ := hE47
    exact qr_lret (pc := 50) d_bf_books_50 rfl ⟨(by simp), (by simp [u_books]), rfl, rfl⟩ (Nat.zero_le _) (Nat.zero_le _)
  by_cases hs3 : w = 3
  · subst hs3
    refine qr_tableIn (x := 3) (off := 50) (tgt := 51) (pc := 1) d_bf_books_1 (by decide) (by decide) (by decide) (by decide) ?_
    refine qr_aload_n (pc := 51) d_bf_books_51 rfl rfl ?_
    refine qr_get (v := .ref 14) (pc := 52) d_bf_books_52 fl_bf_38 (by decide) (by decide) (c_0 _ _) rfl ?_
    refine qr_callV (q := 14) (As := []) (pc := 55) d_bf_books_55 lk_bf_236 im_ib_allAmounts se_ib_allAmounts rfl (by decide) (by decide) (c_14 _ _) (s_ib_allAmounts _ x I L z hz hz2) rfl rfl (Nat.le_of_ble_eq_true rfl) (Nat.le_of_ble_eq_true rfl) (Nat.le_of_ble_eq_true rfl) (Nat.zero_le _) (Nat.zero_le _) (fun h => ⟨h, rfl, Or.inl rfl⟩) (fun v n9 f9 hE55 => ?_)
    obtain ⟨rfl, rfl, rfl⟩ := hE55
    refine qr_aload_n (pc := 58) d_bf_books_58 rfl rfl ?_
    refine qr_callV (q := 0) (As := []) (pc := 59) d_bf_books_59 lk_bf_239 im_bf_allEarned se_bf_allEarned rfl (by decide) (by decide) (c_0 _ _) (s_bf_allEarned _ x I L zp hzp hzp2) rfl rfl (Nat.le_of_ble_eq_true rfl) (Nat.le_of_ble_eq_true rfl) (Nat.le_of_ble_eq_true rfl) (Nat.zero_le _) (Nat.zero_le _) (fun h => ⟨h, rfl, Or.inl rfl⟩) (fun v n9 f9 hE59 => ?_)
    obtain ⟨rfl, rfl, rfl⟩ := hE59
    refine qr_ladd (pc := 62) d_bf_books_62 ?_
    exact qr_lret (pc := 63) d_bf_books_63 rfl ⟨(by simp), (by simp [u_books]), rfl, rfl⟩ (Nat.zero_le _) (Nat.zero_le _)
  by_cases hs4 : w = 4
  · subst hs4
    refine qr_tableIn (x := 4) (off := 63) (tgt := 64) (pc := 1) d_bf_books_1 (by decide) (by decide) (by decide) (by decide) ?_
    refine qr_aload_n (pc := 64) d_bf_books_64 rfl rfl ?_
    refine qr_get (v := .ref 20) (pc := 65) d_bf_books_65 fl_bf_45 (by decide) (by decide) (c_0 _ _) rfl ?_
    refine qr_callV (q := 20) (As := []) (pc := 68) d_bf_books_68 lk_bf_242 im_pb_allAmounts se_pb_allAmounts rfl (by decide) (by decide) (c_20 _ _) (s_pb_allAmounts _ x I L zp hzp hzp2) rfl rfl (Nat.le_of_ble_eq_true rfl) (Nat.le_of_ble_eq_true rfl) (Nat.le_of_ble_eq_true rfl) (Nat.zero_le _) (Nat.zero_le _) (fun h => ⟨h, rfl, Or.inl rfl⟩) (fun v n9 f9 hE68 => ?_)
    obtain ⟨rfl, rfl, rfl⟩ := hE68
    refine qr_aload_n (pc := 71) d_bf_books_71 rfl rfl ?_
    refine qr_callV (q := 0) (As := []) (pc := 72) d_bf_books_72 lk_bf_239 im_bf_allEarned se_bf_allEarned rfl (by decide) (by decide) (c_0 _ _) (s_bf_allEarned _ x I L zp hzp hzp2) rfl rfl (Nat.le_of_ble_eq_true rfl) (Nat.le_of_ble_eq_true rfl) (Nat.le_of_ble_eq_true rfl) (Nat.zero_le _) (Nat.zero_le _) (fun h => ⟨h, rfl, Or.inl rfl⟩) (fun v n9 f9 hE72 => ?_)
    obtain ⟨rfl, rfl, rfl⟩ := hE72
    refine qr_lsub (pc := 75) d_bf_books_75 ?_
    exact qr_lret (pc := 76) d_bf_books_76 rfl ⟨(by simp), (by simp [u_books]), rfl, rfl⟩ (Nat.zero_le _) (Nat.zero_le _)
  have hout : w.toInt < 0 ∨ 4 < w.toInt := by
    rcases (show w.toInt < 0 ∨ 4 < w.toInt ∨ w.toInt = 0 ∨ w.toInt = 1 ∨ w.toInt = 2 ∨ w.toInt = 3 ∨ w.toInt = 4 by omega) with h9 | h9 | h9 | h9 | h9 | h9 | h9
    · exact Or.inl h9
    · exact Or.inr h9
    · exact absurd (Int32.toInt_inj.mp (h9.trans (by decide))) hs0
    · exact absurd (Int32.toInt_inj.mp (h9.trans (by decide))) hs1
    · exact absurd (Int32.toInt_inj.mp (h9.trans (by decide))) hs2
    · exact absurd (Int32.toInt_inj.mp (h9.trans (by decide))) hs3
    · exact absurd (Int32.toInt_inj.mp (h9.trans (by decide))) hs4
  refine qr_tableOut (tgt := 77) (pc := 1) d_bf_books_1 hout (by decide) ?_
  exact qr_throw (pc := 77) ⟨80, 82, d_bf_books_77, d_bf_books_80, d_bf_books_81, d_bf_books_84, cl_bf_80, ie_IllegalArgumentException, th_IllegalArgumentException, (by decide +kernel)⟩ (Nat.le_of_ble_eq_true rfl) ⟨⟨rfl, by simp [*]⟩, rfl, rfl⟩ (Nat.le_of_ble_eq_true rfl) (Nat.le_of_ble_eq_true rfl)
set_option maxRecDepth 10000 in
theorem r_bf_invoice (l : Launch) (x : Bool) (I : Nat → Nat → Int32) (L : Nat → Nat → Int64) (z : Nat) (hz : I 14 5 = nI z) (hz2 : z ≤ 50) (k w : Int32) : qR (l, y_bf_invoice.cls, b_bf_invoice, 3, (some .long), false, x, 9, 1, 6, 77, q0) (qE2 (¬ (k < 0 ∨ nI z ≤ k) ∧ (w = 0 ∨ w = 1 ∨ w = 2 ∨ w = 3 ∨ w = 4 ∨ w = 5)) (some (.long (u_inv I L k.toNatClampNeg w))) (fm I L)) (qX2 (fm I L) (fun En => (En = xN ∧ (k < 0 ∨ nI z ≤ k)) ∨ (En = xA ∧ ¬ (k < 0 ∨ nI z ≤ k) ∧ ¬ (w = 0 ∨ w = 1 ∨ w = 2 ∨ w = 3 ∨ w = 4 ∨ w = 5)))) 0 [(0, .ref 0), (1, .int k), (2, .int w)] [] 77 0 0 (fm I L) := by
  refine qr_aload_n (pc := 0) d_bf_invoice_0 rfl rfl ?_
  refine qr_get (v := .ref 14) (pc := 1) d_bf_invoice_1 fl_bf_38 (by decide) (by decide) (c_0 _ _) rfl ?_
  refine qr_iload_n (pc := 4) d_bf_invoice_4 rfl rfl ?_
  refine qr_callV (q := 14) (As := [.int k]) (pc := 5) d_bf_invoice_5 lk_bf_194 im_ib_has se_ib_has rfl (by decide) (by decide) (c_14 _ _) (s_ib_has _ x I L z hz hz2 k) rfl rfl (Nat.le_of_ble_eq_true rfl) (Nat.le_of_ble_eq_true rfl) (Nat.le_of_ble_eq_true rfl) (Nat.zero_le _) (Nat.zero_le _) (fun h => ⟨h, rfl, Or.inl rfl⟩) (fun v n9 f9 hE5 => ?_)
  obtain ⟨rfl, rfl, rfl⟩ := hE5
  refine qr_if_ne (tgt := 19) (pc := 8) d_bf_invoice_8 (by decide) (fun h8 => ?_) (fun h8 => ?_)
  · skip
    rw [isN0] at h8
    obtain ⟨k9, hk9, rfl⟩ := isN_nI z h8
    have kcl : (nI k9).toNatClampNeg = k9 := nI_clamp (by omega)
    refine qr_iload_n (pc := 19) d_bf_invoice_19 rfl rfl ?_
    by_cases hs0 : w = 0
    · subst hs0
      refine qr_tableIn (x := 0) (off := 40) (tgt := 60) (pc := 20) d_bf_invoice_20 (by decide) (by decide) (by decide) (by decide) ?_
      refine qr_aload_n (pc := 60) d_bf_invoice_60 rfl rfl ?_
      refine qr_get (v := .ref 14) (pc := 61) d_bf_invoice_61 fl_bf_38 (by decide) (by decide) (c_0 _ _) rfl ?_
      refine qr_iload_n (pc := 64) d_bf_invoice_64 rfl rfl ?_
      refine qr_callV (q := 14) (As := [.int (nI k9)]) (pc := 65) d_bf_invoice_65 lk_bf_198 im_ib_customerOf se_ib_customerOf rfl (by decide) (by decide) (c_14 _ _) (s_ib_customerOf _ x I L k9 (by omega)) rfl rfl (Nat.le_of_ble_eq_true rfl) (Nat.le_of_ble_eq_true rfl) (Nat.le_of_ble_eq_true rfl) (Nat.zero_le _) (Nat.zero_le _) (fun h => ⟨h, rfl, Or.inl rfl⟩) (fun v n9 f9 hE65 => ?_)
      obtain ⟨rfl, rfl, rfl⟩ := hE65
      refine qr_i2l (pc := 68) d_bf_invoice_68 ?_
      exact qr_lret (pc := 69) d_bf_invoice_69 rfl ⟨⟨h8, by simp⟩, (by simp [u_inv, *]), rfl, rfl⟩ (Nat.zero_le _) (Nat.zero_le _)
    by_cases hs1 : w = 1
    · subst hs1
      refine qr_tableIn (x := 1) (off := 50) (tgt := 70) (pc := 20) d_bf_invoice_20 (by decide) (by decide) (by decide) (by decide) ?_
      refine qr_aload_n (pc := 70) d_bf_invoice_70 rfl rfl ?_
      refine qr_get (v := .ref 14) (pc := 71) d_bf_invoice_71 fl_bf_38 (by decide) (by decide) (c_0 _ _) rfl ?_
      refine qr_iload_n (pc := 74) d_bf_invoice_74 rfl rfl ?_
      refine qr_callV (q := 14) (As := [.int (nI k9)]) (pc := 75) d_bf_invoice_75 lk_bf_201 im_ib_periodOf se_ib_periodOf rfl (by decide) (by decide) (c_14 _ _) (s_ib_periodOf _ x I L k9 (by omega)) rfl rfl (Nat.le_of_ble_eq_true rfl) (Nat.le_of_ble_eq_true rfl) (Nat.le_of_ble_eq_true rfl) (Nat.zero_le _) (Nat.zero_le _) (fun h => ⟨h, rfl, Or.inl rfl⟩) (fun v n9 f9 hE75 => ?_)
      obtain ⟨rfl, rfl, rfl⟩ := hE75
      refine qr_i2l (pc := 78) d_bf_invoice_78 ?_
      exact qr_lret (pc := 79) d_bf_invoice_79 rfl ⟨⟨h8, by simp⟩, (by simp [u_inv, *]), rfl, rfl⟩ (Nat.zero_le _) (Nat.zero_le _)
    by_cases hs2 : w = 2
    · subst hs2
      refine qr_tableIn (x := 2) (off := 60) (tgt := 80) (pc := 20) d_bf_invoice_20 (by decide) (by decide) (by decide) (by decide) ?_
      refine qr_aload_n (pc := 80) d_bf_invoice_80 rfl rfl ?_
      refine qr_get (v := .ref 14) (pc := 81) d_bf_invoice_81 fl_bf_38 (by decide) (by decide) (c_0 _ _) rfl ?_
      refine qr_iload_n (pc := 84) d_bf_invoice_84 rfl rfl ?_
      refine qr_callV (q := 14) (As := [.int (nI k9)]) (pc := 85) d_bf_invoice_85 lk_bf_204 im_ib_amountOf se_ib_amountOf rfl (by decide) (by decide) (c_14 _ _) (s_ib_amountOf _ x I L k9 (by omega)) rfl rfl (Nat.le_of_ble_eq_true rfl) (Nat.le_of_ble_eq_true rfl) (Nat.le_of_ble_eq_true rfl) (Nat.zero_le _) (Nat.zero_le _) (fun h => ⟨h, rfl, Or.inl rfl⟩) (fun v n9 f9 hE85 => ?_)
      obtain ⟨rfl, rfl, rfl⟩ := hE85
      exact qr_lret (pc := 88) d_bf_invoice_88 rfl ⟨⟨h8, by simp⟩, (by simp [u_inv, *]), rfl, rfl⟩ (Nat.zero_le _) (Nat.zero_le _)
    by_cases hs3 : w = 3
    · subst hs3
      refine qr_tableIn (x := 3) (off := 69) (tgt := 89) (pc := 20) d_bf_invoice_20 (by decide) (by decide) (by decide) (by decide) ?_
      refine qr_aload_n (pc := 89) d_bf_invoice_89 rfl rfl ?_
      refine qr_get (v := .ref 14) (pc := 90) d_bf_invoice_90 fl_bf_38 (by decide) (by decide) (c_0 _ _) rfl ?_
      refine qr_iload_n (pc := 93) d_bf_invoice_93 rfl rfl ?_
      refine qr_callV (q := 14) (As := [.int (nI k9)]) (pc := 94) d_bf_invoice_94 lk_bf_208 im_ib_dayOf se_ib_dayOf rfl (by decide) (by decide) (c_14 _ _) (s_ib_dayOf _ x I L k9 (by omega)) rfl rfl (Nat.le_of_ble_eq_true rfl) (Nat.le_of_ble_eq_true rfl) (Nat.le_of_ble_eq_true rfl) (Nat.zero_le _) (Nat.zero_le _) (fun h => ⟨h, rfl, Or.inl rfl⟩) (fun v n9 f9 hE94 => ?_)
      obtain ⟨rfl, rfl, rfl⟩ := hE94
      refine qr_i2l (pc := 97) d_bf_invoice_97 ?_
      exact qr_lret (pc := 98) d_bf_invoice_98 rfl ⟨⟨h8, by simp⟩, (by simp [u_inv, *]), rfl, rfl⟩ (Nat.zero_le _) (Nat.zero_le _)
    by_cases hs4 : w = 4
    · subst hs4
      refine qr_tableIn (x := 4) (off := 79) (tgt := 99) (pc := 20) d_bf_invoice_20 (by decide) (by decide) (by decide) (by decide) ?_
      refine qr_aload_n (pc := 99) d_bf_invoice_99 rfl rfl ?_
      refine qr_get (v := .ref 14) (pc := 100) d_bf_invoice_100 fl_bf_38 (by decide) (by decide) (c_0 _ _) rfl ?_
      refine qr_iload_n (pc := 103) d_bf_invoice_103 rfl rfl ?_
      refine qr_callV (q := 14) (As := [.int (nI k9)]) (pc := 104) d_bf_invoice_104 lk_bf_211 im_ib_paidOf se_ib_paidOf rfl (by decide) (by decide) (c_14 _ _) (s_ib_paidOf _ x I L k9 (by omega)) rfl rfl (Nat.le_of_ble_eq_true rfl) (Nat.le_of_ble_eq_true rfl) (Nat.le_of_ble_eq_true rfl) (Nat.zero_le _) (Nat.zero_le _) (fun h => ⟨h, rfl, Or.inl rfl⟩) (fun v n9 f9 hE104 => ?_)
      obtain ⟨rfl, rfl, rfl⟩ := hE104
      exact qr_lret (pc := 107) d_bf_invoice_107 rfl ⟨⟨h8, by simp⟩, (by simp [u_inv, *]), rfl, rfl⟩ (Nat.zero_le _) (Nat.zero_le _)
    by_cases hs5 : w = 5
    · subst hs5
      refine qr_tableIn (x := 5) (off := 88) (tgt := 108) (pc := 20) d_bf_invoice_20 (by decide) (by decide) (by decide) (by decide) ?_
      refine qr_aload_n (pc := 108) d_bf_invoice_108 rfl rfl ?_
      refine qr_get (v := .ref 14) (pc := 109) d_bf_invoice_109 fl_bf_38 (by decide) (by decide) (c_0 _ _) rfl ?_
      refine qr_iload_n (pc := 112) d_bf_invoice_112 rfl rfl ?_
      refine qr_aload_n (pc := 113) d_bf_invoice_113 rfl rfl ?_
      refine qr_get (v := .int (I 0 9)) (pc := 114) d_bf_invoice_114 fl_bf_60 (by decide) (by decide) (c_0 _ _) rfl ?_
      refine qr_callV (q := 14) (As := [.int (nI k9), .int (I 0 9)]) (pc := 117) d_bf_invoice_117 lk_bf_214 im_ib_overdueDays se_ib_overdueDays rfl (by decide) (by decide) (c_14 _ _) (s_ib_overdueDays _ x I L k9 (by omega) (I 0 9)) rfl rfl (Nat.le_of_ble_eq_true rfl) (Nat.le_of_ble_eq_true rfl) (Nat.le_of_ble_eq_true rfl) (Nat.zero_le _) (Nat.zero_le _) (fun h => ⟨h, rfl, Or.inl rfl⟩) (fun v n9 f9 hE117 => ?_)
      obtain ⟨rfl, rfl, rfl⟩ := hE117
      refine qr_i2l (pc := 120) d_bf_invoice_120 ?_
      exact qr_lret (pc := 121) d_bf_invoice_121 rfl ⟨⟨h8, by simp⟩, (by simp [u_inv, *]), rfl, rfl⟩ (Nat.zero_le _) (Nat.zero_le _)
    have hout : w.toInt < 0 ∨ 5 < w.toInt := by
      rcases (show w.toInt < 0 ∨ 5 < w.toInt ∨ w.toInt = 0 ∨ w.toInt = 1 ∨ w.toInt = 2 ∨ w.toInt = 3 ∨ w.toInt = 4 ∨ w.toInt = 5 by omega) with h9 | h9 | h9 | h9 | h9 | h9 | h9 | h9
      · exact Or.inl h9
      · exact Or.inr h9
      · exact absurd (Int32.toInt_inj.mp (h9.trans (by decide))) hs0
      · exact absurd (Int32.toInt_inj.mp (h9.trans (by decide))) hs1
      · exact absurd (Int32.toInt_inj.mp (h9.trans (by decide))) hs2
      · exact absurd (Int32.toInt_inj.mp (h9.trans (by decide))) hs3
      · exact absurd (Int32.toInt_inj.mp (h9.trans (by decide))) hs4
      · exact absurd (Int32.toInt_inj.mp (h9.trans (by decide))) hs5
    refine qr_tableOut (tgt := 122) (pc := 20) d_bf_invoice_20 hout (by decide) ?_
    exact qr_throw (pc := 122) ⟨80, 82, d_bf_invoice_122, d_bf_invoice_125, d_bf_invoice_126, d_bf_invoice_129, cl_bf_80, ie_IllegalArgumentException, th_IllegalArgumentException, (by decide +kernel)⟩ (Nat.le_of_ble_eq_true rfl) ⟨Or.inr ⟨rfl, h8, by simp [*]⟩, rfl, rfl⟩ (Nat.le_of_ble_eq_true rfl) (Nat.le_of_ble_eq_true rfl)
  · skip
    rw [isN0] at h8
    exact qr_throw (pc := 11) ⟨195, 197, d_bf_invoice_11, d_bf_invoice_14, d_bf_invoice_15, d_bf_invoice_18, cl_bf_195, ie_NoSuchElementException, th_NoSuchElementException, (by decide +kernel)⟩ (Nat.le_of_ble_eq_true rfl) ⟨Or.inl ⟨rfl, h8⟩, rfl, rfl⟩ (Nat.le_of_ble_eq_true rfl) (Nat.le_of_ble_eq_true rfl)
