def m_count (I : Nat → Nat → Int32) (w : Int32) : Int32 := if w = 0 then I 47 2 else if w = 1 then I 47 23 else if w = 2 then I 47 29 else if w = 3 then I 47 34 else if w = 4 then I 47 4 else 0
def m_okw (w : Int32) (n : Int32) : Int32 := if 0 ≤ w ∧ w ≤ n then 0 else 1
def m_inv (I : Nat → Nat → Int32) (L : Nat → Nat → Int64) (k : Nat) (w : Int32) : Int64 := if w = 0 then Int32.toInt64 (I 67 k) else if w = 1 then Int32.toInt64 (I 68 k) else if w = 2 then L 70 k else if w = 3 then Int32.toInt64 (I 69 k) else if w = 4 then L 71 k else if w = 5 then Int32.toInt64 (m_over I L k) else 0
theorem in_nIz {c : Int32} {z : Nat} (hz : z ≤ 1000) (h : 0 ≤ Int32.toInt64 c ∧ Int32.toInt64 c ≤ Int32.toInt64 (nI z - 1)) : ∃ k : Nat, k < z ∧ c = nI k := by
  obtain ⟨h1, h2⟩ := h
  rw [Int64.le_iff_toInt_le, Int32.toInt_toInt64] at h1 h2
  rw [Int32.toInt_toInt64, show (1 : Int32) = nI 1 from rfl, pk_sub_toInt (by omega) (by omega)] at h2
  have h4 : (0 : Int64).toInt = 0 := by decide
  have h0 : ¬ c < 0 := fun q => by
    rw [Int32.lt_iff_toInt_lt] at q
    have h5 : (0 : Int32).toInt = 0 := by decide
    omega
  obtain ⟨k, hk, rfl⟩ := nI_of h0
  rw [nI_toInt hk] at h2
  exact ⟨k, by omega, rfl⟩
theorem wI_wI9 {I : Nat → Nat → Int32} {k j : Nat} {v w : Int32} : wI (wI I k j v) k j w = wI I k j w := by
  funext a b
  by_cases h : a = k
  · subst h
    by_cases h2 : b = j
    · subst h2; rw [wI_at, wI_at]
    · rw [wI_ne (Or.inr h2), wI_ne (Or.inr h2), wI_ne (Or.inr h2)]
  · rw [wI_ne (Or.inl h), wI_ne (Or.inl h), wI_ne (Or.inl h)]
set_option maxRecDepth 10000 in
theorem s_md_count (l : Launch) (x : Bool) (I : Nat → Nat → Int32) (L : Nat → Nat → Int64) (w : Int32) : qSp l y_md_count b_md_count 2 (some .int) x 2 0 0 [.ref 47, .int w] 77 (fm I L) (qD (some (.int (m_count I w))) 77 (fm (wI I 47 0 (if w = 0 ∨ w = 1 ∨ w = 2 ∨ w = 3 ∨ w = 4 then 0 else 1)) L)) := by
  refine qSp_of (ini := false) (by decide +kernel) (fun h => nomatch h) (Nat.le_of_ble_eq_true rfl) ?_
  show qR _ _ _ 0 [(0, .ref 47), (1, .int w)] [] _ _ _ _
  refine qr_aload_n (pc := 0) d_md_count_0 rfl rfl ?_
  refine qr_iconst (v := 0) (pc := 1) d_md_count_1 (by decide) ?_
  refine qr_putI (pc := 2) d_md_count_2 fl_md_99 (by decide) (by decide) (c_47 _ _) (Nat.le_of_ble_eq_true rfl) (qFit_i _) (fun w => rfl) ?_
  refine qr_iload_n (pc := 5) d_md_count_5 rfl rfl ?_
  by_cases hs0 : w = 0
  · subst hs0
    refine qr_tableIn (x := 0) (off := 34) (tgt := 40) (pc := 6) d_md_count_6 (by decide) (by decide) (by decide) (by decide) ?_
    refine qr_aload_n (pc := 40) d_md_count_40 rfl rfl ?_
    refine qr_get (v := .int (I 47 2)) (pc := 41) d_md_count_41 fl_md_188 (by decide) (by decide) (c_47 _ _) rfl ?_
    exact qr_iret (pc := 44) d_md_count_44 rfl rfl ⟨(by simp [m_count, *]), rfl, (by simp [wI_wI9, *])⟩ (Nat.zero_le _) (Nat.zero_le _)
  by_cases hs1 : w = 1
  · subst hs1
    refine qr_tableIn (x := 1) (off := 39) (tgt := 45) (pc := 6) d_md_count_6 (by decide) (by decide) (by decide) (by decide) ?_
    refine qr_aload_n (pc := 45) d_md_count_45 rfl rfl ?_
    refine qr_get (v := .int (I 47 23)) (pc := 46) d_md_count_46 fl_md_198 (by decide) (by decide) (c_47 _ _) rfl ?_
    exact qr_iret (pc := 49) d_md_count_49 rfl rfl ⟨(by simp [m_count, *]), rfl, (by simp [wI_wI9, *])⟩ (Nat.zero_le _) (Nat.zero_le _)
  by_cases hs2 : w = 2
  · subst hs2
    refine qr_tableIn (x := 2) (off := 44) (tgt := 50) (pc := 6) d_md_count_6 (by decide) (by decide) (by decide) (by decide) ?_
    refine qr_aload_n (pc := 50) d_md_count_50 rfl rfl ?_
    refine qr_get (v := .int (I 47 29)) (pc := 51) d_md_count_51 fl_md_213 (by decide) (by decide) (c_47 _ _) rfl ?_
    exact qr_iret (pc := 54) d_md_count_54 rfl rfl ⟨(by simp [m_count, *]), rfl, (by simp [wI_wI9, *])⟩ (Nat.zero_le _) (Nat.zero_le _)
  by_cases hs3 : w = 3
  · subst hs3
    refine qr_tableIn (x := 3) (off := 49) (tgt := 55) (pc := 6) d_md_count_6 (by decide) (by decide) (by decide) (by decide) ?_
    refine qr_aload_n (pc := 55) d_md_count_55 rfl rfl ?_
    refine qr_get (v := .int (I 47 34)) (pc := 56) d_md_count_56 fl_md_233 (by decide) (by decide) (c_47 _ _) rfl ?_
    exact qr_iret (pc := 59) d_md_count_59 rfl rfl ⟨(by simp [m_count, *]), rfl, (by simp [wI_wI9, *])⟩ (Nat.zero_le _) (Nat.zero_le _)
  by_cases hs4 : w = 4
  · subst hs4
    refine qr_tableIn (x := 4) (off := 54) (tgt := 60) (pc := 6) d_md_count_6 (by decide) (by decide) (by decide) (by decide) ?_
    refine qr_aload_n (pc := 60) d_md_count_60 rfl rfl ?_
    refine qr_get (v := .int (I 47 4)) (pc := 61) d_md_count_61 fl_md_114 (by decide) (by decide) (c_47 _ _) rfl ?_
    exact qr_iret (pc := 64) d_md_count_64 rfl rfl ⟨(by simp [m_count, *]), rfl, (by simp [wI_wI9, *])⟩ (Nat.zero_le _) (Nat.zero_le _)
  have hout : w.toInt < 0 ∨ 4 < w.toInt := by
    rcases (show w.toInt < 0 ∨ 4 < w.toInt ∨ w.toInt = 0 ∨ w.toInt = 1 ∨ w.toInt = 2 ∨ w.toInt = 3 ∨ w.toInt = 4 by omega) with h9 | h9 | h9 | h9 | h9 | h9 | h9
    · exact Or.inl h9
    · exact Or.inr h9
    · exact absurd (Int32.toInt_inj.mp (h9.trans (by decide))) hs0
    · exact absurd (Int32.toInt_inj.mp (h9.trans (by decide))) hs1
    · exact absurd (Int32.toInt_inj.mp (h9.trans (by decide))) hs2
    · exact absurd (Int32.toInt_inj.mp (h9.trans (by decide))) hs3
    · exact absurd (Int32.toInt_inj.mp (h9.trans (by decide))) hs4
  refine qr_tableOut (tgt := 65) (pc := 6) d_md_count_6 hout (by decide) ?_
  refine qr_aload_n (pc := 65) d_md_count_65 rfl rfl ?_
  refine qr_iconst (v := 1) (pc := 66) d_md_count_66 (by decide) ?_
  refine qr_callV (q := 47) (As := [.int 1]) (pc := 67) d_md_count_67 lk_md_110 im_md_refuse se_md_refuse rfl (by decide) (by decide) (c_47 _ _) (s_md_refuse _ x (wI I 47 0 0) L 1) rfl rfl (Nat.le_of_ble_eq_true rfl) (Nat.le_of_ble_eq_true rfl) (Nat.le_of_ble_eq_true rfl) (Nat.zero_le _) (Nat.zero_le _) (fun h => ⟨h, rfl, Or.inl rfl⟩) (fun v n9 f9 hE67 => ?_)
  obtain ⟨rfl, rfl, rfl⟩ := hE67
  exact qr_iret (pc := 70) d_md_count_70 rfl rfl ⟨(by simp [m_count, *]), rfl, (by simp [wI_wI9, *])⟩ (Nat.zero_le _) (Nat.zero_le _)
set_option maxRecDepth 10000 in
theorem s_md_invoice (l : Launch) (x : Bool) (I : Nat → Nat → Int32) (L : Nat → Nat → Int64) (z : Nat) (hz : I 47 29 = nI z) (hz2 : z ≤ 50) (k w : Int32) : qSp l y_md_invoice b_md_invoice 3 (some .long) x 2 0 0 [.ref 47, .int k, .int w] 77 (fm I L) (qD (some (.long (if (0 ≤ Int32.toInt64 k ∧ Int32.toInt64 k ≤ Int32.toInt64 (nI z - 1)) then m_inv I L k.toNatClampNeg w else 0))) 77 (fm (wI I 47 0 (if (0 ≤ Int32.toInt64 k ∧ Int32.toInt64 k ≤ Int32.toInt64 (nI z - 1)) then (if w = 0 ∨ w = 1 ∨ w = 2 ∨ w = 3 ∨ w = 4 ∨ w = 5 then 0 else 2) else 1)) L)) := by
  refine qSp_of (ini := false) (by decide +kernel) (fun h => nomatch h) (Nat.le_of_ble_eq_true rfl) ?_
  show qR _ _ _ 0 [(0, .ref 47), (1, .int k), (2, .int w)] [] _ _ _ _
  refine qr_iload_n (pc := 0) d_md_invoice_0 rfl rfl ?_
  refine qr_i2l (pc := 1) d_md_invoice_1 ?_
  refine qr_lconst (v := 0) (pc := 2) d_md_invoice_2 (by decide) ?_
  refine qr_aload_n (pc := 3) d_md_invoice_3 rfl rfl ?_
  refine qr_get (v := .int (nI z)) (pc := 4) d_md_invoice_4 fl_md_213 (by decide) (by decide) (c_47 _ _) (congrArg (fun t => some (Value.int t)) hz) ?_
  refine qr_iconst (v := 1) (pc := 7) d_md_invoice_7 (by decide) ?_
  refine qr_isub (pc := 8) d_md_invoice_8 ?_
  refine qr_i2l (pc := 9) d_md_invoice_9 ?_
  refine qr_callS (As := [.long (Int32.toInt64 k), .long 0, .long (Int32.toInt64 ((nI z) - 1))]) (pc := 10) d_md_invoice_10 lk_md_106 sm_md_in (s_md_in _ x _ _ (Int32.toInt64 k) 0 (Int32.toInt64 ((nI z) - 1))) rfl rfl (Nat.le_of_ble_eq_true rfl) (Nat.le_of_ble_eq_true rfl) (Nat.le_of_ble_eq_true rfl) (Nat.zero_le _) (Nat.zero_le _) (fun h => ⟨h, rfl, Or.inl rfl⟩) (fun v n9 f9 hE10 => ?_)
  obtain ⟨rfl, rfl, rfl⟩ := hE10
  refine qr_if_ne (tgt := 23) (pc := 13) d_md_invoice_13 (by decide) (fun h13 => ?_) (fun h13 => ?_)
  · skip
    simp only [b01, Decidable.not_not] at h13
    obtain ⟨k9, hk9, rfl⟩ := in_nIz (by omega) h13
    have kcl : (nI k9).toNatClampNeg = k9 := nI_clamp (by omega)
    refine qr_aload_n (pc := 23) d_md_invoice_23 rfl rfl ?_
    refine qr_iconst (v := 0) (pc := 24) d_md_invoice_24 (by decide) ?_
    refine qr_putI (pc := 25) d_md_invoice_25 fl_md_99 (by decide) (by decide) (c_47 _ _) (Nat.le_of_ble_eq_true rfl) (qFit_i _) (fun w => rfl) ?_
    refine qr_iload_n (pc := 28) d_md_invoice_28 rfl rfl ?_
    by_cases hs0 : w = 0
    · subst hs0
      refine qr_tableIn (x := 0) (off := 39) (tgt := 68) (pc := 29) d_md_invoice_29 (by decide) (by decide) (by decide) (by decide) ?_
      refine qr_aload_n (pc := 68) d_md_invoice_68 rfl rfl ?_
      refine qr_get (v := .ref 67) (pc := 69) d_md_invoice_69 fl_md_72 (by decide) (by decide) (c_47 _ _) rfl ?_
      refine qr_iload_n (pc := 72) d_md_invoice_72 rfl rfl ?_
      refine qr_ialdN (j := k9) (pc := 73) d_md_invoice_73 (by decide) (by decide) (c_67 _ _) (by omega) (by decide) ?_
      refine qR_st (st' := [.int (I 67 k9)]) rfl rfl rfl ?_
      refine qr_i2l (pc := 74) d_md_invoice_74 ?_
      exact qr_lret (pc := 75) d_md_invoice_75 rfl ⟨(by simp [m_inv, m_over, wI_ne, i2l0, *]), rfl, (by simp [wI_wI9, *])⟩ (Nat.zero_le _) (Nat.zero_le _)
    by_cases hs1 : w = 1
    · subst hs1
      refine qr_tableIn (x := 1) (off := 47) (tgt := 76) (pc := 29) d_md_invoice_29 (by decide) (by decide) (by decide) (by decide) ?_
      refine qr_aload_n (pc := 76) d_md_invoice_76 rfl rfl ?_
      refine qr_get (v := .ref 68) (pc := 77) d_md_invoice_77 fl_md_75 (by decide) (by decide) (c_47 _ _) rfl ?_
      refine qr_iload_n (pc := 80) d_md_invoice_80 rfl rfl ?_
      refine qr_ialdN (j := k9) (pc := 81) d_md_invoice_81 (by decide) (by decide) (c_68 _ _) (by omega) (by decide) ?_
      refine qR_st (st' := [.int (I 68 k9)]) rfl rfl rfl ?_
      refine qr_i2l (pc := 82) d_md_invoice_82 ?_
      exact qr_lret (pc := 83) d_md_invoice_83 rfl ⟨(by simp [m_inv, m_over, wI_ne, i2l0, *]), rfl, (by simp [wI_wI9, *])⟩ (Nat.zero_le _) (Nat.zero_le _)
    by_cases hs2 : w = 2
    · subst hs2
      refine qr_tableIn (x := 2) (off := 55) (tgt := 84) (pc := 29) d_md_invoice_29 (by decide) (by decide) (by decide) (by decide) ?_
      refine qr_aload_n (pc := 84) d_md_invoice_84 rfl rfl ?_
      refine qr_get (v := .ref 70) (pc := 85) d_md_invoice_85 fl_md_81 (by decide) (by decide) (c_47 _ _) rfl ?_
      refine qr_iload_n (pc := 88) d_md_invoice_88 rfl rfl ?_
      refine qr_laldN (j := k9) (pc := 89) d_md_invoice_89 (by decide) (by decide) (c_70 _ _) (by omega) (by decide) ?_
      exact qr_lret (pc := 90) d_md_invoice_90 rfl ⟨(by simp [m_inv, m_over, wI_ne, i2l0, *]), rfl, (by simp [wI_wI9, *])⟩ (Nat.zero_le _) (Nat.zero_le _)
    by_cases hs3 : w = 3
    · subst hs3
      refine qr_tableIn (x := 3) (off := 62) (tgt := 91) (pc := 29) d_md_invoice_29 (by decide) (by decide) (by decide) (by decide) ?_
      refine qr_aload_n (pc := 91) d_md_invoice_91 rfl rfl ?_
      refine qr_get (v := .ref 69) (pc := 92) d_md_invoice_92 fl_md_78 (by decide) (by decide) (c_47 _ _) rfl ?_
      refine qr_iload_n (pc := 95) d_md_invoice_95 rfl rfl ?_
      refine qr_ialdN (j := k9) (pc := 96) d_md_invoice_96 (by decide) (by decide) (c_69 _ _) (by omega) (by decide) ?_
      refine qR_st (st' := [.int (I 69 k9)]) rfl rfl rfl ?_
      refine qr_i2l (pc := 97) d_md_invoice_97 ?_
      exact qr_lret (pc := 98) d_md_invoice_98 rfl ⟨(by simp [m_inv, m_over, wI_ne, i2l0, *]), rfl, (by simp [wI_wI9, *])⟩ (Nat.zero_le _) (Nat.zero_le _)
    by_cases hs4 : w = 4
    · subst hs4
      refine qr_tableIn (x := 4) (off := 70) (tgt := 99) (pc := 29) d_md_invoice_29 (by decide) (by decide) (by decide) (by decide) ?_
      refine qr_aload_n (pc := 99) d_md_invoice_99 rfl rfl ?_
      refine qr_get (v := .ref 71) (pc := 100) d_md_invoice_100 fl_md_84 (by decide) (by decide) (c_47 _ _) rfl ?_
      refine qr_iload_n (pc := 103) d_md_invoice_103 rfl rfl ?_
      refine qr_laldN (j := k9) (pc := 104) d_md_invoice_104 (by decide) (by decide) (c_71 _ _) (by omega) (by decide) ?_
      exact qr_lret (pc := 105) d_md_invoice_105 rfl ⟨(by simp [m_inv, m_over, wI_ne, i2l0, *]), rfl, (by simp [wI_wI9, *])⟩ (Nat.zero_le _) (Nat.zero_le _)
    by_cases hs5 : w = 5
    · subst hs5
      refine qr_tableIn (x := 5) (off := 77) (tgt := 106) (pc := 29) d_md_invoice_29 (by decide) (by decide) (by decide) (by decide) ?_
      refine qr_aload_n (pc := 106) d_md_invoice_106 rfl rfl ?_
      refine qr_iload_n (pc := 107) d_md_invoice_107 rfl rfl ?_
      refine qr_callV (q := 47) (As := [.int (nI k9)]) (pc := 108) d_md_invoice_108 lk_md_216 im_md_overdue se_md_overdue rfl (by decide) (by decide) (c_47 _ _) (s_md_overdue _ x (wI I 47 0 0) L k9 (by omega)) rfl rfl (Nat.le_of_ble_eq_true rfl) (Nat.le_of_ble_eq_true rfl) (Nat.le_of_ble_eq_true rfl) (Nat.zero_le _) (Nat.zero_le _) (fun h => ⟨h, rfl, Or.inl rfl⟩) (fun v n9 f9 hE108 => ?_)
      obtain ⟨rfl, rfl, rfl⟩ := hE108
      refine qr_i2l (pc := 111) d_md_invoice_111 ?_
      exact qr_lret (pc := 112) d_md_invoice_112 rfl ⟨(by simp [m_inv, m_over, wI_ne, i2l0, *]), rfl, (by simp [wI_wI9, *])⟩ (Nat.zero_le _) (Nat.zero_le _)
    have hout : w.toInt < 0 ∨ 5 < w.toInt := by
      rcases (show w.toInt < 0 ∨ 5 < w.toInt ∨ w.toInt = 0 ∨ w.toInt = 1 ∨ w.toInt = 2 ∨ w.toInt = 3 ∨ w.toInt = 4 ∨ w.toInt = 5 by omega) with h9 | h9 | h9 | h9 | h9 | h9 | h9 | h9
      · exact Or.inl h9
      · exact Or.inr h9
      · exact absurd (Int32.toInt_inj.mp (h9.trans (by decide))) hs0
      · exact absurd (Int32.toInt_inj.mp (h9.trans (by decide))) hs1
      · exact absurd (Int32.toInt_inj.mp (h9.trans (by decide))) hs2
      · exact absurd (Int32.toInt_inj.mp (h9.trans (by decide))) hs3
      · exact absurd (Int32.toInt_inj.mp (h9.trans (by decide))) hs4
      · exact absurd (Int32.toInt_inj.mp (h9.trans (by decide))) hs5
    refine qr_tableOut (tgt := 113) (pc := 29) d_md_invoice_29 hout (by decide) ?_
    refine qr_aload_n (pc := 113) d_md_invoice_113 rfl rfl ?_
    refine qr_iconst (v := 2) (pc := 114) d_md_invoice_114 (by decide) ?_
    refine qr_callV (q := 47) (As := [.int 2]) (pc := 115) d_md_invoice_115 lk_md_110 im_md_refuse se_md_refuse rfl (by decide) (by decide) (c_47 _ _) (s_md_refuse _ x (wI I 47 0 0) L 2) rfl rfl (Nat.le_of_ble_eq_true rfl) (Nat.le_of_ble_eq_true rfl) (Nat.le_of_ble_eq_true rfl) (Nat.zero_le _) (Nat.zero_le _) (fun h => ⟨h, rfl, Or.inl rfl⟩) (fun v n9 f9 hE115 => ?_)
    obtain ⟨rfl, rfl, rfl⟩ := hE115
    refine qr_i2l (pc := 118) d_md_invoice_118 ?_
    exact qr_lret (pc := 119) d_md_invoice_119 rfl ⟨(by simp [m_inv, m_over, wI_ne, i2l0, *]), rfl, (by simp [wI_wI9, *])⟩ (Nat.zero_le _) (Nat.zero_le _)
  · skip
    simp only [b01, Decidable.not_not] at h13
    refine qr_aload_n (pc := 16) d_md_invoice_16 rfl rfl ?_
    refine qr_iconst (v := 1) (pc := 17) d_md_invoice_17 (by decide) ?_
    refine qr_callV (q := 47) (As := [.int 1]) (pc := 18) d_md_invoice_18 lk_md_110 im_md_refuse se_md_refuse rfl (by decide) (by decide) (c_47 _ _) (s_md_refuse _ x I L 1) rfl rfl (Nat.le_of_ble_eq_true rfl) (Nat.le_of_ble_eq_true rfl) (Nat.le_of_ble_eq_true rfl) (Nat.zero_le _) (Nat.zero_le _) (fun h => ⟨h, rfl, Or.inl rfl⟩) (fun v n9 f9 hE18 => ?_)
    obtain ⟨rfl, rfl, rfl⟩ := hE18
    refine qr_i2l (pc := 21) d_md_invoice_21 ?_
    exact qr_lret (pc := 22) d_md_invoice_22 rfl ⟨(by rw [if_neg h13, i2l0]), rfl, (by rw [if_neg h13])⟩ (Nat.zero_le _) (Nat.zero_le _)
