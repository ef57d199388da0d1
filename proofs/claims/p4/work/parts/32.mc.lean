theorem i2l0 : Int32.toInt64 0 = 0 := by decide
/-- how many tiers the tariff t has -/
def tz (I : Nat → Nat → Int32) (t : Nat) : Nat := (I 54 t).toNatClampNeg
def mT (I : Nat → Nat → Int32) : Prop := ∀ t, t < 4 → I 54 t = nI (tz I t) ∧ tz I t ≤ 4
def m_use (I : Nat → Nat → Int32) (t : Nat) (u : Int64) : Int64 := m_priced I t (tz I t) u (Int32.toInt64 (I 50 t)) (Int32.toInt64 (I 51 t))
set_option maxRecDepth 10000 in
theorem s_md_use (l : Launch) (x : Bool) (I : Nat → Nat → Int32) (L : Nat → Nat → Int64) (hT : mT I) (t u : Int32) : qSp l y_md_use b_md_use 3 (some .long) x 3 0 0 [.ref 47, .int t, .int u] 77 (fm I L) (qD (some (.long (if (0 ≤ Int32.toInt64 t ∧ Int32.toInt64 t ≤ 2) ∧ (0 ≤ Int32.toInt64 u ∧ Int32.toInt64 u ≤ 1000000) then m_use I t.toNatClampNeg (Int32.toInt64 u) else 0))) 77 (fm (wI I 47 0 (if (0 ≤ Int32.toInt64 t ∧ Int32.toInt64 t ≤ 2) ∧ (0 ≤ Int32.toInt64 u ∧ Int32.toInt64 u ≤ 1000000) then 0 else 1)) L)) := by
  refine qSp_of (ini := false) (by decide +kernel) (fun h => nomatch h) (Nat.le_of_ble_eq_true rfl) ?_
  show qR _ _ _ 0 [(0, .ref 47), (1, .int t), (2, .int u)] [] _ _ _ _
  refine qr_iload_n (pc := 0) d_md_use_0 rfl rfl ?_
  refine qr_i2l (pc := 1) d_md_use_1 ?_
  refine qr_lconst (v := 0) (pc := 2) d_md_use_2 (by decide) ?_
  refine qr_ldc2 (v := 2) (pc := 3) d_md_use_3 kl_md_167 ?_
  refine qr_callS (As := [.long (Int32.toInt64 t), .long 0, .long 2]) (pc := 6) d_md_use_6 lk_md_106 sm_md_in (s_md_in _ x _ _ (Int32.toInt64 t) 0 2) rfl rfl (Nat.le_of_ble_eq_true rfl) (Nat.le_of_ble_eq_true rfl) (Nat.le_of_ble_eq_true rfl) (Nat.zero_le _) (Nat.zero_le _) (fun h => ⟨h, rfl, Or.inl rfl⟩) (fun v n9 f9 hE6 => ?_)
  obtain ⟨rfl, rfl, rfl⟩ := hE6
  refine qr_if_eq (tgt := 24) (pc := 9) d_md_use_9 (by decide) (fun h9 => ?_) (fun h9 => ?_)
  · skip
    simp only [b01, Decidable.not_not] at h9
    refine qr_aload_n (pc := 24) d_md_use_24 rfl rfl ?_
    refine qr_iconst (v := 1) (pc := 25) d_md_use_25 (by decide) ?_
    refine qr_callV (q := 47) (As := [.int 1]) (pc := 26) d_md_use_26 lk_md_110 im_md_refuse se_md_refuse rfl (by decide) (by decide) (c_47 _ _) (s_md_refuse _ x I L 1) rfl rfl (Nat.le_of_ble_eq_true rfl) (Nat.le_of_ble_eq_true rfl) (Nat.le_of_ble_eq_true rfl) (Nat.zero_le _) (Nat.zero_le _) (fun h => ⟨h, rfl, Or.inl rfl⟩) (fun v n9 f9 hE26 => ?_)
    obtain ⟨rfl, rfl, rfl⟩ := hE26
    refine qr_i2l (pc := 29) d_md_use_29 ?_
    exact qr_lret (pc := 30) d_md_use_30 rfl ⟨(by simp [m_use, m_priced, m_sum, wI, va_up, i2l0, *]), rfl, (by simp [*])⟩ (Nat.zero_le _) (Nat.zero_le _)
  · skip
    simp only [b01, Decidable.not_not] at h9
    refine qr_iload_n (pc := 12) d_md_use_12 rfl rfl ?_
    refine qr_i2l (pc := 13) d_md_use_13 ?_
    refine qr_lconst (v := 0) (pc := 14) d_md_use_14 (by decide) ?_
    refine qr_ldc2 (v := 1000000) (pc := 15) d_md_use_15 kl_md_172 ?_
    refine qr_callS (As := [.long (Int32.toInt64 u), .long 0, .long 1000000]) (pc := 18) d_md_use_18 lk_md_106 sm_md_in (s_md_in _ x _ _ (Int32.toInt64 u) 0 1000000) rfl rfl (Nat.le_of_ble_eq_true rfl) (Nat.le_of_ble_eq_true rfl) (Nat.le_of_ble_eq_true rfl) (Nat.zero_le _) (Nat.zero_le _) (fun h => ⟨h, rfl, Or.inl rfl⟩) (fun v n9 f9 hE18 => ?_)
    obtain ⟨rfl, rfl, rfl⟩ := hE18
    refine qr_if_ne (tgt := 31) (pc := 21) d_md_use_21 (by decide) (fun h21 => ?_) (fun h21 => ?_)
    · skip
      simp only [b01, Decidable.not_not] at h21
      obtain ⟨t9, ht9, rfl⟩ := in_nI (n := 2) (by decide) h9
      have tcl : (nI t9).toNatClampNeg = t9 := nI_clamp (by omega)
      refine qr_aload_n (pc := 31) d_md_use_31 rfl rfl ?_
      refine qr_iconst (v := 0) (pc := 32) d_md_use_32 (by decide) ?_
      refine qr_putI (pc := 33) d_md_use_33 fl_md_99 (by decide) (by decide) (c_47 _ _) (Nat.le_of_ble_eq_true rfl) (qFit_i _) (fun w => rfl) ?_
      refine qr_aload_n (pc := 36) d_md_use_36 rfl rfl ?_
      refine qr_iload_n (pc := 37) d_md_use_37 rfl rfl ?_
      refine qr_iload_n (pc := 38) d_md_use_38 rfl rfl ?_
      refine qr_i2l (pc := 39) d_md_use_39 ?_
      refine qr_aload_n (pc := 40) d_md_use_40 rfl rfl ?_
      refine qr_get (v := .ref 50) (pc := 41) d_md_use_41 fl_md_20 (by decide) (by decide) (c_47 _ _) rfl ?_
      refine qr_iload_n (pc := 44) d_md_use_44 rfl rfl ?_
      refine qr_ialdN (j := t9) (pc := 45) d_md_use_45 (by decide) (by decide) (c_50 _ _) (by omega) (by decide) ?_
      refine qR_st (st' := [.int (I 50 t9), .long (Int32.toInt64 u), .int (nI t9), .ref 47]) rfl rfl rfl ?_
      refine qr_i2l (pc := 46) d_md_use_46 ?_
      refine qr_aload_n (pc := 47) d_md_use_47 rfl rfl ?_
      refine qr_get (v := .ref 51) (pc := 48) d_md_use_48 fl_md_23 (by decide) (by decide) (c_47 _ _) rfl ?_
      refine qr_iload_n (pc := 51) d_md_use_51 rfl rfl ?_
      refine qr_ialdN (j := t9) (pc := 52) d_md_use_52 (by decide) (by decide) (c_51 _ _) (by omega) (by decide) ?_
      refine qR_st (st' := [.int (I 51 t9), .long (Int32.toInt64 (I 50 t9)), .long (Int32.toInt64 u), .int (nI t9), .ref 47]) rfl rfl rfl ?_
      refine qr_i2l (pc := 53) d_md_use_53 ?_
      refine qr_callV (q := 47) (As := [.int (nI t9), .long (Int32.toInt64 u), .long (Int32.toInt64 (I 50 t9)), .long (Int32.toInt64 (I 51 t9))]) (pc := 54) d_md_use_54 lk_md_174 im_md_priced se_md_priced rfl (by decide) (by decide) (c_47 _ _) (s_md_priced _ x (wI I 47 0 0) L t9 (tz I t9) (by omega) (hT t9 (by omega)).1 (hT t9 (by omega)).2 (Int32.toInt64 u) (Int32.toInt64 (I 50 t9)) (Int32.toInt64 (I 51 t9))) rfl rfl (Nat.le_of_ble_eq_true rfl) (Nat.le_of_ble_eq_true rfl) (Nat.le_of_ble_eq_true rfl) (Nat.zero_le _) (Nat.zero_le _) (fun h => ⟨h, rfl, Or.inl rfl⟩) (fun v n9 f9 hE54 => ?_)
      obtain ⟨rfl, rfl, rfl⟩ := hE54
      exact qr_lret (pc := 57) d_md_use_57 rfl ⟨(by simp [m_use, m_priced, m_sum, wI, va_up, i2l0, *]), rfl, (by simp [*])⟩ (Nat.zero_le _) (Nat.zero_le _)
    · skip
      simp only [b01, Decidable.not_not] at h21
      refine qr_aload_n (pc := 24) d_md_use_24 rfl rfl ?_
      refine qr_iconst (v := 1) (pc := 25) d_md_use_25 (by decide) ?_
      refine qr_callV (q := 47) (As := [.int 1]) (pc := 26) d_md_use_26 lk_md_110 im_md_refuse se_md_refuse rfl (by decide) (by decide) (c_47 _ _) (s_md_refuse _ x I L 1) rfl rfl (Nat.le_of_ble_eq_true rfl) (Nat.le_of_ble_eq_true rfl) (Nat.le_of_ble_eq_true rfl) (Nat.zero_le _) (Nat.zero_le _) (fun h => ⟨h, rfl, Or.inl rfl⟩) (fun v n9 f9 hE26 => ?_)
      obtain ⟨rfl, rfl, rfl⟩ := hE26
      refine qr_i2l (pc := 29) d_md_use_29 ?_
      exact qr_lret (pc := 30) d_md_use_30 rfl ⟨(by simp [m_use, m_priced, m_sum, wI, va_up, i2l0, *]), rfl, (by simp [*])⟩ (Nat.zero_le _) (Nat.zero_le _)
set_option maxRecDepth 10000 in
theorem s_md_subscribe (l : Launch) (x : Bool) (I : Nat → Nat → Int32) (L : Nat → Nat → Int64) (c t : Int32) : qSp l y_md_subscribe b_md_subscribe 4 (some .int) x 2 0 0 [.ref 47, .int c, .int t] 77 (fm I L) (qD (some (.int (if (0 ≤ Int32.toInt64 c ∧ Int32.toInt64 c ≤ 4) ∧ ((-1) ≤ Int32.toInt64 t ∧ Int32.toInt64 t ≤ 2) then I 58 c.toNatClampNeg else 0))) 77 (fm (if (0 ≤ Int32.toInt64 c ∧ Int32.toInt64 c ≤ 4) ∧ ((-1) ≤ Int32.toInt64 t ∧ Int32.toInt64 t ≤ 2) then wI (wI (wI I 47 0 0) 58 c.toNatClampNeg t) 59 c.toNatClampNeg (if I 60 c.toNatClampNeg = 3 then 1 else 0) else wI I 47 0 1) L)) := by
  refine qSp_of (ini := false) (by decide +kernel) (fun h => nomatch h) (Nat.le_of_ble_eq_true rfl) ?_
  show qR _ _ _ 0 [(0, .ref 47), (1, .int c), (2, .int t)] [] _ _ _ _
  refine qr_iload_n (pc := 0) d_md_subscribe_0 rfl rfl ?_
  refine qr_i2l (pc := 1) d_md_subscribe_1 ?_
  refine qr_lconst (v := 0) (pc := 2) d_md_subscribe_2 (by decide) ?_
  refine qr_ldc2 (v := 4) (pc := 3) d_md_subscribe_3 kl_md_201 ?_
  refine qr_callS (As := [.long (Int32.toInt64 c), .long 0, .long 4]) (pc := 6) d_md_subscribe_6 lk_md_106 sm_md_in (s_md_in _ x _ _ (Int32.toInt64 c) 0 4) rfl rfl (Nat.le_of_ble_eq_true rfl) (Nat.le_of_ble_eq_true rfl) (Nat.le_of_ble_eq_true rfl) (Nat.zero_le _) (Nat.zero_le _) (fun h => ⟨h, rfl, Or.inl rfl⟩) (fun v n9 f9 hE6 => ?_)
  obtain ⟨rfl, rfl, rfl⟩ := hE6
  refine qr_if_eq (tgt := 26) (pc := 9) d_md_subscribe_9 (by decide) (fun h9 => ?_) (fun h9 => ?_)
  · skip
    simp only [b01, Decidable.not_not] at h9
    refine qr_aload_n (pc := 26) d_md_subscribe_26 rfl rfl ?_
    refine qr_iconst (v := 1) (pc := 27) d_md_subscribe_27 (by decide) ?_
    refine qr_callV (q := 47) (As := [.int 1]) (pc := 28) d_md_subscribe_28 lk_md_110 im_md_refuse se_md_refuse rfl (by decide) (by decide) (c_47 _ _) (s_md_refuse _ x I L 1) rfl rfl (Nat.le_of_ble_eq_true rfl) (Nat.le_of_ble_eq_true rfl) (Nat.le_of_ble_eq_true rfl) (Nat.zero_le _) (Nat.zero_le _) (fun h => ⟨h, rfl, Or.inl rfl⟩) (fun v n9 f9 hE28 => ?_)
    obtain ⟨rfl, rfl, rfl⟩ := hE28
    exact qr_iret (pc := 31) d_md_subscribe_31 rfl rfl ⟨(by simp [*]), rfl, (by simp [*])⟩ (Nat.zero_le _) (Nat.zero_le _)
  · skip
    simp only [b01, Decidable.not_not] at h9
    refine qr_iload_n (pc := 12) d_md_subscribe_12 rfl rfl ?_
    refine qr_i2l (pc := 13) d_md_subscribe_13 ?_
    refine qr_ldc2 (v := (-1)) (pc := 14) d_md_subscribe_14 kl_md_209 ?_
    refine qr_ldc2 (v := 2) (pc := 17) d_md_subscribe_17 kl_md_167 ?_
    refine qr_callS (As := [.long (Int32.toInt64 t), .long (-1), .long 2]) (pc := 20) d_md_subscribe_20 lk_md_106 sm_md_in (s_md_in _ x _ _ (Int32.toInt64 t) (-1) 2) rfl rfl (Nat.le_of_ble_eq_true rfl) (Nat.le_of_ble_eq_true rfl) (Nat.le_of_ble_eq_true rfl) (Nat.zero_le _) (Nat.zero_le _) (fun h => ⟨h, rfl, Or.inl rfl⟩) (fun v n9 f9 hE20 => ?_)
    obtain ⟨rfl, rfl, rfl⟩ := hE20
    refine qr_if_ne (tgt := 32) (pc := 23) d_md_subscribe_23 (by decide) (fun h23 => ?_) (fun h23 => ?_)
    · skip
      simp only [b01, Decidable.not_not] at h23
      obtain ⟨c9, hc9, rfl⟩ := in_nI (n := 4) (by decide) h9
      have ccl : (nI c9).toNatClampNeg = c9 := nI_clamp (by omega)
      refine qr_aload_n (pc := 32) d_md_subscribe_32 rfl rfl ?_
      refine qr_iconst (v := 0) (pc := 33) d_md_subscribe_33 (by decide) ?_
      refine qr_putI (pc := 34) d_md_subscribe_34 fl_md_99 (by decide) (by decide) (c_47 _ _) (Nat.le_of_ble_eq_true rfl) (qFit_i _) (fun w => rfl) ?_
      refine qr_aload_n (pc := 37) d_md_subscribe_37 rfl rfl ?_
      refine qr_get (v := .ref 58) (pc := 38) d_md_subscribe_38 fl_md_44 (by decide) (by decide) (c_47 _ _) rfl ?_
      refine qr_iload_n (pc := 41) d_md_subscribe_41 rfl rfl ?_
      refine qr_ialdN (j := c9) (pc := 42) d_md_subscribe_42 (by decide) (by decide) (c_58 _ _) (by omega) (by decide) ?_
      refine qR_st (st' := [.int (I 58 c9)]) rfl rfl rfl ?_
      refine qr_istore_n (lv' := [(3, .int (I 58 c9)), (0, .ref 47), (1, .int (nI c9)), (2, .int t)]) (pc := 43) d_md_subscribe_43 rfl (Nat.le_of_ble_eq_true rfl) rfl ?_
      refine qr_aload_n (pc := 44) d_md_subscribe_44 rfl rfl ?_
      refine qr_get (v := .ref 58) (pc := 45) d_md_subscribe_45 fl_md_44 (by decide) (by decide) (c_47 _ _) rfl ?_
      refine qr_iload_n (pc := 48) d_md_subscribe_48 rfl rfl ?_
      refine qr_iload_n (pc := 49) d_md_subscribe_49 rfl rfl ?_
      refine qr_iastMN (j := c9) (pc := 50) d_md_subscribe_50 (by decide) (by decide) (c_58 _ _) (by omega) (by decide) (fun w => rfl) ?_
      refine qr_aload_n (pc := 51) d_md_subscribe_51 rfl rfl ?_
      refine qr_get (v := .ref 59) (pc := 52) d_md_subscribe_52 fl_md_47 (by decide) (by decide) (c_47 _ _) rfl ?_
      refine qr_iload_n (pc := 55) d_md_subscribe_55 rfl rfl ?_
      refine qr_aload_n (pc := 56) d_md_subscribe_56 rfl rfl ?_
      refine qr_get (v := .ref 60) (pc := 57) d_md_subscribe_57 fl_md_50 (by decide) (by decide) (c_47 _ _) rfl ?_
      refine qr_iload_n (pc := 60) d_md_subscribe_60 rfl rfl ?_
      refine qr_ialdN (j := c9) (pc := 61) d_md_subscribe_61 (by decide) (by decide) (c_60 _ _) (by omega) (by decide) ?_
      refine qR_st (st' := [.int (I 60 c9), .int (nI c9), .ref 59]) rfl rfl rfl ?_
      refine qr_iconst (v := 3) (pc := 62) d_md_subscribe_62 (by decide) ?_
      refine qr_icmp_ne (tgt := 70) (pc := 63) d_md_subscribe_63 (by decide) (fun h63 => ?_) (fun h63 => ?_)
      · skip
        refine qr_iconst (v := 0) (pc := 70) d_md_subscribe_70 (by decide) ?_
        refine qr_iastMN (j := c9) (pc := 71) d_md_subscribe_71 (by decide) (by decide) (c_59 _ _) (by omega) (by decide) (fun w => rfl) ?_
        refine qr_iload_n (pc := 72) d_md_subscribe_72 rfl rfl ?_
        exact qr_iret (pc := 73) d_md_subscribe_73 rfl rfl ⟨(by simp [*]), rfl, (by simp [*])⟩ (Nat.zero_le _) (Nat.zero_le _)
      · skip
        refine qr_iconst (v := 1) (pc := 66) d_md_subscribe_66 (by decide) ?_
        refine qr_goto (tgt := 71) (pc := 67) d_md_subscribe_67 (by decide) ?_
        refine qr_iastMN (j := c9) (pc := 71) d_md_subscribe_71 (by decide) (by decide) (c_59 _ _) (by omega) (by decide) (fun w => rfl) ?_
        refine qr_iload_n (pc := 72) d_md_subscribe_72 rfl rfl ?_
        exact qr_iret (pc := 73) d_md_subscribe_73 rfl rfl ⟨(by simp [*]), rfl, (by simp [*])⟩ (Nat.zero_le _) (Nat.zero_le _)
    · skip
      simp only [b01, Decidable.not_not] at h23
      refine qr_aload_n (pc := 26) d_md_subscribe_26 rfl rfl ?_
      refine qr_iconst (v := 1) (pc := 27) d_md_subscribe_27 (by decide) ?_
      refine qr_callV (q := 47) (As := [.int 1]) (pc := 28) d_md_subscribe_28 lk_md_110 im_md_refuse se_md_refuse rfl (by decide) (by decide) (c_47 _ _) (s_md_refuse _ x I L 1) rfl rfl (Nat.le_of_ble_eq_true rfl) (Nat.le_of_ble_eq_true rfl) (Nat.le_of_ble_eq_true rfl) (Nat.zero_le _) (Nat.zero_le _) (fun h => ⟨h, rfl, Or.inl rfl⟩) (fun v n9 f9 hE28 => ?_)
      obtain ⟨rfl, rfl, rfl⟩ := hE28
      exact qr_iret (pc := 31) d_md_subscribe_31 rfl rfl ⟨(by simp [*]), rfl, (by simp [*])⟩ (Nat.zero_le _) (Nat.zero_le _)
set_option maxRecDepth 10000 in
theorem s_md_event (l : Launch) (x : Bool) (I : Nat → Nat → Int32) (L : Nat → Nat → Int64) (z T : Nat) (hz : I 47 23 = nI z) (hz2 : z ≤ 80) (hT : I 47 2 = nI T) (key c day u : Int32) : qSp l y_md_event b_md_event 6 (some .int) x 2 0 0 [.ref 47, .int key, .int c, .int day, .int u] 77 (fm I L) (qD (some (.int (if ((0 ≤ Int32.toInt64 c ∧ Int32.toInt64 c ≤ 4) ∧ (1 ≤ Int32.toInt64 u ∧ Int32.toInt64 u ≤ 10000)) then (if (¬ nI T < day ∧ ¬ day < nI T - 45 ∧ 0 ≤ day) then (if u_any (I 63) key z = true then 0 else if z = 80 then 0 else nI (z + 1)) else 0) else 0))) 77 (fm (if ((0 ≤ Int32.toInt64 c ∧ Int32.toInt64 c ≤ 4) ∧ (1 ≤ Int32.toInt64 u ∧ Int32.toInt64 u ≤ 10000)) then (if (¬ nI T < day ∧ ¬ day < nI T - 45 ∧ 0 ≤ day) then (if u_any (I 63) key z = true then wI I 47 0 0 else if z = 80 then wI (wI I 47 0 0) 47 0 3 else wI (wI (wI (wI (wI (wI I 47 0 0) 63 z key) 64 z c) 65 z day) 66 z u) 47 23 (nI (z + 1))) else wI I 47 0 2) else wI I 47 0 1) L)) := by
  refine qSp_of (ini := false) (by decide +kernel) (fun h => nomatch h) (Nat.le_of_ble_eq_true rfl) ?_
  show qR _ _ _ 0 [(0, .ref 47), (1, .int key), (2, .int c), (3, .int day), (4, .int u)] [] _ _ _ _
  refine qr_iload_n (pc := 0) d_md_event_0 rfl rfl ?_
  refine qr_i2l (pc := 1) d_md_event_1 ?_
  refine qr_lconst (v := 0) (pc := 2) d_md_event_2 (by decide) ?_
  refine qr_ldc2 (v := 4) (pc := 3) d_md_event_3 kl_md_201 ?_
  refine qr_callS (As := [.long (Int32.toInt64 c), .long 0, .long 4]) (pc := 6) d_md_event_6 lk_md_106 sm_md_in (s_md_in _ x _ _ (Int32.toInt64 c) 0 4) rfl rfl (Nat.le_of_ble_eq_true rfl) (Nat.le_of_ble_eq_true rfl) (Nat.le_of_ble_eq_true rfl) (Nat.zero_le _) (Nat.zero_le _) (fun h => ⟨h, rfl, Or.inl rfl⟩) (fun v n9 f9 hE6 => ?_)
  obtain ⟨rfl, rfl, rfl⟩ := hE6
  refine qr_if_eq (tgt := 25) (pc := 9) d_md_event_9 (by decide) (fun h9 => ?_) (fun h9 => ?_)
  · skip
    simp only [b01, Decidable.not_not] at h9
    refine qr_aload_n (pc := 25) d_md_event_25 rfl rfl ?_
    refine qr_iconst (v := 1) (pc := 26) d_md_event_26 (by decide) ?_
    refine qr_callV (q := 47) (As := [.int 1]) (pc := 27) d_md_event_27 lk_md_110 im_md_refuse se_md_refuse rfl (by decide) (by decide) (c_47 _ _) (s_md_refuse _ x I L 1) rfl rfl (Nat.le_of_ble_eq_true rfl) (Nat.le_of_ble_eq_true rfl) (Nat.le_of_ble_eq_true rfl) (Nat.zero_le _) (Nat.zero_le _) (fun h => ⟨h, rfl, Or.inl rfl⟩) (fun v n9 f9 hE27 => ?_)
    obtain ⟨rfl, rfl, rfl⟩ := hE27
    exact qr_iret (pc := 30) d_md_event_30 rfl rfl ⟨(by simp [nI_1, *]), rfl, (by simp [nI_1, *])⟩ (Nat.zero_le _) (Nat.zero_le _)
  · skip
    simp only [b01, Decidable.not_not] at h9
    refine qr_iload (pc := 12) d_md_event_12 rfl ?_
    refine qr_i2l (pc := 14) d_md_event_14 ?_
    refine qr_lconst (v := 1) (pc := 15) d_md_event_15 (by decide) ?_
    refine qr_ldc2 (v := 10000) (pc := 16) d_md_event_16 kl_md_211 ?_
    refine qr_callS (As := [.long (Int32.toInt64 u), .long 1, .long 10000]) (pc := 19) d_md_event_19 lk_md_106 sm_md_in (s_md_in _ x _ _ (Int32.toInt64 u) 1 10000) rfl rfl (Nat.le_of_ble_eq_true rfl) (Nat.le_of_ble_eq_true rfl) (Nat.le_of_ble_eq_true rfl) (Nat.zero_le _) (Nat.zero_le _) (fun h => ⟨h, rfl, Or.inl rfl⟩) (fun v n9 f9 hE19 => ?_)
    obtain ⟨rfl, rfl, rfl⟩ := hE19
    refine qr_if_ne (tgt := 31) (pc := 22) d_md_event_22 (by decide) (fun h22 => ?_) (fun h22 => ?_)
    · skip
      simp only [b01, Decidable.not_not] at h22
      refine qr_iload_n (pc := 31) d_md_event_31 rfl rfl ?_
      refine qr_aload_n (pc := 32) d_md_event_32 rfl rfl ?_
      refine qr_get (v := .int (nI T)) (pc := 33) d_md_event_33 fl_md_188 (by decide) (by decide) (c_47 _ _) (congrArg (fun t => some (Value.int t)) hT) ?_
      refine qr_icmp_gt (tgt := 54) (pc := 36) d_md_event_36 (by decide) (fun h36 => ?_) (fun h36 => ?_)
      · skip
        refine qr_aload_n (pc := 54) d_md_event_54 rfl rfl ?_
        refine qr_iconst (v := 2) (pc := 55) d_md_event_55 (by decide) ?_
        refine qr_callV (q := 47) (As := [.int 2]) (pc := 56) d_md_event_56 lk_md_110 im_md_refuse se_md_refuse rfl (by decide) (by decide) (c_47 _ _) (s_md_refuse _ x I L 2) rfl rfl (Nat.le_of_ble_eq_true rfl) (Nat.le_of_ble_eq_true rfl) (Nat.le_of_ble_eq_true rfl) (Nat.zero_le _) (Nat.zero_le _) (fun h => ⟨h, rfl, Or.inl rfl⟩) (fun v n9 f9 hE56 => ?_)
        obtain ⟨rfl, rfl, rfl⟩ := hE56
        exact qr_iret (pc := 59) d_md_event_59 rfl rfl ⟨(by simp [nI_1, *]), rfl, (by simp [nI_1, *])⟩ (Nat.zero_le _) (Nat.zero_le _)
      · skip
        refine qr_iload_n (pc := 39) d_md_event_39 rfl rfl ?_
        refine qr_aload_n (pc := 40) d_md_event_40 rfl rfl ?_
        refine qr_get (v := .int (nI T)) (pc := 41) d_md_event_41 fl_md_188 (by decide) (by decide) (c_47 _ _) (congrArg (fun t => some (Value.int t)) hT) ?_
        refine qr_bipush (v := 45) (pc := 44) d_md_event_44 (by decide) ?_
        refine qr_isub (pc := 46) d_md_event_46 ?_
        refine qr_icmp_lt (tgt := 54) (pc := 47) d_md_event_47 (by decide) (fun h47 => ?_) (fun h47 => ?_)
        · skip
          refine qr_aload_n (pc := 54) d_md_event_54 rfl rfl ?_
          refine qr_iconst (v := 2) (pc := 55) d_md_event_55 (by decide) ?_
          refine qr_callV (q := 47) (As := [.int 2]) (pc := 56) d_md_event_56 lk_md_110 im_md_refuse se_md_refuse rfl (by decide) (by decide) (c_47 _ _) (s_md_refuse _ x I L 2) rfl rfl (Nat.le_of_ble_eq_true rfl) (Nat.le_of_ble_eq_true rfl) (Nat.le_of_ble_eq_true rfl) (Nat.zero_le _) (Nat.zero_le _) (fun h => ⟨h, rfl, Or.inl rfl⟩) (fun v n9 f9 hE56 => ?_)
          obtain ⟨rfl, rfl, rfl⟩ := hE56
          exact qr_iret (pc := 59) d_md_event_59 rfl rfl ⟨(by simp [nI_1, *]), rfl, (by simp [nI_1, *])⟩ (Nat.zero_le _) (Nat.zero_le _)
        · skip
          refine qr_iload_n (pc := 50) d_md_event_50 rfl rfl ?_
          refine qr_if_ge (tgt := 60) (pc := 51) d_md_event_51 (by decide) (fun h51 => ?_) (fun h51 => ?_)
          · skip
            have hd51 := h51
            refine qr_aload_n (pc := 60) d_md_event_60 rfl rfl ?_
            refine qr_iconst (v := 0) (pc := 61) d_md_event_61 (by decide) ?_
            refine qr_putI (pc := 62) d_md_event_62 fl_md_99 (by decide) (by decide) (c_47 _ _) (Nat.le_of_ble_eq_true rfl) (qFit_i _) (fun w => rfl) ?_
            refine qr_iconst (v := 0) (pc := 65) d_md_event_65 (by decide) ?_
            refine qr_istore (lv' := [(5, .int 0), (0, .ref 47), (1, .int key), (2, .int c), (3, .int day), (4, .int u)]) (pc := 66) d_md_event_66 (Nat.le_of_ble_eq_true rfl) rfl ?_
            have loop68 : ∀ (j k : Nat), z - k < j → k ≤ z → u_any (I 63) key k = false → qR (l, y_md_event.cls, b_md_event, 6, (some .int), false, x, 2, 0, 0, 77, q0) (qD (some (.int (if ((0 ≤ Int32.toInt64 c ∧ Int32.toInt64 c ≤ 4) ∧ (1 ≤ Int32.toInt64 u ∧ Int32.toInt64 u ≤ 10000)) then (if (¬ nI T < day ∧ ¬ day < nI T - 45 ∧ 0 ≤ day) then (if u_any (I 63) key z = true then 0 else if z = 80 then 0 else nI (z + 1)) else 0) else 0))) 77 (fm (if ((0 ≤ Int32.toInt64 c ∧ Int32.toInt64 c ≤ 4) ∧ (1 ≤ Int32.toInt64 u ∧ Int32.toInt64 u ≤ 10000)) then (if (¬ nI T < day ∧ ¬ day < nI T - 45 ∧ 0 ≤ day) then (if u_any (I 63) key z = true then wI I 47 0 0 else if z = 80 then wI (wI I 47 0 0) 47 0 3 else wI (wI (wI (wI (wI (wI I 47 0 0) 63 z key) 64 z c) 65 z day) 66 z u) 47 23 (nI (z + 1))) else wI I 47 0 2) else wI I 47 0 1) L)) (fun _ _ _ => False) 68 [(5, .int (nI k)), (0, .ref 47), (1, .int key), (2, .int c), (3, .int day), (4, .int u)] [] 77 0 0 (fm (wI I 47 0 0) L) := by
              intro j
              induction j with
              | zero => intro k hj; omega
              | succ j ih =>
              intro k hjj hk hu
              refine qr_iload (pc := 68) d_md_event_68 rfl ?_
              refine qr_aload_n (pc := 70) d_md_event_70 rfl rfl ?_
              refine qr_get (v := .int (nI z)) (pc := 71) d_md_event_71 fl_md_198 (by decide) (by decide) (c_47 _ _) (congrArg (fun t => some (Value.int t)) hz) ?_
              refine qr_icmp_ge (tgt := 96) (pc := 74) d_md_event_74 (by decide) (fun h74 => ?_) (fun h74 => ?_)
              · skip
                have hkz : z = k := by
                  have := (nI_leI (a := z) (b := k) (by omega) (by omega)).mp h74
                  omega
                subst hkz
                refine qr_aload_n (pc := 96) d_md_event_96 rfl rfl ?_
                refine qr_get (v := .int (nI z)) (pc := 97) d_md_event_97 fl_md_198 (by decide) (by decide) (c_47 _ _) (congrArg (fun t => some (Value.int t)) hz) ?_
                refine qr_bipush (v := 80) (pc := 100) d_md_event_100 (by decide) ?_
                refine qr_icmp_ne (tgt := 111) (pc := 102) d_md_event_102 (by decide) (fun h102 => ?_) (fun h102 => ?_)
                · skip
                  have hz8 : ¬ z = 80 := fun e => h102 (by rw [e]; rfl)
                  have hz9 : z < 80 := by omega
                  refine qr_aload_n (pc := 111) d_md_event_111 rfl rfl ?_
                  refine qr_get (v := .ref 63) (pc := 112) d_md_event_112 fl_md_60 (by decide) (by decide) (c_47 _ _) rfl ?_
                  refine qr_aload_n (pc := 115) d_md_event_115 rfl rfl ?_
                  refine qr_get (v := .int (nI z)) (pc := 116) d_md_event_116 fl_md_198 (by decide) (by decide) (c_47 _ _) (congrArg (fun t => some (Value.int t)) hz) ?_
                  refine qr_iload_n (pc := 119) d_md_event_119 rfl rfl ?_
                  refine qr_iastMN (j := z) (pc := 120) d_md_event_120 (by decide) (by decide) (c_63 _ _) (by omega) (by decide) (fun w => rfl) ?_
                  refine qr_aload_n (pc := 121) d_md_event_121 rfl rfl ?_
                  refine qr_get (v := .ref 64) (pc := 122) d_md_event_122 fl_md_63 (by decide) (by decide) (c_47 _ _) rfl ?_
                  refine qr_aload_n (pc := 125) d_md_event_125 rfl rfl ?_
                  refine qr_get (v := .int (nI z)) (pc := 126) d_md_event_126 fl_md_198 (by decide) (by decide) (c_47 _ _) (congrArg (fun t => some (Value.int t)) hz) ?_
                  refine qr_iload_n (pc := 129) d_md_event_129 rfl rfl ?_
                  refine qr_iastMN (j := z) (pc := 130) d_md_event_130 (by decide) (by decide) (c_64 _ _) (by omega) (by decide) (fun w => rfl) ?_
                  refine qr_aload_n (pc := 131) d_md_event_131 rfl rfl ?_
                  refine qr_get (v := .ref 65) (pc := 132) d_md_event_132 fl_md_66 (by decide) (by decide) (c_47 _ _) rfl ?_
                  refine qr_aload_n (pc := 135) d_md_event_135 rfl rfl ?_
                  refine qr_get (v := .int (nI z)) (pc := 136) d_md_event_136 fl_md_198 (by decide) (by decide) (c_47 _ _) (congrArg (fun t => some (Value.int t)) hz) ?_
                  refine qr_iload_n (pc := 139) d_md_event_139 rfl rfl ?_
                  refine qr_iastMN (j := z) (pc := 140) d_md_event_140 (by decide) (by decide) (c_65 _ _) (by omega) (by decide) (fun w => rfl) ?_
                  refine qr_aload_n (pc := 141) d_md_event_141 rfl rfl ?_
                  refine qr_get (v := .ref 66) (pc := 142) d_md_event_142 fl_md_69 (by decide) (by decide) (c_47 _ _) rfl ?_
                  refine qr_aload_n (pc := 145) d_md_event_145 rfl rfl ?_
                  refine qr_get (v := .int (nI z)) (pc := 146) d_md_event_146 fl_md_198 (by decide) (by decide) (c_47 _ _) (congrArg (fun t => some (Value.int t)) hz) ?_
                  refine qr_iload (pc := 149) d_md_event_149 rfl ?_
                  refine qr_iastMN (j := z) (pc := 151) d_md_event_151 (by decide) (by decide) (c_66 _ _) (by omega) (by decide) (fun w => rfl) ?_
                  refine qr_aload_n (pc := 152) d_md_event_152 rfl rfl ?_
                  refine qr_dup (pc := 153) d_md_event_153 rfl ?_
                  refine qr_get (v := .int (nI z)) (pc := 154) d_md_event_154 fl_md_198 (by decide) (by decide) (c_47 _ _) (congrArg (fun t => some (Value.int t)) hz) ?_
                  refine qr_iconst (v := 1) (pc := 157) d_md_event_157 (by decide) ?_
                  refine qr_iadd (pc := 158) d_md_event_158 ?_
                  refine qr_putI (pc := 159) d_md_event_159 fl_md_198 (by decide) (by decide) (c_47 _ _) (Nat.le_of_ble_eq_true rfl) (qFit_i _) (fun w => rfl) ?_
                  refine qr_aload_n (pc := 162) d_md_event_162 rfl rfl ?_
                  refine qr_get (v := .int ((nI z) + 1)) (pc := 163) d_md_event_163 fl_md_198 (by decide) (by decide) (c_47 _ _) rfl ?_
                  exact qr_iret (pc := 166) d_md_event_166 rfl rfl ⟨(by simp [nI_1, *]), rfl, (by simp [nI_1, *])⟩ (Nat.zero_le _) (Nat.zero_le _)
                · skip
                  have hz8 : z = 80 := (nI_eq (a := z) (b := 80) (by omega) (by omega)).mp h102
                  have hu8 := hu
                  rw [hz8] at hu8
                  refine qr_aload_n (pc := 105) d_md_event_105 rfl rfl ?_
                  refine qr_iconst (v := 3) (pc := 106) d_md_event_106 (by decide) ?_
                  refine qr_callV (q := 47) (As := [.int 3]) (pc := 107) d_md_event_107 lk_md_110 im_md_refuse se_md_refuse rfl (by decide) (by decide) (c_47 _ _) (s_md_refuse _ x (wI I 47 0 0) L 3) rfl rfl (Nat.le_of_ble_eq_true rfl) (Nat.le_of_ble_eq_true rfl) (Nat.le_of_ble_eq_true rfl) (Nat.zero_le _) (Nat.zero_le _) (fun h => ⟨h, rfl, Or.inl rfl⟩) (fun v n9 f9 hE107 => ?_)
                  obtain ⟨rfl, rfl, rfl⟩ := hE107
                  exact qr_iret (pc := 110) d_md_event_110 rfl rfl ⟨(by simp [nI_1, *]), rfl, (by simp [nI_1, *])⟩ (Nat.zero_le _) (Nat.zero_le _)
              · skip
                have hkz : k < z := by
                  have := mt (nI_leI (a := z) (b := k) (by omega) (by omega)).mpr h74
                  omega
                refine qr_aload_n (pc := 77) d_md_event_77 rfl rfl ?_
                refine qr_get (v := .ref 63) (pc := 78) d_md_event_78 fl_md_60 (by decide) (by decide) (c_47 _ _) rfl ?_
                refine qr_iload (pc := 81) d_md_event_81 rfl ?_
                refine qr_ialdN (j := k) (pc := 83) d_md_event_83 (by decide) (by decide) (c_63 _ _) (by omega) (by decide) ?_
                refine qR_st (st' := [.int (I 63 k)]) rfl rfl rfl ?_
                refine qr_iload_n (pc := 84) d_md_event_84 rfl rfl ?_
                refine qr_icmp_ne (tgt := 90) (pc := 85) d_md_event_85 (by decide) (fun h85 => ?_) (fun h85 => ?_)
                · skip
                  refine qr_iinc (v := nI (k + 1)) (lv' := [(5, .int (nI (k + 1))), (0, .ref 47), (1, .int key), (2, .int c), (3, .int day), (4, .int u)]) (pc := 90) d_md_event_90 rfl (nI_1 k) (Nat.le_of_ble_eq_true rfl) rfl ?_
                  refine qr_goto (tgt := 68) (pc := 93) d_md_event_93 (by decide) ?_
                  exact qR_st (by rfl) rfl (rfl) (ih (k + 1) (by omega) (by omega) (by simp [u_any, *]))
                · skip
                  have ha := u_any_hit (a := I 63) h85 z hkz
                  refine qr_iconst (v := 0) (pc := 88) d_md_event_88 (by decide) ?_
                  exact qr_iret (pc := 89) d_md_event_89 rfl rfl ⟨(by simp [nI_1, *]), rfl, (by simp [nI_1, *])⟩ (Nat.zero_le _) (Nat.zero_le _)
            exact loop68 (z + 1) 0 (by omega) (by omega) rfl
          · skip
            refine qr_aload_n (pc := 54) d_md_event_54 rfl rfl ?_
            refine qr_iconst (v := 2) (pc := 55) d_md_event_55 (by decide) ?_
            refine qr_callV (q := 47) (As := [.int 2]) (pc := 56) d_md_event_56 lk_md_110 im_md_refuse se_md_refuse rfl (by decide) (by decide) (c_47 _ _) (s_md_refuse _ x I L 2) rfl rfl (Nat.le_of_ble_eq_true rfl) (Nat.le_of_ble_eq_true rfl) (Nat.le_of_ble_eq_true rfl) (Nat.zero_le _) (Nat.zero_le _) (fun h => ⟨h, rfl, Or.inl rfl⟩) (fun v n9 f9 hE56 => ?_)
            obtain ⟨rfl, rfl, rfl⟩ := hE56
            exact qr_iret (pc := 59) d_md_event_59 rfl rfl ⟨(by simp [nI_1, *]), rfl, (by simp [nI_1, *])⟩ (Nat.zero_le _) (Nat.zero_le _)
    · skip
      simp only [b01, Decidable.not_not] at h22
      refine qr_aload_n (pc := 25) d_md_event_25 rfl rfl ?_
      refine qr_iconst (v := 1) (pc := 26) d_md_event_26 (by decide) ?_
      refine qr_callV (q := 47) (As := [.int 1]) (pc := 27) d_md_event_27 lk_md_110 im_md_refuse se_md_refuse rfl (by decide) (by decide) (c_47 _ _) (s_md_refuse _ x I L 1) rfl rfl (Nat.le_of_ble_eq_true rfl) (Nat.le_of_ble_eq_true rfl) (Nat.le_of_ble_eq_true rfl) (Nat.zero_le _) (Nat.zero_le _) (fun h => ⟨h, rfl, Or.inl rfl⟩) (fun v n9 f9 hE27 => ?_)
      obtain ⟨rfl, rfl, rfl⟩ := hE27
      exact qr_iret (pc := 30) d_md_event_30 rfl rfl ⟨(by simp [nI_1, *]), rfl, (by simp [nI_1, *])⟩ (Nat.zero_le _) (Nat.zero_le _)
set_option maxRecDepth 10000 in
theorem s_md_plan (l : Launch) (x : Bool) (I : Nat → Nat → Int32) (L : Nat → Nat → Int64) (z : Nat) (hz : I 47 34 = nI z) (hz2 : z ≤ 10) (c : Int32) (a : Int64) (d : Int32) : qSp l y_md_plan b_md_plan 5 (some .int) x 2 0 0 [.ref 47, .int c, .long a, .int d] 77 (fm I L) (qD (some (.int (if ((0 ≤ Int32.toInt64 c ∧ Int32.toInt64 c ≤ 4) ∧ (1 ≤ a ∧ a ≤ 1000000) ∧ (1 ≤ Int32.toInt64 d ∧ Int32.toInt64 d ≤ 400)) then (if z = 10 then 0 else nI (z + 1)) else 0))) 77 (fm (if ((0 ≤ Int32.toInt64 c ∧ Int32.toInt64 c ≤ 4) ∧ (1 ≤ a ∧ a ≤ 1000000) ∧ (1 ≤ Int32.toInt64 d ∧ Int32.toInt64 d ≤ 400)) then (if z = 10 then wI I 47 0 2 else wI (wI (wI (wI (wI I 47 0 0) 72 z c) 73 z d) 74 z (I 47 2)) 47 34 (nI (z + 1))) else wI I 47 0 1) (if ((0 ≤ Int32.toInt64 c ∧ Int32.toInt64 c ≤ 4) ∧ (1 ≤ a ∧ a ≤ 1000000) ∧ (1 ≤ Int32.toInt64 d ∧ Int32.toInt64 d ≤ 400)) ∧ ¬ z = 10 then wL (wL L 47 35 (L 47 35 + a)) 75 z a else L))) := by
  refine qSp_of (ini := false) (by decide +kernel) (fun h => nomatch h) (Nat.le_of_ble_eq_true rfl) ?_
  show qR _ _ _ 0 [(0, .ref 47), (1, .int c), (2, .long a), (4, .int d)] [] _ _ _ _
  refine qr_iload_n (pc := 0) d_md_plan_0 rfl rfl ?_
  refine qr_i2l (pc := 1) d_md_plan_1 ?_
  refine qr_lconst (v := 0) (pc := 2) d_md_plan_2 (by decide) ?_
  refine qr_ldc2 (v := 4) (pc := 3) d_md_plan_3 kl_md_201 ?_
  refine qr_callS (As := [.long (Int32.toInt64 c), .long 0, .long 4]) (pc := 6) d_md_plan_6 lk_md_106 sm_md_in (s_md_in _ x _ _ (Int32.toInt64 c) 0 4) rfl rfl (Nat.le_of_ble_eq_true rfl) (Nat.le_of_ble_eq_true rfl) (Nat.le_of_ble_eq_true rfl) (Nat.zero_le _) (Nat.zero_le _) (fun h => ⟨h, rfl, Or.inl rfl⟩) (fun v n9 f9 hE6 => ?_)
  obtain ⟨rfl, rfl, rfl⟩ := hE6
  refine qr_if_eq (tgt := 36) (pc := 9) d_md_plan_9 (by decide) (fun h9 => ?_) (fun h9 => ?_)
  · skip
    simp only [b01, Decidable.not_not] at h9
    refine qr_aload_n (pc := 36) d_md_plan_36 rfl rfl ?_
    refine qr_iconst (v := 1) (pc := 37) d_md_plan_37 (by decide) ?_
    refine qr_callV (q := 47) (As := [.int 1]) (pc := 38) d_md_plan_38 lk_md_110 im_md_refuse se_md_refuse rfl (by decide) (by decide) (c_47 _ _) (s_md_refuse _ x I L 1) rfl rfl (Nat.le_of_ble_eq_true rfl) (Nat.le_of_ble_eq_true rfl) (Nat.le_of_ble_eq_true rfl) (Nat.zero_le _) (Nat.zero_le _) (fun h => ⟨h, rfl, Or.inl rfl⟩) (fun v n9 f9 hE38 => ?_)
    obtain ⟨rfl, rfl, rfl⟩ := hE38
    exact qr_iret (pc := 41) d_md_plan_41 rfl rfl ⟨(by simp [nI_1, *]), rfl, (by simp [nI_1, *])⟩ (Nat.zero_le _) (Nat.zero_le _)
  · skip
    simp only [b01, Decidable.not_not] at h9
    refine qr_lload_n (pc := 12) d_md_plan_12 rfl rfl ?_
    refine qr_lconst (v := 1) (pc := 13) d_md_plan_13 (by decide) ?_
    refine qr_ldc2 (v := 1000000) (pc := 14) d_md_plan_14 kl_md_172 ?_
    refine qr_callS (As := [.long a, .long 1, .long 1000000]) (pc := 17) d_md_plan_17 lk_md_106 sm_md_in (s_md_in _ x _ _ a 1 1000000) rfl rfl (Nat.le_of_ble_eq_true rfl) (Nat.le_of_ble_eq_true rfl) (Nat.le_of_ble_eq_true rfl) (Nat.zero_le _) (Nat.zero_le _) (fun h => ⟨h, rfl, Or.inl rfl⟩) (fun v n9 f9 hE17 => ?_)
    obtain ⟨rfl, rfl, rfl⟩ := hE17
    refine qr_if_eq (tgt := 36) (pc := 20) d_md_plan_20 (by decide) (fun h20 => ?_) (fun h20 => ?_)
    · skip
      simp only [b01, Decidable.not_not] at h20
      refine qr_aload_n (pc := 36) d_md_plan_36 rfl rfl ?_
      refine qr_iconst (v := 1) (pc := 37) d_md_plan_37 (by decide) ?_
      refine qr_callV (q := 47) (As := [.int 1]) (pc := 38) d_md_plan_38 lk_md_110 im_md_refuse se_md_refuse rfl (by decide) (by decide) (c_47 _ _) (s_md_refuse _ x I L 1) rfl rfl (Nat.le_of_ble_eq_true rfl) (Nat.le_of_ble_eq_true rfl) (Nat.le_of_ble_eq_true rfl) (Nat.zero_le _) (Nat.zero_le _) (fun h => ⟨h, rfl, Or.inl rfl⟩) (fun v n9 f9 hE38 => ?_)
      obtain ⟨rfl, rfl, rfl⟩ := hE38
      exact qr_iret (pc := 41) d_md_plan_41 rfl rfl ⟨(by simp [nI_1, *]), rfl, (by simp [nI_1, *])⟩ (Nat.zero_le _) (Nat.zero_le _)
    · skip
      simp only [b01, Decidable.not_not] at h20
      refine qr_iload (pc := 23) d_md_plan_23 rfl ?_
      refine qr_i2l (pc := 25) d_md_plan_25 ?_
      refine qr_lconst (v := 1) (pc := 26) d_md_plan_26 (by decide) ?_
      refine qr_ldc2 (v := 400) (pc := 27) d_md_plan_27 kl_md_231 ?_
      refine qr_callS (As := [.long (Int32.toInt64 d), .long 1, .long 400]) (pc := 30) d_md_plan_30 lk_md_106 sm_md_in (s_md_in _ x _ _ (Int32.toInt64 d) 1 400) rfl rfl (Nat.le_of_ble_eq_true rfl) (Nat.le_of_ble_eq_true rfl) (Nat.le_of_ble_eq_true rfl) (Nat.zero_le _) (Nat.zero_le _) (fun h => ⟨h, rfl, Or.inl rfl⟩) (fun v n9 f9 hE30 => ?_)
      obtain ⟨rfl, rfl, rfl⟩ := hE30
      refine qr_if_ne (tgt := 42) (pc := 33) d_md_plan_33 (by decide) (fun h33 => ?_) (fun h33 => ?_)
      · skip
        simp only [b01, Decidable.not_not] at h33
        refine qr_aload_n (pc := 42) d_md_plan_42 rfl rfl ?_
        refine qr_get (v := .int (nI z)) (pc := 43) d_md_plan_43 fl_md_233 (by decide) (by decide) (c_47 _ _) (congrArg (fun t => some (Value.int t)) hz) ?_
        refine qr_bipush (v := 10) (pc := 46) d_md_plan_46 (by decide) ?_
        refine qr_icmp_ne (tgt := 57) (pc := 48) d_md_plan_48 (by decide) (fun h48 => ?_) (fun h48 => ?_)
        · skip
          have hz8 : ¬ z = 10 := fun e => h48 (by rw [e]; rfl)
          have hz9 : z < 10 := by omega
          refine qr_aload_n (pc := 57) d_md_plan_57 rfl rfl ?_
          refine qr_iconst (v := 0) (pc := 58) d_md_plan_58 (by decide) ?_
          refine qr_putI (pc := 59) d_md_plan_59 fl_md_99 (by decide) (by decide) (c_47 _ _) (Nat.le_of_ble_eq_true rfl) (qFit_i _) (fun w => rfl) ?_
          refine qr_aload_n (pc := 62) d_md_plan_62 rfl rfl ?_
          refine qr_dup (pc := 63) d_md_plan_63 rfl ?_
          refine qr_get (v := .long (L 47 35)) (pc := 64) d_md_plan_64 fl_md_227 (by decide) (by decide) (c_47 _ _) rfl ?_
          refine qr_lload_n (pc := 67) d_md_plan_67 rfl rfl ?_
          refine qr_ladd (pc := 68) d_md_plan_68 ?_
          refine qr_putL (pc := 69) d_md_plan_69 fl_md_227 (by decide) (by decide) (c_47 _ _) (Nat.le_of_ble_eq_true rfl) (qFit_l _) (fun w => rfl) ?_
          refine qr_aload_n (pc := 72) d_md_plan_72 rfl rfl ?_
          refine qr_get (v := .ref 72) (pc := 73) d_md_plan_73 fl_md_87 (by decide) (by decide) (c_47 _ _) rfl ?_
          refine qr_aload_n (pc := 76) d_md_plan_76 rfl rfl ?_
          refine qr_get (v := .int (nI z)) (pc := 77) d_md_plan_77 fl_md_233 (by decide) (by decide) (c_47 _ _) (congrArg (fun t => some (Value.int t)) hz) ?_
          refine qr_iload_n (pc := 80) d_md_plan_80 rfl rfl ?_
          refine qr_iastMN (j := z) (pc := 81) d_md_plan_81 (by decide) (by decide) (c_72 _ _) (by omega) (by decide) (fun w => rfl) ?_
          refine qr_aload_n (pc := 82) d_md_plan_82 rfl rfl ?_
          refine qr_get (v := .ref 75) (pc := 83) d_md_plan_83 fl_md_96 (by decide) (by decide) (c_47 _ _) rfl ?_
          refine qr_aload_n (pc := 86) d_md_plan_86 rfl rfl ?_
          refine qr_get (v := .int (nI z)) (pc := 87) d_md_plan_87 fl_md_233 (by decide) (by decide) (c_47 _ _) (congrArg (fun t => some (Value.int t)) hz) ?_
          refine qr_lload_n (pc := 90) d_md_plan_90 rfl rfl ?_
          refine qr_lastMN (j := z) (pc := 91) d_md_plan_91 (by decide) (by decide) (c_75 _ _) (by omega) (by decide) (fun w => rfl) ?_
          refine qr_aload_n (pc := 92) d_md_plan_92 rfl rfl ?_
          refine qr_get (v := .ref 73) (pc := 93) d_md_plan_93 fl_md_90 (by decide) (by decide) (c_47 _ _) rfl ?_
          refine qr_aload_n (pc := 96) d_md_plan_96 rfl rfl ?_
          refine qr_get (v := .int (nI z)) (pc := 97) d_md_plan_97 fl_md_233 (by decide) (by decide) (c_47 _ _) (congrArg (fun t => some (Value.int t)) hz) ?_
          refine qr_iload (pc := 100) d_md_plan_100 rfl ?_
          refine qr_iastMN (j := z) (pc := 102) d_md_plan_102 (by decide) (by decide) (c_73 _ _) (by omega) (by decide) (fun w => rfl) ?_
          refine qr_aload_n (pc := 103) d_md_plan_103 rfl rfl ?_
          refine qr_get (v := .ref 74) (pc := 104) d_md_plan_104 fl_md_93 (by decide) (by decide) (c_47 _ _) rfl ?_
          refine qr_aload_n (pc := 107) d_md_plan_107 rfl rfl ?_
          refine qr_get (v := .int (nI z)) (pc := 108) d_md_plan_108 fl_md_233 (by decide) (by decide) (c_47 _ _) (congrArg (fun t => some (Value.int t)) hz) ?_
          refine qr_aload_n (pc := 111) d_md_plan_111 rfl rfl ?_
          refine qr_get (v := .int (I 47 2)) (pc := 112) d_md_plan_112 fl_md_188 (by decide) (by decide) (c_47 _ _) rfl ?_
          refine qr_iastMN (j := z) (pc := 115) d_md_plan_115 (by decide) (by decide) (c_74 _ _) (by omega) (by decide) (fun w => rfl) ?_
          refine qr_aload_n (pc := 116) d_md_plan_116 rfl rfl ?_
          refine qr_dup (pc := 117) d_md_plan_117 rfl ?_
          refine qr_get (v := .int (nI z)) (pc := 118) d_md_plan_118 fl_md_233 (by decide) (by decide) (c_47 _ _) (congrArg (fun t => some (Value.int t)) hz) ?_
          refine qr_iconst (v := 1) (pc := 121) d_md_plan_121 (by decide) ?_
          refine qr_iadd (pc := 122) d_md_plan_122 ?_
          refine qr_putI (pc := 123) d_md_plan_123 fl_md_233 (by decide) (by decide) (c_47 _ _) (Nat.le_of_ble_eq_true rfl) (qFit_i _) (fun w => rfl) ?_
          refine qr_aload_n (pc := 126) d_md_plan_126 rfl rfl ?_
          refine qr_get (v := .int ((nI z) + 1)) (pc := 127) d_md_plan_127 fl_md_233 (by decide) (by decide) (c_47 _ _) rfl ?_
          exact qr_iret (pc := 130) d_md_plan_130 rfl rfl ⟨(by simp [nI_1, *]), rfl, (by simp [nI_1, *])⟩ (Nat.zero_le _) (Nat.zero_le _)
        · skip
          have hz8 : z = 10 := (nI_eq (a := z) (b := 10) (by omega) (by omega)).mp h48
          refine qr_aload_n (pc := 51) d_md_plan_51 rfl rfl ?_
          refine qr_iconst (v := 2) (pc := 52) d_md_plan_52 (by decide) ?_
          refine qr_callV (q := 47) (As := [.int 2]) (pc := 53) d_md_plan_53 lk_md_110 im_md_refuse se_md_refuse rfl (by decide) (by decide) (c_47 _ _) (s_md_refuse _ x I L 2) rfl rfl (Nat.le_of_ble_eq_true rfl) (Nat.le_of_ble_eq_true rfl) (Nat.le_of_ble_eq_true rfl) (Nat.zero_le _) (Nat.zero_le _) (fun h => ⟨h, rfl, Or.inl rfl⟩) (fun v n9 f9 hE53 => ?_)
          obtain ⟨rfl, rfl, rfl⟩ := hE53
          exact qr_iret (pc := 56) d_md_plan_56 rfl rfl ⟨(by simp [nI_1, *]), rfl, (by simp [nI_1, *])⟩ (Nat.zero_le _) (Nat.zero_le _)
      · skip
        simp only [b01, Decidable.not_not] at h33
        refine qr_aload_n (pc := 36) d_md_plan_36 rfl rfl ?_
        refine qr_iconst (v := 1) (pc := 37) d_md_plan_37 (by decide) ?_
        refine qr_callV (q := 47) (As := [.int 1]) (pc := 38) d_md_plan_38 lk_md_110 im_md_refuse se_md_refuse rfl (by decide) (by decide) (c_47 _ _) (s_md_refuse _ x I L 1) rfl rfl (Nat.le_of_ble_eq_true rfl) (Nat.le_of_ble_eq_true rfl) (Nat.le_of_ble_eq_true rfl) (Nat.zero_le _) (Nat.zero_le _) (fun h => ⟨h, rfl, Or.inl rfl⟩) (fun v n9 f9 hE38 => ?_)
        obtain ⟨rfl, rfl, rfl⟩ := hE38
        exact qr_iret (pc := 41) d_md_plan_41 rfl rfl ⟨(by simp [nI_1, *]), rfl, (by simp [nI_1, *])⟩ (Nat.zero_le _) (Nat.zero_le _)
