def mF (P : Nat) : Nat := (m_first P).toNatClampNeg
def mD (P : Nat) : Nat := (m_days (nI P)).toNatClampNeg
theorem m_tab : ∀ P, P < 14 → m_first P = nI (mF P) ∧ m_days (nI P) = nI (mD P) ∧ 1 ≤ mD P ∧ mF P + mD P ≤ 500 := by decide +kernel
theorem m_live_cg {I J : Nat → Nat → Int32} (h : ∀ k, k ≠ 47 → I k = J k) (T c d : Nat) : m_live I T c d = m_live J T c d := by
  simp only [m_live, h 62 (by decide), h 59 (by decide), h 58 (by decide)]
theorem m_dd_cg {I J : Nat → Nat → Int32} (h : ∀ k, k ≠ 47 → I k = J k) (T c t F : Nat) : ∀ i, m_dd I T c t F i = m_dd J T c t F i
  | 0 => rfl
  | i + 1 => by simp only [m_dd, m_live_cg h, m_dd_cg h T c t F i]
theorem dn_cg {I J : Nat → Nat → Int32} (h : ∀ k, k ≠ 47 → I k = J k) (e : Nat) : dn I e = dn J e := by simp only [dn, h 65 (by decide)]
theorem m_ud_cg {I J : Nat → Nat → Int32} (h : ∀ k, k ≠ 47 → I k = J k) (T c t F D : Nat) : ∀ e, m_ud I T c t F D e = m_ud J T c t F D e
  | 0 => rfl
  | e + 1 => by simp only [m_ud, dn_cg h, m_live_cg h, m_ud_cg h T c t F D e, h 64 (by decide), h 66 (by decide)]
theorem tz_cg {I J : Nat → Nat → Int32} (h : ∀ k, k ≠ 47 → I k = J k) (t : Nat) : tz I t = tz J t := by simp only [tz, h 54 (by decide)]
theorem m_priced_cg {I J : Nat → Nat → Int32} (h : ∀ k, k ≠ 47 → I k = J k) (t z : Nat) (u fr le : Int64) : m_priced I t z u fr le = m_priced J t z u fr le := by
  have e : ∀ v, m_sum I t z v = m_sum J t z v := fun v => by
    unfold m_sum
    rw [h 52 (by decide), h 53 (by decide), h 55 (by decide), h 56 (by decide), h 57 (by decide)]
  unfold m_priced
  rw [e]
theorem m_one_cg {I J : Nat → Nat → Int32} (h : ∀ k, k ≠ 47 → I k = J k) (t D : Nat) (d u : Int64) : m_one I t D d u = m_one J t D d u := by
  simp only [m_one, tz_cg h, m_priced_cg h, h 49 (by decide), h 50 (by decide), h 51 (by decide)]
theorem m_ds_cg {I J : Nat → Nat → Int32} (h : ∀ k, k ≠ 47 → I k = J k) (T c F D ne : Nat) : ∀ t, m_ds I T c F D ne t = m_ds J T c F D ne t
  | 0 => rfl
  | t + 1 => by simp only [m_ds, m_dd_cg h, m_ud_cg h, m_one_cg h, m_ds_cg h T c F D ne t]
theorem m_due_cg {I J : Nat → Nat → Int32} (h : ∀ k, k ≠ 47 → I k = J k) (T c F D ne : Nat) : m_due I T c F D ne = m_due J T c F D ne := m_ds_cg h T c F D ne 3
theorem w47 (I : Nat → Nat → Int32) (j : Nat) (v : Int32) : ∀ k, k ≠ 47 → wI I 47 j v k = I k := fun k hk => by
  funext b
  exact wI_ne (Or.inl hk)
theorem mE_w47 {I : Nat → Nat → Int32} {j ne : Nat} {v : Int32} (h : mE I ne) : mE (wI I 47 j v) ne := fun e he => by
  rw [dn_cg (w47 I j v), w47 I j v 65 (by decide)]
  exact h e he
theorem mT_w47 {I : Nat → Nat → Int32} {j : Nat} {v : Int32} (h : mT I) : mT (wI I 47 j v) := fun t ht => by
  rw [tz_cg (w47 I j v), w47 I j v 54 (by decide)]
  exact h t ht
set_option maxRecDepth 10000 in
theorem s_md_charge (l : Launch) (x : Bool) (I : Nat → Nat → Int32) (L : Nat → Nat → Int64) (T ne : Nat) (hT : I 47 2 = nI T) (hT2 : T ≤ 400) (hne : I 47 23 = nI ne) (hne2 : ne ≤ 80) (hday : mE I ne) (hTz : mT I) (c p : Int32) : qSp l y_md_charge b_md_charge 3 (some .long) x 5 0 0 [.ref 47, .int c, .int p] 77 (fm I L) (qD (some (.long (if ((0 ≤ Int32.toInt64 c ∧ Int32.toInt64 c ≤ 4) ∧ (0 ≤ Int32.toInt64 p ∧ Int32.toInt64 p ≤ 13)) then m_due I T c.toNatClampNeg (mF p.toNatClampNeg) (mD p.toNatClampNeg) ne else 0))) 77 (fm (wI I 47 0 (if ((0 ≤ Int32.toInt64 c ∧ Int32.toInt64 c ≤ 4) ∧ (0 ≤ Int32.toInt64 p ∧ Int32.toInt64 p ≤ 13)) then 0 else 1)) L)) := by
  refine qSp_of (ini := false) (by decide +kernel) (fun h => nomatch h) (Nat.le_of_ble_eq_true rfl) ?_
  show qR _ _ _ 0 [(0, .ref 47), (1, .int c), (2, .int p)] [] _ _ _ _
  refine qr_iload_n (pc := 0) d_md_charge_0 rfl rfl ?_
  refine qr_i2l (pc := 1) d_md_charge_1 ?_
  refine qr_lconst (v := 0) (pc := 2) d_md_charge_2 (by decide) ?_
  refine qr_ldc2 (v := 4) (pc := 3) d_md_charge_3 kl_md_201 ?_
  refine qr_callS (As := [.long (Int32.toInt64 c), .long 0, .long 4]) (pc := 6) d_md_charge_6 lk_md_106 sm_md_in (s_md_in _ x _ _ (Int32.toInt64 c) 0 4) rfl rfl (Nat.le_of_ble_eq_true rfl) (Nat.le_of_ble_eq_true rfl) (Nat.le_of_ble_eq_true rfl) (Nat.zero_le _) (Nat.zero_le _) (fun h => ⟨h, rfl, Or.inl rfl⟩) (fun v n9 f9 hE6 => ?_)
  obtain ⟨rfl, rfl, rfl⟩ := hE6
  refine qr_if_eq (tgt := 24) (pc := 9) d_md_charge_9 (by decide) (fun h9 => ?_) (fun h9 => ?_)
  · skip
    simp only [b01, Decidable.not_not] at h9
    refine qr_aload_n (pc := 24) d_md_charge_24 rfl rfl ?_
    refine qr_iconst (v := 1) (pc := 25) d_md_charge_25 (by decide) ?_
    refine qr_callV (q := 47) (As := [.int 1]) (pc := 26) d_md_charge_26 lk_md_110 im_md_refuse se_md_refuse rfl (by decide) (by decide) (c_47 _ _) (s_md_refuse _ x I L 1) rfl rfl (Nat.le_of_ble_eq_true rfl) (Nat.le_of_ble_eq_true rfl) (Nat.le_of_ble_eq_true rfl) (Nat.zero_le _) (Nat.zero_le _) (fun h => ⟨h, rfl, Or.inl rfl⟩) (fun v n9 f9 hE26 => ?_)
    obtain ⟨rfl, rfl, rfl⟩ := hE26
    refine qr_i2l (pc := 29) d_md_charge_29 ?_
    exact qr_lret (pc := 30) d_md_charge_30 rfl ⟨(by simp [i2l0, *]), rfl, (by simp [*])⟩ (Nat.zero_le _) (Nat.zero_le _)
  · skip
    simp only [b01, Decidable.not_not] at h9
    refine qr_iload_n (pc := 12) d_md_charge_12 rfl rfl ?_
    refine qr_i2l (pc := 13) d_md_charge_13 ?_
    refine qr_lconst (v := 0) (pc := 14) d_md_charge_14 (by decide) ?_
    refine qr_ldc2 (v := 13) (pc := 15) d_md_charge_15 kl_md_203 ?_
    refine qr_callS (As := [.long (Int32.toInt64 p), .long 0, .long 13]) (pc := 18) d_md_charge_18 lk_md_106 sm_md_in (s_md_in _ x _ _ (Int32.toInt64 p) 0 13) rfl rfl (Nat.le_of_ble_eq_true rfl) (Nat.le_of_ble_eq_true rfl) (Nat.le_of_ble_eq_true rfl) (Nat.zero_le _) (Nat.zero_le _) (fun h => ⟨h, rfl, Or.inl rfl⟩) (fun v n9 f9 hE18 => ?_)
    obtain ⟨rfl, rfl, rfl⟩ := hE18
    refine qr_if_ne (tgt := 31) (pc := 21) d_md_charge_21 (by decide) (fun h21 => ?_) (fun h21 => ?_)
    · skip
      simp only [b01, Decidable.not_not] at h21
      obtain ⟨c9, hc9, rfl⟩ := in_nI (n := 4) (by decide) h9
      obtain ⟨p9, hp9, rfl⟩ := in_nI (n := 13) (by decide) h21
      have ccl : (nI c9).toNatClampNeg = c9 := nI_clamp (by omega)
      have pcl : (nI p9).toNatClampNeg = p9 := nI_clamp (by omega)
      refine qr_aload_n (pc := 31) d_md_charge_31 rfl rfl ?_
      refine qr_iconst (v := 0) (pc := 32) d_md_charge_32 (by decide) ?_
      refine qr_putI (pc := 33) d_md_charge_33 fl_md_99 (by decide) (by decide) (c_47 _ _) (Nat.le_of_ble_eq_true rfl) (qFit_i _) (fun w => rfl) ?_
      refine qr_aload_n (pc := 36) d_md_charge_36 rfl rfl ?_
      refine qr_iload_n (pc := 37) d_md_charge_37 rfl rfl ?_
      refine qr_iload_n (pc := 38) d_md_charge_38 rfl rfl ?_
      refine qr_callV (q := 47) (As := [.int (nI c9), .int (nI p9)]) (pc := 39) d_md_charge_39 lk_md_205 im_md_due se_md_due rfl (by decide) (by decide) (c_47 _ _) (s_md_due _ x (wI I 47 0 0) L T p9 (mF p9) (mD p9) ne c9 hT hT2 (by omega) (m_tab p9 (by omega)).1 (m_tab p9 (by omega)).2.1 (m_tab p9 (by omega)).2.2.1 (m_tab p9 (by omega)).2.2.2 hne hne2 (mE_w47 hday) (mT_w47 hTz) (by omega)) rfl rfl (Nat.le_of_ble_eq_true rfl) (Nat.le_of_ble_eq_true rfl) (Nat.le_of_ble_eq_true rfl) (Nat.zero_le _) (Nat.zero_le _) (fun h => ⟨h, rfl, Or.inl rfl⟩) (fun v n9 f9 hE39 => ?_)
      obtain ⟨rfl, rfl, rfl⟩ := hE39
      exact qr_lret (pc := 42) d_md_charge_42 rfl ⟨(by rw [if_pos ⟨h9, h21⟩, ccl, pcl, m_due_cg (w47 I 0 0)]), rfl, (by simp [*])⟩ (Nat.zero_le _) (Nat.zero_le _)
    · skip
      simp only [b01, Decidable.not_not] at h21
      refine qr_aload_n (pc := 24) d_md_charge_24 rfl rfl ?_
      refine qr_iconst (v := 1) (pc := 25) d_md_charge_25 (by decide) ?_
      refine qr_callV (q := 47) (As := [.int 1]) (pc := 26) d_md_charge_26 lk_md_110 im_md_refuse se_md_refuse rfl (by decide) (by decide) (c_47 _ _) (s_md_refuse _ x I L 1) rfl rfl (Nat.le_of_ble_eq_true rfl) (Nat.le_of_ble_eq_true rfl) (Nat.le_of_ble_eq_true rfl) (Nat.zero_le _) (Nat.zero_le _) (fun h => ⟨h, rfl, Or.inl rfl⟩) (fun v n9 f9 hE26 => ?_)
      obtain ⟨rfl, rfl, rfl⟩ := hE26
      refine qr_i2l (pc := 29) d_md_charge_29 ?_
      exact qr_lret (pc := 30) d_md_charge_30 rfl ⟨(by simp [i2l0, *]), rfl, (by simp [*])⟩ (Nat.zero_le _) (Nat.zero_le _)
/-- what is left of the day behind the first k periods -/
def m_left (d : Int32) : Nat → Int32
  | 0 => d
  | k + 1 => m_left d k - m_days (nI k)
def m_date (d w : Int32) (P : Nat) : Int32 := if w = 0 then 2000 + nI P / 12 else if w = 1 then nI P - nI P / 12 * 12 + 1 else if w = 2 then m_left d P + 1 else nI P
set_option maxRecDepth 10000 in
theorem s_md_date (l : Launch) (x : Bool) (I : Nat → Nat → Int32) (L : Nat → Nat → Int64) (d w : Int32) (P : Nat) (hP1 : ((0 ≤ Int32.toInt64 d ∧ Int32.toInt64 d ≤ 100000) ∧ (0 ≤ Int32.toInt64 w ∧ Int32.toInt64 w ≤ 3)) → (∀ k, k < P → m_days (nI k) ≤ m_left d k) ∧ m_left d P < m_days (nI P)) : qSp l y_md_date b_md_date 5 (some .int) x 3 0 0 [.ref 47, .int d, .int w] 77 (fm I L) (qD (some (.int (if ((0 ≤ Int32.toInt64 d ∧ Int32.toInt64 d ≤ 100000) ∧ (0 ≤ Int32.toInt64 w ∧ Int32.toInt64 w ≤ 3)) then m_date d w P else 0))) 77 (fm (wI I 47 0 (if ((0 ≤ Int32.toInt64 d ∧ Int32.toInt64 d ≤ 100000) ∧ (0 ≤ Int32.toInt64 w ∧ Int32.toInt64 w ≤ 3)) then 0 else 1)) L)) := by
  refine qSp_of (ini := false) (by decide +kernel) (fun h => nomatch h) (Nat.le_of_ble_eq_true rfl) ?_
  show qR _ _ _ 0 [(0, .ref 47), (1, .int d), (2, .int w)] [] _ _ _ _
  refine qr_iload_n (pc := 0) d_md_date_0 rfl rfl ?_
  refine qr_i2l (pc := 1) d_md_date_1 ?_
  refine qr_lconst (v := 0) (pc := 2) d_md_date_2 (by decide) ?_
  refine qr_ldc2 (v := 100000) (pc := 3) d_md_date_3 kl_md_184 ?_
  refine qr_callS (As := [.long (Int32.toInt64 d), .long 0, .long 100000]) (pc := 6) d_md_date_6 lk_md_106 sm_md_in (s_md_in _ x _ _ (Int32.toInt64 d) 0 100000) rfl rfl (Nat.le_of_ble_eq_true rfl) (Nat.le_of_ble_eq_true rfl) (Nat.le_of_ble_eq_true rfl) (Nat.zero_le _) (Nat.zero_le _) (fun h => ⟨h, rfl, Or.inl rfl⟩) (fun v n9 f9 hE6 => ?_)
  obtain ⟨rfl, rfl, rfl⟩ := hE6
  refine qr_if_eq (tgt := 24) (pc := 9) d_md_date_9 (by decide) (fun h9 => ?_) (fun h9 => ?_)
  · skip
    simp only [b01, Decidable.not_not] at h9
    refine qr_aload_n (pc := 24) d_md_date_24 rfl rfl ?_
    refine qr_iconst (v := 1) (pc := 25) d_md_date_25 (by decide) ?_
    refine qr_callV (q := 47) (As := [.int 1]) (pc := 26) d_md_date_26 lk_md_110 im_md_refuse se_md_refuse rfl (by decide) (by decide) (c_47 _ _) (s_md_refuse _ x I L 1) rfl rfl (Nat.le_of_ble_eq_true rfl) (Nat.le_of_ble_eq_true rfl) (Nat.le_of_ble_eq_true rfl) (Nat.zero_le _) (Nat.zero_le _) (fun h => ⟨h, rfl, Or.inl rfl⟩) (fun v n9 f9 hE26 => ?_)
    obtain ⟨rfl, rfl, rfl⟩ := hE26
    exact qr_iret (pc := 29) d_md_date_29 rfl rfl ⟨(by simp [m_date, *]), rfl, (by simp [*])⟩ (Nat.zero_le _) (Nat.zero_le _)
  · skip
    simp only [b01, Decidable.not_not] at h9
    refine qr_iload_n (pc := 12) d_md_date_12 rfl rfl ?_
    refine qr_i2l (pc := 13) d_md_date_13 ?_
    refine qr_lconst (v := 0) (pc := 14) d_md_date_14 (by decide) ?_
    refine qr_ldc2 (v := 3) (pc := 15) d_md_date_15 kl_md_186 ?_
    refine qr_callS (As := [.long (Int32.toInt64 w), .long 0, .long 3]) (pc := 18) d_md_date_18 lk_md_106 sm_md_in (s_md_in _ x _ _ (Int32.toInt64 w) 0 3) rfl rfl (Nat.le_of_ble_eq_true rfl) (Nat.le_of_ble_eq_true rfl) (Nat.le_of_ble_eq_true rfl) (Nat.zero_le _) (Nat.zero_le _) (fun h => ⟨h, rfl, Or.inl rfl⟩) (fun v n9 f9 hE18 => ?_)
    obtain ⟨rfl, rfl, rfl⟩ := hE18
    refine qr_if_ne (tgt := 30) (pc := 21) d_md_date_21 (by decide) (fun h21 => ?_) (fun h21 => ?_)
    · skip
      simp only [b01, Decidable.not_not] at h21
      have hP := hP1 ⟨h9, h21⟩
      refine qr_aload_n (pc := 30) d_md_date_30 rfl rfl ?_
      refine qr_iconst (v := 0) (pc := 31) d_md_date_31 (by decide) ?_
      refine qr_putI (pc := 32) d_md_date_32 fl_md_99 (by decide) (by decide) (c_47 _ _) (Nat.le_of_ble_eq_true rfl) (qFit_i _) (fun w => rfl) ?_
      refine qr_iconst (v := 0) (pc := 35) d_md_date_35 (by decide) ?_
      refine qr_istore_n (lv' := [(3, .int 0), (0, .ref 47), (1, .int d), (2, .int w)]) (pc := 36) d_md_date_36 rfl (Nat.le_of_ble_eq_true rfl) rfl ?_
      refine qr_iload_n (pc := 37) d_md_date_37 rfl rfl ?_
      refine qr_istore (lv' := [(4, .int d), (3, .int 0), (0, .ref 47), (1, .int d), (2, .int w)]) (pc := 38) d_md_date_38 (Nat.le_of_ble_eq_true rfl) rfl ?_
      have loop40 : ∀ (j k : Nat), P - k < j → k ≤ P → qR (l, y_md_date.cls, b_md_date, 5, (some .int), false, x, 3, 0, 0, 77, q0) (qD (some (.int (if ((0 ≤ Int32.toInt64 d ∧ Int32.toInt64 d ≤ 100000) ∧ (0 ≤ Int32.toInt64 w ∧ Int32.toInt64 w ≤ 3)) then m_date d w P else 0))) 77 (fm (wI I 47 0 (if ((0 ≤ Int32.toInt64 d ∧ Int32.toInt64 d ≤ 100000) ∧ (0 ≤ Int32.toInt64 w ∧ Int32.toInt64 w ≤ 3)) then 0 else 1)) L)) (fun _ _ _ => False) 40 [(3, .int (nI k)), (4, .int (m_left d k)), (0, .ref 47), (1, .int d), (2, .int w)] [] 77 0 0 (fm (wI I 47 0 0) L) := by
        intro j
        induction j with
        | zero => intro k hj; omega
        | succ j ih =>
        intro k hj hk
        refine qr_iload (pc := 40) d_md_date_40 rfl ?_
        refine qr_iload_n (pc := 42) d_md_date_42 rfl rfl ?_
        refine qr_callS (As := [.int (nI k)]) (pc := 43) d_md_date_43 lk_md_181 sm_md_daysOf (s_md_daysOf _ x _ _ (nI k)) rfl rfl (Nat.le_of_ble_eq_true rfl) (Nat.le_of_ble_eq_true rfl) (Nat.le_of_ble_eq_true rfl) (Nat.zero_le _) (Nat.zero_le _) (fun h => ⟨h, rfl, Or.inl rfl⟩) (fun v n9 f9 hE43 => ?_)
        obtain ⟨rfl, rfl, rfl⟩ := hE43
        refine qr_icmp_lt (tgt := 64) (pc := 46) d_md_date_46 (by decide) (fun h46 => ?_) (fun h46 => ?_)
        · skip
          have hkP : P = k := by
            rcases Nat.lt_or_ge k P with q | q
            · exact absurd (hP.1 k q) (Int32.not_le.mpr h46)
            · omega
          subst hkP
          refine qr_iload_n (pc := 64) d_md_date_64 rfl rfl ?_
          refine qr_if_ne (tgt := 79) (pc := 65) d_md_date_65 (by decide) (fun h65 => ?_) (fun h65 => ?_)
          · skip
            refine qr_iload_n (pc := 79) d_md_date_79 rfl rfl ?_
            refine qr_iconst (v := 1) (pc := 80) d_md_date_80 (by decide) ?_
            refine qr_icmp_ne (tgt := 93) (pc := 81) d_md_date_81 (by decide) (fun h81 => ?_) (fun h81 => ?_)
            · skip
              refine qr_iload_n (pc := 93) d_md_date_93 rfl rfl ?_
              refine qr_iconst (v := 2) (pc := 94) d_md_date_94 (by decide) ?_
              refine qr_icmp_ne (tgt := 105) (pc := 95) d_md_date_95 (by decide) (fun h95 => ?_) (fun h95 => ?_)
              · skip
                refine qr_iload_n (pc := 105) d_md_date_105 rfl rfl ?_
                exact qr_iret (pc := 106) d_md_date_106 rfl rfl ⟨(by simp [m_date, *]), rfl, (by simp [*])⟩ (Nat.zero_le _) (Nat.zero_le _)
              · skip
                refine qr_iload (pc := 98) d_md_date_98 rfl ?_
                refine qr_iconst (v := 1) (pc := 100) d_md_date_100 (by decide) ?_
                refine qr_iadd (pc := 101) d_md_date_101 ?_
                refine qr_goto (tgt := 106) (pc := 102) d_md_date_102 (by decide) ?_
                exact qr_iret (pc := 106) d_md_date_106 rfl rfl ⟨(by simp [m_date, *]), rfl, (by simp [*])⟩ (Nat.zero_le _) (Nat.zero_le _)
            · skip
              refine qr_iload_n (pc := 84) d_md_date_84 rfl rfl ?_
              refine qr_bipush (v := 12) (pc := 85) d_md_date_85 (by decide) ?_
              refine qr_irem (pc := 87) d_md_date_87 (by decide) ?_
              refine qr_iconst (v := 1) (pc := 88) d_md_date_88 (by decide) ?_
              refine qr_iadd (pc := 89) d_md_date_89 ?_
              refine qr_goto (tgt := 106) (pc := 90) d_md_date_90 (by decide) ?_
              exact qr_iret (pc := 106) d_md_date_106 rfl rfl ⟨(by simp [m_date, *]), rfl, (by simp [*])⟩ (Nat.zero_le _) (Nat.zero_le _)
          · skip
            refine qr_sipush (v := 2000) (pc := 68) d_md_date_68 (by decide) ?_
            refine qr_iload_n (pc := 71) d_md_date_71 rfl rfl ?_
            refine qr_bipush (v := 12) (pc := 72) d_md_date_72 (by decide) ?_
            refine qr_idiv (pc := 74) d_md_date_74 (by decide) ?_
            refine qr_iadd (pc := 75) d_md_date_75 ?_
            refine qr_goto (tgt := 106) (pc := 76) d_md_date_76 (by decide) ?_
            exact qr_iret (pc := 106) d_md_date_106 rfl rfl ⟨(by simp [m_date, *]), rfl, (by simp [*])⟩ (Nat.zero_le _) (Nat.zero_le _)
        · skip
          have hkP : k < P := by
            rcases Nat.lt_or_ge k P with q | q
            · exact q
            · have e : k = P := by omega
              subst e
              exact absurd hP.2 h46
          refine qr_iload (pc := 49) d_md_date_49 rfl ?_
          refine qr_iload_n (pc := 51) d_md_date_51 rfl rfl ?_
          refine qr_callS (As := [.int (nI k)]) (pc := 52) d_md_date_52 lk_md_181 sm_md_daysOf (s_md_daysOf _ x _ _ (nI k)) rfl rfl (Nat.le_of_ble_eq_true rfl) (Nat.le_of_ble_eq_true rfl) (Nat.le_of_ble_eq_true rfl) (Nat.zero_le _) (Nat.zero_le _) (fun h => ⟨h, rfl, Or.inl rfl⟩) (fun v n9 f9 hE52 => ?_)
          obtain ⟨rfl, rfl, rfl⟩ := hE52
          refine qr_isub (pc := 55) d_md_date_55 ?_
          refine qr_istore (lv' := [(4, .int ((m_left d k) - (m_days (nI k)))), (3, .int (nI k)), (0, .ref 47), (1, .int d), (2, .int w)]) (pc := 56) d_md_date_56 (Nat.le_of_ble_eq_true rfl) rfl ?_
          refine qr_iinc (v := nI (k + 1)) (lv' := [(3, .int (nI (k + 1))), (4, .int ((m_left d k) - (m_days (nI k)))), (0, .ref 47), (1, .int d), (2, .int w)]) (pc := 58) d_md_date_58 rfl (nI_1 k) (Nat.le_of_ble_eq_true rfl) rfl ?_
          refine qr_goto (tgt := 40) (pc := 61) d_md_date_61 (by decide) ?_
          exact qR_st (by simp [m_left, *]) rfl rfl (ih (k + 1) (by omega) (by omega))
      refine qR_sub (lv' := [(3, .int 0), (4, .int d), (0, .ref 47), (1, .int d), (2, .int w)]) [1, 0, 2, 3, 4] rfl ?_
      exact loop40 (P + 1) 0 (by omega) (by omega)
    · skip
      simp only [b01, Decidable.not_not] at h21
      refine qr_aload_n (pc := 24) d_md_date_24 rfl rfl ?_
      refine qr_iconst (v := 1) (pc := 25) d_md_date_25 (by decide) ?_
      refine qr_callV (q := 47) (As := [.int 1]) (pc := 26) d_md_date_26 lk_md_110 im_md_refuse se_md_refuse rfl (by decide) (by decide) (c_47 _ _) (s_md_refuse _ x I L 1) rfl rfl (Nat.le_of_ble_eq_true rfl) (Nat.le_of_ble_eq_true rfl) (Nat.le_of_ble_eq_true rfl) (Nat.zero_le _) (Nat.zero_le _) (fun h => ⟨h, rfl, Or.inl rfl⟩) (fun v n9 f9 hE26 => ?_)
      obtain ⟨rfl, rfl, rfl⟩ := hE26
      exact qr_iret (pc := 29) d_md_date_29 rfl rfl ⟨(by simp [m_date, *]), rfl, (by simp [*])⟩ (Nat.zero_le _) (Nat.zero_le _)
