/-! BillForge$Almanac -/
def u_leap (y : Int32) : Int32 := if (y - y / 4 * 4 = 0 ∧ ¬ y - y / 100 * 100 = 0) ∨ y - y / 400 * 400 = 0 then 1 else 0
def u_dim (y m : Int32) : Int32 := if m = 2 then (if u_leap y = 0 then 28 else 29) else if m = 4 ∨ m = 6 ∨ m = 9 ∨ m = 11 then 30 else 31
def u_fdy (y : Int32) : Int32 := 365 * (y - 2000) + ((y - 2000 + 3) / 4 - (y - 2000 + 99) / 100 + (y - 2000 + 399) / 400)
/-- the first day of the month k + 1 of the year y -/
def u_md (y : Int32) : Nat → Int32
  | 0 => u_fdy y
  | k + 1 => u_md y k + u_dim y (nI (k + 1))
/-- what is left of d behind the first k months of the year y -/
def u_lf (d y : Int32) : Nat → Int32
  | 0 => d
  | k + 1 => u_lf d y k - u_dim y (nI (k + 1))
set_option maxRecDepth 10000 in
theorem s_al_yearOf (l : Launch) (x : Bool) (n : Nat) (f : Nat → va_E) (p : Int32) : qSp l y_al_yearOf b_al_yearOf 1 (some .int) x 1 0 0 [.int p] n f (qD (some (.int (2000 + p / 12))) n f) := by
  refine qSp_of (ini := false) (by decide +kernel) (fun h => nomatch h) (Nat.le_of_ble_eq_true rfl) ?_
  show qR _ _ _ 0 [(0, .int p)] [] _ _ _ _
  refine qr_sipush (v := 2000) (pc := 0) d_al_yearOf_0 (by decide) ?_
  refine qr_iload_n (pc := 3) d_al_yearOf_3 rfl rfl ?_
  refine qr_bipush (v := 12) (pc := 4) d_al_yearOf_4 (by decide) ?_
  refine qr_idiv (pc := 6) d_al_yearOf_6 (by decide) ?_
  refine qr_iadd (pc := 7) d_al_yearOf_7 ?_
  exact qr_iret (pc := 8) d_al_yearOf_8 rfl rfl ⟨rfl, rfl, rfl⟩ (Nat.zero_le _) (Nat.zero_le _)
set_option maxRecDepth 10000 in
theorem s_al_monthOf (l : Launch) (x : Bool) (n : Nat) (f : Nat → va_E) (p : Int32) : qSp l y_al_monthOf b_al_monthOf 1 (some .int) x 1 0 0 [.int p] n f (qD (some (.int ((p - p / 12 * 12) + 1))) n f) := by
  refine qSp_of (ini := false) (by decide +kernel) (fun h => nomatch h) (Nat.le_of_ble_eq_true rfl) ?_
  show qR _ _ _ 0 [(0, .int p)] [] _ _ _ _
  refine qr_iload_n (pc := 0) d_al_monthOf_0 rfl rfl ?_
  refine qr_bipush (v := 12) (pc := 1) d_al_monthOf_1 (by decide) ?_
  refine qr_irem (pc := 3) d_al_monthOf_3 (by decide) ?_
  refine qr_iconst (v := 1) (pc := 4) d_al_monthOf_4 (by decide) ?_
  refine qr_iadd (pc := 5) d_al_monthOf_5 ?_
  exact qr_iret (pc := 6) d_al_monthOf_6 rfl rfl ⟨rfl, rfl, rfl⟩ (Nat.zero_le _) (Nat.zero_le _)
set_option maxRecDepth 10000 in
theorem s_al_isLeapYear (l : Launch) (x : Bool) (n : Nat) (f : Nat → va_E) (y : Int32) : qSp l y_al_isLeapYear b_al_isLeapYear 1 (some .boolean) x 1 0 0 [.int y] n f (qD (some (.int (u_leap y))) n f) := by
  refine qSp_of (ini := false) (by decide +kernel) (fun h => nomatch h) (Nat.le_of_ble_eq_true rfl) ?_
  show qR _ _ _ 0 [(0, .int y)] [] _ _ _ _
  refine qr_iload_n (pc := 0) d_al_isLeapYear_0 rfl rfl ?_
  refine qr_iconst (v := 4) (pc := 1) d_al_isLeapYear_1 (by decide) ?_
  refine qr_irem (pc := 2) d_al_isLeapYear_2 (by decide) ?_
  refine qr_if_ne (tgt := 13) (pc := 3) d_al_isLeapYear_3 (by decide) (fun h3 => ?_) (fun h3 => ?_)
  · skip
    refine qr_iload_n (pc := 13) d_al_isLeapYear_13 rfl rfl ?_
    refine qr_sipush (v := 400) (pc := 14) d_al_isLeapYear_14 (by decide) ?_
    refine qr_irem (pc := 17) d_al_isLeapYear_17 (by decide) ?_
    refine qr_if_ne (tgt := 25) (pc := 18) d_al_isLeapYear_18 (by decide) (fun h18 => ?_) (fun h18 => ?_)
    · skip
      refine qr_iconst (v := 0) (pc := 25) d_al_isLeapYear_25 (by decide) ?_
      exact qr_iret (pc := 26) d_al_isLeapYear_26 rfl rfl ⟨(by simp [u_leap, *]), rfl, rfl⟩ (Nat.zero_le _) (Nat.zero_le _)
    · skip
      refine qr_iconst (v := 1) (pc := 21) d_al_isLeapYear_21 (by decide) ?_
      refine qr_goto (tgt := 26) (pc := 22) d_al_isLeapYear_22 (by decide) ?_
      exact qr_iret (pc := 26) d_al_isLeapYear_26 rfl rfl ⟨(by simp [u_leap, *]), rfl, rfl⟩ (Nat.zero_le _) (Nat.zero_le _)
  · skip
    refine qr_iload_n (pc := 6) d_al_isLeapYear_6 rfl rfl ?_
    refine qr_bipush (v := 100) (pc := 7) d_al_isLeapYear_7 (by decide) ?_
    refine qr_irem (pc := 9) d_al_isLeapYear_9 (by decide) ?_
    refine qr_if_ne (tgt := 21) (pc := 10) d_al_isLeapYear_10 (by decide) (fun h10 => ?_) (fun h10 => ?_)
    · skip
      refine qr_iconst (v := 1) (pc := 21) d_al_isLeapYear_21 (by decide) ?_
      refine qr_goto (tgt := 26) (pc := 22) d_al_isLeapYear_22 (by decide) ?_
      exact qr_iret (pc := 26) d_al_isLeapYear_26 rfl rfl ⟨(by simp [u_leap, *]), rfl, rfl⟩ (Nat.zero_le _) (Nat.zero_le _)
    · skip
      refine qr_iload_n (pc := 13) d_al_isLeapYear_13 rfl rfl ?_
      refine qr_sipush (v := 400) (pc := 14) d_al_isLeapYear_14 (by decide) ?_
      refine qr_irem (pc := 17) d_al_isLeapYear_17 (by decide) ?_
      refine qr_if_ne (tgt := 25) (pc := 18) d_al_isLeapYear_18 (by decide) (fun h18 => ?_) (fun h18 => ?_)
      · skip
        refine qr_iconst (v := 0) (pc := 25) d_al_isLeapYear_25 (by decide) ?_
        exact qr_iret (pc := 26) d_al_isLeapYear_26 rfl rfl ⟨(by simp [u_leap, *]), rfl, rfl⟩ (Nat.zero_le _) (Nat.zero_le _)
      · skip
        refine qr_iconst (v := 1) (pc := 21) d_al_isLeapYear_21 (by decide) ?_
        refine qr_goto (tgt := 26) (pc := 22) d_al_isLeapYear_22 (by decide) ?_
        exact qr_iret (pc := 26) d_al_isLeapYear_26 rfl rfl ⟨(by simp [u_leap, *]), rfl, rfl⟩ (Nat.zero_le _) (Nat.zero_le _)
set_option maxRecDepth 10000 in
theorem s_al_daysInMonth (l : Launch) (x : Bool) (n : Nat) (f : Nat → va_E) (y m : Int32) : qSp l y_al_daysInMonth b_al_daysInMonth 2 (some .int) x 2 0 0 [.int y, .int m] n f (qD (some (.int (u_dim y m))) n f) := by
  refine qSp_of (ini := false) (by decide +kernel) (fun h => nomatch h) (Nat.le_of_ble_eq_true rfl) ?_
  show qR _ _ _ 0 [(0, .int y), (1, .int m)] [] _ _ _ _
  refine qr_iload_n (pc := 0) d_al_daysInMonth_0 rfl rfl ?_
  refine qr_iconst (v := 2) (pc := 1) d_al_daysInMonth_1 (by decide) ?_
  refine qr_icmp_ne (tgt := 20) (pc := 2) d_al_daysInMonth_2 (by decide) (fun h2 => ?_) (fun h2 => ?_)
  · skip
    refine qr_iload_n (pc := 20) d_al_daysInMonth_20 rfl rfl ?_
    refine qr_iconst (v := 4) (pc := 21) d_al_daysInMonth_21 (by decide) ?_
    refine qr_icmp_eq (tgt := 43) (pc := 22) d_al_daysInMonth_22 (by decide) (fun h22 => ?_) (fun h22 => ?_)
    · skip
      refine qr_bipush (v := 30) (pc := 43) d_al_daysInMonth_43 (by decide) ?_
      refine qr_goto (tgt := 50) (pc := 45) d_al_daysInMonth_45 (by decide) ?_
      exact qr_iret (pc := 50) d_al_daysInMonth_50 rfl rfl ⟨(by simp [u_dim, *]), rfl, rfl⟩ (Nat.zero_le _) (Nat.zero_le _)
    · skip
      refine qr_iload_n (pc := 25) d_al_daysInMonth_25 rfl rfl ?_
      refine qr_bipush (v := 6) (pc := 26) d_al_daysInMonth_26 (by decide) ?_
      refine qr_icmp_eq (tgt := 43) (pc := 28) d_al_daysInMonth_28 (by decide) (fun h28 => ?_) (fun h28 => ?_)
      · skip
        refine qr_bipush (v := 30) (pc := 43) d_al_daysInMonth_43 (by decide) ?_
        refine qr_goto (tgt := 50) (pc := 45) d_al_daysInMonth_45 (by decide) ?_
        exact qr_iret (pc := 50) d_al_daysInMonth_50 rfl rfl ⟨(by simp [u_dim, *]), rfl, rfl⟩ (Nat.zero_le _) (Nat.zero_le _)
      · skip
        refine qr_iload_n (pc := 31) d_al_daysInMonth_31 rfl rfl ?_
        refine qr_bipush (v := 9) (pc := 32) d_al_daysInMonth_32 (by decide) ?_
        refine qr_icmp_eq (tgt := 43) (pc := 34) d_al_daysInMonth_34 (by decide) (fun h34 => ?_) (fun h34 => ?_)
        · skip
          refine qr_bipush (v := 30) (pc := 43) d_al_daysInMonth_43 (by decide) ?_
          refine qr_goto (tgt := 50) (pc := 45) d_al_daysInMonth_45 (by decide) ?_
          exact qr_iret (pc := 50) d_al_daysInMonth_50 rfl rfl ⟨(by simp [u_dim, *]), rfl, rfl⟩ (Nat.zero_le _) (Nat.zero_le _)
        · skip
          refine qr_iload_n (pc := 37) d_al_daysInMonth_37 rfl rfl ?_
          refine qr_bipush (v := 11) (pc := 38) d_al_daysInMonth_38 (by decide) ?_
          refine qr_icmp_ne (tgt := 48) (pc := 40) d_al_daysInMonth_40 (by decide) (fun h40 => ?_) (fun h40 => ?_)
          · skip
            refine qr_bipush (v := 31) (pc := 48) d_al_daysInMonth_48 (by decide) ?_
            exact qr_iret (pc := 50) d_al_daysInMonth_50 rfl rfl ⟨(by simp [u_dim, *]), rfl, rfl⟩ (Nat.zero_le _) (Nat.zero_le _)
          · skip
            refine qr_bipush (v := 30) (pc := 43) d_al_daysInMonth_43 (by decide) ?_
            refine qr_goto (tgt := 50) (pc := 45) d_al_daysInMonth_45 (by decide) ?_
            exact qr_iret (pc := 50) d_al_daysInMonth_50 rfl rfl ⟨(by simp [u_dim, *]), rfl, rfl⟩ (Nat.zero_le _) (Nat.zero_le _)
  · skip
    refine qr_iload_n (pc := 5) d_al_daysInMonth_5 rfl rfl ?_
    refine qr_callS (As := [.int y]) (pc := 6) d_al_daysInMonth_6 lk_al_23 sm_al_isLeapYear (s_al_isLeapYear _ x _ _ y) rfl rfl (Nat.le_of_ble_eq_true rfl) (Nat.le_of_ble_eq_true rfl) (Nat.le_of_ble_eq_true rfl) (Nat.zero_le _) (Nat.zero_le _) (fun h => ⟨h, rfl, Or.inl rfl⟩) (fun v n9 f9 hE6 => ?_)
    obtain ⟨rfl, rfl, rfl⟩ := hE6
    refine qr_if_eq (tgt := 17) (pc := 9) d_al_daysInMonth_9 (by decide) (fun h9 => ?_) (fun h9 => ?_)
    · skip
      refine qr_bipush (v := 28) (pc := 17) d_al_daysInMonth_17 (by decide) ?_
      exact qr_iret (pc := 19) d_al_daysInMonth_19 rfl rfl ⟨(by simp [u_dim, *]), rfl, rfl⟩ (Nat.zero_le _) (Nat.zero_le _)
    · skip
      refine qr_bipush (v := 29) (pc := 12) d_al_daysInMonth_12 (by decide) ?_
      refine qr_goto (tgt := 19) (pc := 14) d_al_daysInMonth_14 (by decide) ?_
      exact qr_iret (pc := 19) d_al_daysInMonth_19 rfl rfl ⟨(by simp [u_dim, *]), rfl, rfl⟩ (Nat.zero_le _) (Nat.zero_le _)
set_option maxRecDepth 10000 in
theorem s_al_firstDayOfYear (l : Launch) (x : Bool) (n : Nat) (f : Nat → va_E) (y : Int32) : qSp l y_al_firstDayOfYear b_al_firstDayOfYear 3 (some .int) x 1 0 0 [.int y] n f (qD (some (.int (u_fdy y))) n f) := by
  refine qSp_of (ini := false) (by decide +kernel) (fun h => nomatch h) (Nat.le_of_ble_eq_true rfl) ?_
  show qR _ _ _ 0 [(0, .int y)] [] _ _ _ _
  refine qr_iload_n (pc := 0) d_al_firstDayOfYear_0 rfl rfl ?_
  refine qr_sipush (v := 2000) (pc := 1) d_al_firstDayOfYear_1 (by decide) ?_
  refine qr_isub (pc := 4) d_al_firstDayOfYear_4 ?_
  refine qr_istore_n (lv' := [(1, .int (y - 2000)), (0, .int y)]) (pc := 5) d_al_firstDayOfYear_5 rfl (Nat.le_of_ble_eq_true rfl) rfl ?_
  refine qr_iload_n (pc := 6) d_al_firstDayOfYear_6 rfl rfl ?_
  refine qr_iconst (v := 3) (pc := 7) d_al_firstDayOfYear_7 (by decide) ?_
  refine qr_iadd (pc := 8) d_al_firstDayOfYear_8 ?_
  refine qr_iconst (v := 4) (pc := 9) d_al_firstDayOfYear_9 (by decide) ?_
  refine qr_idiv (pc := 10) d_al_firstDayOfYear_10 (by decide) ?_
  refine qr_iload_n (pc := 11) d_al_firstDayOfYear_11 rfl rfl ?_
  refine qr_bipush (v := 99) (pc := 12) d_al_firstDayOfYear_12 (by decide) ?_
  refine qr_iadd (pc := 14) d_al_firstDayOfYear_14 ?_
  refine qr_bipush (v := 100) (pc := 15) d_al_firstDayOfYear_15 (by decide) ?_
  refine qr_idiv (pc := 17) d_al_firstDayOfYear_17 (by decide) ?_
  refine qr_isub (pc := 18) d_al_firstDayOfYear_18 ?_
  refine qr_iload_n (pc := 19) d_al_firstDayOfYear_19 rfl rfl ?_
  refine qr_sipush (v := 399) (pc := 20) d_al_firstDayOfYear_20 (by decide) ?_
  refine qr_iadd (pc := 23) d_al_firstDayOfYear_23 ?_
  refine qr_sipush (v := 400) (pc := 24) d_al_firstDayOfYear_24 (by decide) ?_
  refine qr_idiv (pc := 27) d_al_firstDayOfYear_27 (by decide) ?_
  refine qr_iadd (pc := 28) d_al_firstDayOfYear_28 ?_
  refine qr_istore_n (lv' := [(2, .int (((((y - 2000) + 3) / 4) - (((y - 2000) + 99) / 100)) + (((y - 2000) + 399) / 400))), (1, .int (y - 2000)), (0, .int y)]) (pc := 29) d_al_firstDayOfYear_29 rfl (Nat.le_of_ble_eq_true rfl) rfl ?_
  refine qr_sipush (v := 365) (pc := 30) d_al_firstDayOfYear_30 (by decide) ?_
  refine qr_iload_n (pc := 33) d_al_firstDayOfYear_33 rfl rfl ?_
  refine qr_imul (pc := 34) d_al_firstDayOfYear_34 ?_
  refine qr_iload_n (pc := 35) d_al_firstDayOfYear_35 rfl rfl ?_
  refine qr_iadd (pc := 36) d_al_firstDayOfYear_36 ?_
  exact qr_iret (pc := 37) d_al_firstDayOfYear_37 rfl rfl ⟨rfl, rfl, rfl⟩ (Nat.zero_le _) (Nat.zero_le _)
set_option maxRecDepth 10000 in
theorem s_al_firstDayOf (l : Launch) (x : Bool) (n : Nat) (f : Nat → va_E) (p : Int32) (b : Nat) (hb : (p - p / 12 * 12) + 1 = nI (b + 1)) (hb2 : b ≤ 11) : qSp l y_al_firstDayOf b_al_firstDayOf 4 (some .int) x 3 0 0 [.int p] n f (qD (some (.int (u_md (2000 + p / 12) b))) n f) := by
  refine qSp_of (ini := false) (by decide +kernel) (fun h => nomatch h) (Nat.le_of_ble_eq_true rfl) ?_
  show qR _ _ _ 0 [(0, .int p)] [] _ _ _ _
  refine qr_iload_n (pc := 0) d_al_firstDayOf_0 rfl rfl ?_
  refine qr_callS (As := [.int p]) (pc := 1) d_al_firstDayOf_1 lk_al_9 sm_al_yearOf (s_al_yearOf _ x _ _ p) rfl rfl (Nat.le_of_ble_eq_true rfl) (Nat.le_of_ble_eq_true rfl) (Nat.le_of_ble_eq_true rfl) (Nat.zero_le _) (Nat.zero_le _) (fun h => ⟨h, rfl, Or.inl rfl⟩) (fun v n9 f9 hE1 => ?_)
  obtain ⟨rfl, rfl, rfl⟩ := hE1
  refine qr_istore_n (lv' := [(1, .int (2000 + p / 12)), (0, .int p)]) (pc := 4) d_al_firstDayOf_4 rfl (Nat.le_of_ble_eq_true rfl) rfl ?_
  refine qr_iload_n (pc := 5) d_al_firstDayOf_5 rfl rfl ?_
  refine qr_callS (As := [.int (2000 + p / 12)]) (pc := 6) d_al_firstDayOf_6 lk_al_13 sm_al_firstDayOfYear (s_al_firstDayOfYear _ x _ _ (2000 + p / 12)) rfl rfl (Nat.le_of_ble_eq_true rfl) (Nat.le_of_ble_eq_true rfl) (Nat.le_of_ble_eq_true rfl) (Nat.zero_le _) (Nat.zero_le _) (fun h => ⟨h, rfl, Or.inl rfl⟩) (fun v n9 f9 hE6 => ?_)
  obtain ⟨rfl, rfl, rfl⟩ := hE6
  refine qr_istore_n (lv' := [(2, .int (u_fdy (2000 + p / 12))), (1, .int (2000 + p / 12)), (0, .int p)]) (pc := 9) d_al_firstDayOf_9 rfl (Nat.le_of_ble_eq_true rfl) rfl ?_
  refine qr_iconst (v := 1) (pc := 10) d_al_firstDayOf_10 (by decide) ?_
  refine qr_istore_n (lv' := [(3, .int 1), (2, .int (u_fdy (2000 + p / 12))), (1, .int (2000 + p / 12)), (0, .int p)]) (pc := 11) d_al_firstDayOf_11 rfl (Nat.le_of_ble_eq_true rfl) rfl ?_
  have loop12 : ∀ (j k : Nat), b - k < j → k ≤ b → qR (l, y_al_firstDayOf.cls, b_al_firstDayOf, 4, (some .int), false, x, 3, 0, 0, n, q0) (qD (some (.int (u_md (2000 + p / 12) b))) n f) (fun _ _ _ => False) 12 [(3, .int (nI (k + 1))), (2, .int (u_md (2000 + p / 12) k)), (1, .int (2000 + p / 12)), (0, .int p)] [] n 0 0 f := by
    intro j
    induction j with
    | zero => intro k hj; omega
    | succ j ih =>
    intro k hj hk
    refine qr_iload_n (pc := 12) d_al_firstDayOf_12 rfl rfl ?_
    refine qr_iload_n (pc := 13) d_al_firstDayOf_13 rfl rfl ?_
    refine qr_callS (As := [.int p]) (pc := 14) d_al_firstDayOf_14 lk_al_16 sm_al_monthOf (s_al_monthOf _ x _ _ p) rfl rfl (Nat.le_of_ble_eq_true rfl) (Nat.le_of_ble_eq_true rfl) (Nat.le_of_ble_eq_true rfl) (Nat.zero_le _) (Nat.zero_le _) (fun h => ⟨h, rfl, Or.inl rfl⟩) (fun v n9 f9 hE14 => ?_)
    obtain ⟨rfl, rfl, rfl⟩ := hE14
    refine qr_icmp_ge (tgt := 34) (pc := 17) d_al_firstDayOf_17 (by decide) (fun h17 => ?_) (fun h17 => ?_)
    · skip
      have hkb : k = b := by
        rw [hb] at h17
        have := (nI_leI (a := b + 1) (b := k + 1) (by omega) (by omega)).mp h17
        omega
      subst hkb
      refine qr_iload_n (pc := 34) d_al_firstDayOf_34 rfl rfl ?_
      exact qr_iret (pc := 35) d_al_firstDayOf_35 rfl rfl ⟨rfl, rfl, rfl⟩ (Nat.zero_le _) (Nat.zero_le _)
    · skip
      have hkb : k < b := by
        rw [hb] at h17
        have := mt (nI_leI (a := b + 1) (b := k + 1) (by omega) (by omega)).mpr h17
        omega
      refine qr_iload_n (pc := 20) d_al_firstDayOf_20 rfl rfl ?_
      refine qr_iload_n (pc := 21) d_al_firstDayOf_21 rfl rfl ?_
      refine qr_iload_n (pc := 22) d_al_firstDayOf_22 rfl rfl ?_
      refine qr_callS (As := [.int (2000 + p / 12), .int (nI (k + 1))]) (pc := 23) d_al_firstDayOf_23 lk_al_19 sm_al_daysInMonth (s_al_daysInMonth _ x _ _ (2000 + p / 12) (nI (k + 1))) rfl rfl (Nat.le_of_ble_eq_true rfl) (Nat.le_of_ble_eq_true rfl) (Nat.le_of_ble_eq_true rfl) (Nat.zero_le _) (Nat.zero_le _) (fun h => ⟨h, rfl, Or.inl rfl⟩) (fun v n9 f9 hE23 => ?_)
      obtain ⟨rfl, rfl, rfl⟩ := hE23
      refine qr_iadd (pc := 26) d_al_firstDayOf_26 ?_
      refine qr_istore_n (lv' := [(2, .int ((u_md (2000 + p / 12) k) + (u_dim (2000 + p / 12) (nI (k + 1))))), (3, .int (nI (k + 1))), (1, .int (2000 + p / 12)), (0, .int p)]) (pc := 27) d_al_firstDayOf_27 rfl (Nat.le_of_ble_eq_true rfl) rfl ?_
      refine qr_iinc (v := nI ((k + 1) + 1)) (lv' := [(3, .int (nI ((k + 1) + 1))), (2, .int ((u_md (2000 + p / 12) k) + (u_dim (2000 + p / 12) (nI (k + 1))))), (1, .int (2000 + p / 12)), (0, .int p)]) (pc := 28) d_al_firstDayOf_28 rfl (nI_1 (k + 1)) (Nat.le_of_ble_eq_true rfl) rfl ?_
      refine qr_goto (tgt := 12) (pc := 31) d_al_firstDayOf_31 (by decide) ?_
      exact qR_st (by simp [u_md, *]) rfl rfl (ih (k + 1) (by omega) (by omega))
  exact loop12 (b + 1) 0 (by omega) (by omega)
set_option maxRecDepth 10000 in
theorem s_al_periodOf (l : Launch) (x : Bool) (n : Nat) (f : Nat → va_E) (day : Int32) (y0 Y b : Nat) (hy0 : 2000 + day / 366 = nI y0) (hy1 : y0 ≤ Y) (hy2 : Y ≤ 2400) (hy3 : ∀ y, y0 ≤ y → y < Y → u_fdy (nI y + 1) ≤ day) (hy4 : Y < 2400 → ¬ u_fdy (nI Y + 1) ≤ day) (hb2 : b ≤ 11) (hb3 : ∀ k, k < b → u_dim (nI Y) (nI (k + 1)) ≤ u_lf (day - u_fdy (nI Y)) (nI Y) k) (hb4 : b < 11 → ¬ u_dim (nI Y) (nI (b + 1)) ≤ u_lf (day - u_fdy (nI Y)) (nI Y) b) : qSp l y_al_periodOf b_al_periodOf 4 (some .int) x 3 0 0 [.int day] n f (qD (some (.int ((nI Y - 2000) * 12 + nI (b + 1) - 1))) n f) := by
  refine qSp_of (ini := false) (by decide +kernel) (fun h => nomatch h) (Nat.le_of_ble_eq_true rfl) ?_
  show qR _ _ _ 0 [(0, .int day)] [] _ _ _ _
  have join33 : qR (l, y_al_periodOf.cls, b_al_periodOf, 4, (some .int), false, x, 3, 0, 0, n, q0) (qD (some (.int ((nI Y - 2000) * 12 + nI (b + 1) - 1))) n f) (fun _ _ _ => False) 33 [(1, .int (nI Y)), (0, .int day)] [] n 0 0 f := by
    skip
    refine qr_iconst (v := 1) (pc := 33) d_al_periodOf_33 (by decide) ?_
    refine qr_istore_n (lv' := [(2, .int 1), (1, .int (nI Y)), (0, .int day)]) (pc := 34) d_al_periodOf_34 rfl (Nat.le_of_ble_eq_true rfl) rfl ?_
    refine qr_iload_n (pc := 35) d_al_periodOf_35 rfl rfl ?_
    refine qr_iload_n (pc := 36) d_al_periodOf_36 rfl rfl ?_
    refine qr_callS (As := [.int (nI Y)]) (pc := 37) d_al_periodOf_37 lk_al_13 sm_al_firstDayOfYear (s_al_firstDayOfYear _ x _ _ (nI Y)) rfl rfl (Nat.le_of_ble_eq_true rfl) (Nat.le_of_ble_eq_true rfl) (Nat.le_of_ble_eq_true rfl) (Nat.zero_le _) (Nat.zero_le _) (fun h => ⟨h, rfl, Or.inl rfl⟩) (fun v n9 f9 hE37 => ?_)
    obtain ⟨rfl, rfl, rfl⟩ := hE37
    refine qr_isub (pc := 40) d_al_periodOf_40 ?_
    refine qr_istore_n (lv' := [(3, .int (day - (u_fdy (nI Y)))), (2, .int 1), (1, .int (nI Y)), (0, .int day)]) (pc := 41) d_al_periodOf_41 rfl (Nat.le_of_ble_eq_true rfl) rfl ?_
    have loop42 : ∀ (j k : Nat), b - k < j → k ≤ b → qR (l, y_al_periodOf.cls, b_al_periodOf, 4, (some .int), false, x, 3, 0, 0, n, q0) (qD (some (.int ((nI Y - 2000) * 12 + nI (b + 1) - 1))) n f) (fun _ _ _ => False) 42 [(2, .int (nI (k + 1))), (3, .int (u_lf (day - u_fdy (nI Y)) (nI Y) k)), (1, .int (nI Y)), (0, .int day)] [] n 0 0 f := by
      intro j
      induction j with
      | zero => intro k hj; omega
      | succ j ih =>
      intro k hj hk
      refine qr_iload_n (pc := 42) d_al_periodOf_42 rfl rfl ?_
      refine qr_bipush (v := 12) (pc := 43) d_al_periodOf_43 (by decide) ?_
      refine qr_icmp_ge (tgt := 71) (pc := 45) d_al_periodOf_45 (by decide) (fun h45 => ?_) (fun h45 => ?_)
      · skip
        have hkb : k = b := by
          have := (nI_leI (a := 12) (b := k + 1) (by omega) (by omega)).mp h45
          omega
        subst hkb
        refine qr_iload_n (pc := 71) d_al_periodOf_71 rfl rfl ?_
        refine qr_sipush (v := 2000) (pc := 72) d_al_periodOf_72 (by decide) ?_
        refine qr_isub (pc := 75) d_al_periodOf_75 ?_
        refine qr_bipush (v := 12) (pc := 76) d_al_periodOf_76 (by decide) ?_
        refine qr_imul (pc := 78) d_al_periodOf_78 ?_
        refine qr_iload_n (pc := 79) d_al_periodOf_79 rfl rfl ?_
        refine qr_iadd (pc := 80) d_al_periodOf_80 ?_
        refine qr_iconst (v := 1) (pc := 81) d_al_periodOf_81 (by decide) ?_
        refine qr_isub (pc := 82) d_al_periodOf_82 ?_
        exact qr_iret (pc := 83) d_al_periodOf_83 rfl rfl ⟨rfl, rfl, rfl⟩ (Nat.zero_le _) (Nat.zero_le _)
      · skip
        refine qr_iload_n (pc := 48) d_al_periodOf_48 rfl rfl ?_
        refine qr_iload_n (pc := 49) d_al_periodOf_49 rfl rfl ?_
        refine qr_iload_n (pc := 50) d_al_periodOf_50 rfl rfl ?_
        refine qr_callS (As := [.int (nI Y), .int (nI (k + 1))]) (pc := 51) d_al_periodOf_51 lk_al_19 sm_al_daysInMonth (s_al_daysInMonth _ x _ _ (nI Y) (nI (k + 1))) rfl rfl (Nat.le_of_ble_eq_true rfl) (Nat.le_of_ble_eq_true rfl) (Nat.le_of_ble_eq_true rfl) (Nat.zero_le _) (Nat.zero_le _) (fun h => ⟨h, rfl, Or.inl rfl⟩) (fun v n9 f9 hE51 => ?_)
        obtain ⟨rfl, rfl, rfl⟩ := hE51
        refine qr_icmp_lt (tgt := 71) (pc := 54) d_al_periodOf_54 (by decide) (fun h54 => ?_) (fun h54 => ?_)
        · skip
          have hkb : k = b := by
            rcases Nat.lt_or_ge k b with q | q
            · exact absurd (hb3 k q) (Int32.not_le.mpr h54)
            · omega
          subst hkb
          refine qr_iload_n (pc := 71) d_al_periodOf_71 rfl rfl ?_
          refine qr_sipush (v := 2000) (pc := 72) d_al_periodOf_72 (by decide) ?_
          refine qr_isub (pc := 75) d_al_periodOf_75 ?_
          refine qr_bipush (v := 12) (pc := 76) d_al_periodOf_76 (by decide) ?_
          refine qr_imul (pc := 78) d_al_periodOf_78 ?_
          refine qr_iload_n (pc := 79) d_al_periodOf_79 rfl rfl ?_
          refine qr_iadd (pc := 80) d_al_periodOf_80 ?_
          refine qr_iconst (v := 1) (pc := 81) d_al_periodOf_81 (by decide) ?_
          refine qr_isub (pc := 82) d_al_periodOf_82 ?_
          exact qr_iret (pc := 83) d_al_periodOf_83 rfl rfl ⟨rfl, rfl, rfl⟩ (Nat.zero_le _) (Nat.zero_le _)
        · skip
          have hkb : k < b := by
            rcases Nat.lt_or_ge k b with q | q
            · exact q
            · have e : k = b := by omega
              subst e
              exact absurd (Int32.not_lt.mp h54) (hb4 (by
                have := mt (nI_leI (a := 12) (b := k + 1) (by omega) (by omega)).mpr h45
                omega))
          refine qr_iload_n (pc := 57) d_al_periodOf_57 rfl rfl ?_
          refine qr_iload_n (pc := 58) d_al_periodOf_58 rfl rfl ?_
          refine qr_iload_n (pc := 59) d_al_periodOf_59 rfl rfl ?_
          refine qr_callS (As := [.int (nI Y), .int (nI (k + 1))]) (pc := 60) d_al_periodOf_60 lk_al_19 sm_al_daysInMonth (s_al_daysInMonth _ x _ _ (nI Y) (nI (k + 1))) rfl rfl (Nat.le_of_ble_eq_true rfl) (Nat.le_of_ble_eq_true rfl) (Nat.le_of_ble_eq_true rfl) (Nat.zero_le _) (Nat.zero_le _) (fun h => ⟨h, rfl, Or.inl rfl⟩) (fun v n9 f9 hE60 => ?_)
          obtain ⟨rfl, rfl, rfl⟩ := hE60
          refine qr_isub (pc := 63) d_al_periodOf_63 ?_
          refine qr_istore_n (lv' := [(3, .int ((u_lf (day - u_fdy (nI Y)) (nI Y) k) - (u_dim (nI Y) (nI (k + 1))))), (2, .int (nI (k + 1))), (1, .int (nI Y)), (0, .int day)]) (pc := 64) d_al_periodOf_64 rfl (Nat.le_of_ble_eq_true rfl) rfl ?_
          refine qr_iinc (v := nI ((k + 1) + 1)) (lv' := [(2, .int (nI ((k + 1) + 1))), (3, .int ((u_lf (day - u_fdy (nI Y)) (nI Y) k) - (u_dim (nI Y) (nI (k + 1))))), (1, .int (nI Y)), (0, .int day)]) (pc := 65) d_al_periodOf_65 rfl (nI_1 (k + 1)) (Nat.le_of_ble_eq_true rfl) rfl ?_
          refine qr_goto (tgt := 42) (pc := 68) d_al_periodOf_68 (by decide) ?_
          exact qR_st (by simp [u_lf, *]) rfl rfl (ih (k + 1) (by omega) (by omega))
    refine qR_sub (lv' := [(2, .int 1), (3, .int (day - (u_fdy (nI Y)))), (1, .int (nI Y)), (0, .int day)]) [1, 0, 2, 3] rfl ?_
    exact loop42 (b + 1) 0 (by omega) (by omega)
  refine qr_sipush (v := 2000) (pc := 0) d_al_periodOf_0 (by decide) ?_
  refine qr_iload_n (pc := 3) d_al_periodOf_3 rfl rfl ?_
  refine qr_sipush (v := 366) (pc := 4) d_al_periodOf_4 (by decide) ?_
  refine qr_idiv (pc := 7) d_al_periodOf_7 (by decide) ?_
  refine qr_iadd (pc := 8) d_al_periodOf_8 ?_
  refine qr_istore_n (lv' := [(1, .int (2000 + (day / 366))), (0, .int day)]) (pc := 9) d_al_periodOf_9 rfl (Nat.le_of_ble_eq_true rfl) rfl ?_
  have loop10 : ∀ (j y : Nat), Y - y < j → y0 ≤ y → y ≤ Y → qR (l, y_al_periodOf.cls, b_al_periodOf, 4, (some .int), false, x, 3, 0, 0, n, q0) (qD (some (.int ((nI Y - 2000) * 12 + nI (b + 1) - 1))) n f) (fun _ _ _ => False) 10 [(1, .int (nI y)), (0, .int day)] [] n 0 0 f := by
    intro j
    induction j with
    | zero => intro y hj; omega
    | succ j ih =>
    intro y hj hk0 hk
    refine qr_iload_n (pc := 10) d_al_periodOf_10 rfl rfl ?_
    refine qr_sipush (v := 2400) (pc := 11) d_al_periodOf_11 (by decide) ?_
    refine qr_icmp_ge (tgt := 33) (pc := 14) d_al_periodOf_14 (by decide) (fun h14 => ?_) (fun h14 => ?_)
    · skip
      have hyY : y = Y := by
        have := (nI_leI (a := 2400) (b := y) (by omega) (by omega)).mp h14
        omega
      subst hyY
      exact join33
    · skip
      refine qr_iload_n (pc := 17) d_al_periodOf_17 rfl rfl ?_
      refine qr_iconst (v := 1) (pc := 18) d_al_periodOf_18 (by decide) ?_
      refine qr_iadd (pc := 19) d_al_periodOf_19 ?_
      refine qr_callS (As := [.int ((nI y) + 1)]) (pc := 20) d_al_periodOf_20 lk_al_13 sm_al_firstDayOfYear (s_al_firstDayOfYear _ x _ _ ((nI y) + 1)) rfl rfl (Nat.le_of_ble_eq_true rfl) (Nat.le_of_ble_eq_true rfl) (Nat.le_of_ble_eq_true rfl) (Nat.zero_le _) (Nat.zero_le _) (fun h => ⟨h, rfl, Or.inl rfl⟩) (fun v n9 f9 hE20 => ?_)
      obtain ⟨rfl, rfl, rfl⟩ := hE20
      refine qr_iload_n (pc := 23) d_al_periodOf_23 rfl rfl ?_
      refine qr_icmp_gt (tgt := 33) (pc := 24) d_al_periodOf_24 (by decide) (fun h24 => ?_) (fun h24 => ?_)
      · skip
        have hyY : y = Y := by
          rcases Nat.lt_or_ge y Y with q | q
          · exact absurd (hy3 y hk0 q) (Int32.not_le.mpr h24)
          · omega
        subst hyY
        exact join33
      · skip
        have hyY : y < Y := by
          rcases Nat.lt_or_ge y Y with q | q
          · exact q
          · have e : y = Y := by omega
            subst e
            exact absurd (Int32.not_lt.mp h24) (hy4 (by
              have := mt (nI_leI (a := 2400) (b := y) (by omega) (by omega)).mpr h14
              omega))
        refine qr_iinc (v := nI (y + 1)) (lv' := [(1, .int (nI (y + 1))), (0, .int day)]) (pc := 27) d_al_periodOf_27 rfl (nI_1 y) (Nat.le_of_ble_eq_true rfl) rfl ?_
        refine qr_goto (tgt := 10) (pc := 30) d_al_periodOf_30 (by decide) ?_
        exact ih (y + 1) (by omega) (by omega) (by omega)
  exact qR_st (by rw [hy0]) rfl rfl (loop10 (Y - y0 + 1) y0 (by omega) (by omega) (by omega))
