/-! BillForge$EventLog: object 9, rows 10 to 13; z of them -/
def u_any (a : Nat → Int32) (x : Int32) : Nat → Bool
  | 0 => false
  | k + 1 => u_any a x k || a k == x
theorem u_any_hit {a : Nat → Int32} {x : Int32} {k : Nat} (h : a k = x) : ∀ z, k < z → u_any a x z = true
  | z + 1, hz => by
    by_cases e : k = z
    · subst e; simp [u_any, h]
    · simp [u_any, u_any_hit h z (by omega)]
set_option maxRecDepth 10000 in
theorem s_ev_size (l : Launch) (x : Bool) (I : Nat → Nat → Int32) (L : Nat → Nat → Int64) (z : Nat) (hz : I 9 4 = nI z) (hz2 : z ≤ 80) : qSp l y_ev_size b_ev_size 1 (some .int) x 1 0 0 [.ref 9] 77 (fm I L) (qD (some (.int (nI z))) 77 (fm I L)) := by
  refine qSp_of (ini := false) (by decide +kernel) (fun h => nomatch h) (Nat.le_of_ble_eq_true rfl) ?_
  show qR _ _ _ 0 [(0, .ref 9)] [] _ _ _ _
  refine qr_aload_n (pc := 0) d_ev_size_0 rfl rfl ?_
  refine qr_get (v := .int (nI z)) (pc := 1) d_ev_size_1 fl_ev_22 (by decide) (by decide) (c_9 _ _) (congrArg (fun t => some (Value.int t)) hz) ?_
  exact qr_iret (pc := 4) d_ev_size_4 rfl rfl ⟨rfl, rfl, rfl⟩ (Nat.zero_le _) (Nat.zero_le _)
set_option maxRecDepth 10000 in
theorem s_ev_isFull (l : Launch) (x : Bool) (I : Nat → Nat → Int32) (L : Nat → Nat → Int64) (z : Nat) (hz : I 9 4 = nI z) (hz2 : z ≤ 80) : qSp l y_ev_isFull b_ev_isFull 1 (some .boolean) x 1 0 0 [.ref 9] 77 (fm I L) (qD (some (.int (if 80 ≤ nI z then 1 else 0))) 77 (fm I L)) := by
  refine qSp_of (ini := false) (by decide +kernel) (fun h => nomatch h) (Nat.le_of_ble_eq_true rfl) ?_
  show qR _ _ _ 0 [(0, .ref 9)] [] _ _ _ _
  refine qr_aload_n (pc := 0) d_ev_isFull_0 rfl rfl ?_
  refine qr_get (v := .int (nI z)) (pc := 1) d_ev_isFull_1 fl_ev_22 (by decide) (by decide) (c_9 _ _) (congrArg (fun t => some (Value.int t)) hz) ?_
  refine qr_bipush (v := 80) (pc := 4) d_ev_isFull_4 (by decide) ?_
  refine qr_icmp_lt (tgt := 13) (pc := 6) d_ev_isFull_6 (by decide) (fun h6 => ?_) (fun h6 => ?_)
  · skip
    refine qr_iconst (v := 0) (pc := 13) d_ev_isFull_13 (by decide) ?_
    exact qr_iret (pc := 14) d_ev_isFull_14 rfl rfl ⟨(by simp [*]), rfl, rfl⟩ (Nat.zero_le _) (Nat.zero_le _)
  · skip
    refine qr_iconst (v := 1) (pc := 9) d_ev_isFull_9 (by decide) ?_
    refine qr_goto (tgt := 14) (pc := 10) d_ev_isFull_10 (by decide) ?_
    exact qr_iret (pc := 14) d_ev_isFull_14 rfl rfl ⟨(by simp [*]), rfl, rfl⟩ (Nat.zero_le _) (Nat.zero_le _)
set_option maxRecDepth 10000 in
theorem s_ev_has (l : Launch) (x : Bool) (I : Nat → Nat → Int32) (L : Nat → Nat → Int64) (z : Nat) (hz : I 9 4 = nI z) (hz2 : z ≤ 80) (key : Int32) : qSp l y_ev_has b_ev_has 3 (some .boolean) x 1 0 0 [.ref 9, .int key] 77 (fm I L) (qD (some (.int (if u_any (I 10) key z = true then 1 else 0))) 77 (fm I L)) := by
  refine qSp_of (ini := false) (by decide +kernel) (fun h => nomatch h) (Nat.le_of_ble_eq_true rfl) ?_
  show qR _ _ _ 0 [(0, .ref 9), (1, .int key)] [] _ _ _ _
  refine qr_iconst (v := 0) (pc := 0) d_ev_has_0 (by decide) ?_
  refine qr_istore_n (lv' := [(2, .int 0), (0, .ref 9), (1, .int key)]) (pc := 1) d_ev_has_1 rfl (Nat.le_of_ble_eq_true rfl) rfl ?_
  have loop2 : ∀ (j k : Nat), z - k < j → k ≤ z → u_any (I 10) key k = false → qR (l, y_ev_has.cls, b_ev_has, 3, (some .boolean), false, x, 1, 0, 0, 77, q0) (qD (some (.int (if u_any (I 10) key z = true then 1 else 0))) 77 (fm I L)) (fun _ _ _ => False) 2 [(2, .int (nI k)), (0, .ref 9), (1, .int key)] [] 77 0 0 (fm I L) := by
    intro j
    induction j with
    | zero => intro k hj; omega
    | succ j ih =>
    intro k hjj hk hu
    refine qr_iload_n (pc := 2) d_ev_has_2 rfl rfl ?_
    refine qr_aload_n (pc := 3) d_ev_has_3 rfl rfl ?_
    refine qr_get (v := .int (nI z)) (pc := 4) d_ev_has_4 fl_ev_22 (by decide) (by decide) (c_9 _ _) (congrArg (fun t => some (Value.int t)) hz) ?_
    refine qr_icmp_ge (tgt := 28) (pc := 7) d_ev_has_7 (by decide) (fun h7 => ?_) (fun h7 => ?_)
    · skip
      have hkz : z = k := by
        have := (nI_leI (a := z) (b := k) (by omega) (by omega)).mp h7
        omega
      subst hkz
      refine qr_iconst (v := 0) (pc := 28) d_ev_has_28 (by decide) ?_
      exact qr_iret (pc := 29) d_ev_has_29 rfl rfl ⟨(by simp [hu]), rfl, rfl⟩ (Nat.zero_le _) (Nat.zero_le _)
    · skip
      have hkz : k < z := by
        have := mt (nI_leI (a := z) (b := k) (by omega) (by omega)).mpr h7
        omega
      refine qr_aload_n (pc := 10) d_ev_has_10 rfl rfl ?_
      refine qr_get (v := .ref 10) (pc := 11) d_ev_has_11 fl_ev_9 (by decide) (by decide) (c_9 _ _) rfl ?_
      refine qr_iload_n (pc := 14) d_ev_has_14 rfl rfl ?_
      refine qr_ialdN (j := k) (pc := 15) d_ev_has_15 (by decide) (by decide) (c_10 _ _) (by omega) (by decide) ?_
      refine qr_iload_n (pc := 16) d_ev_has_16 rfl rfl ?_
      refine qr_icmp_ne (tgt := 22) (pc := 17) d_ev_has_17 (by decide) (fun h17 => ?_) (fun h17 => ?_)
      · skip
        refine qr_iinc (v := nI (k + 1)) (lv' := [(2, .int (nI (k + 1))), (0, .ref 9), (1, .int key)]) (pc := 22) d_ev_has_22 rfl (nI_1 k) (Nat.le_of_ble_eq_true rfl) rfl ?_
        refine qr_goto (tgt := 2) (pc := 25) d_ev_has_25 (by decide) ?_
        exact qR_st (by rfl) rfl (rfl) (ih (k + 1) (by omega) (by omega) (by simp [u_any, *]))
      · skip
        refine qr_iconst (v := 1) (pc := 20) d_ev_has_20 (by decide) ?_
        exact qr_iret (pc := 21) d_ev_has_21 rfl rfl ⟨(by simp [u_any_hit h17 z hkz]), rfl, rfl⟩ (Nat.zero_le _) (Nat.zero_le _)
  exact loop2 (z + 1) 0 (by omega) (by omega) rfl
set_option maxRecDepth 10000 in
theorem s_ev_add (l : Launch) (x : Bool) (I : Nat → Nat → Int32) (L : Nat → Nat → Int64) (z : Nat) (hz : I 9 4 = nI z) (hz2 : z ≤ 80) (key c day u : Int32) : qSp l y_ev_add b_ev_add 5 none x 2 0 0 [.ref 9, .int key, .int c, .int day, .int u] 77 (fm I L) (qD none 77 (fm (if 80 ≤ nI z then I else wI (wI (wI (wI (wI I 10 z key) 11 z c) 12 z day) 13 z u) 9 4 (nI (z + 1))) L)) := by
  refine qSp_of (ini := false) (by decide +kernel) (fun h => nomatch h) (Nat.le_of_ble_eq_true rfl) ?_
  show qR _ _ _ 0 [(0, .ref 9), (1, .int key), (2, .int c), (3, .int day), (4, .int u)] [] _ _ _ _
  refine qr_aload_n (pc := 0) d_ev_add_0 rfl rfl ?_
  refine qr_callV (q := 9) (As := []) (pc := 1) d_ev_add_1 lk_ev_26 im_ev_isFull se_ev_isFull rfl (by decide) (by decide) (c_9 _ _) (s_ev_isFull _ x I L z hz hz2) rfl rfl (Nat.le_of_ble_eq_true rfl) (Nat.le_of_ble_eq_true rfl) (Nat.le_of_ble_eq_true rfl) (Nat.zero_le _) (Nat.zero_le _) (fun h => ⟨h, rfl, Or.inl rfl⟩) (fun v n9 f9 hE1 => ?_)
  obtain ⟨rfl, rfl, rfl⟩ := hE1
  refine qr_if_ne (tgt := 58) (pc := 4) d_ev_add_4 (by decide) (fun h4 => ?_) (fun h4 => ?_)
  · skip
    simp only [b01, Decidable.not_not] at h4
    exact qr_vret (pc := 58) d_ev_add_58 rfl ⟨rfl, rfl, (by simp [*, nI_1])⟩ (Nat.zero_le _) (Nat.zero_le _)
  · skip
    simp only [b01, Decidable.not_not] at h4
    have hlt : z < 80 := by
      have := mt (nI_leI (a := 80) (b := z) (by omega) (by omega)).mpr h4
      omega
    refine qr_aload_n (pc := 7) d_ev_add_7 rfl rfl ?_
    refine qr_get (v := .ref 10) (pc := 8) d_ev_add_8 fl_ev_9 (by decide) (by decide) (c_9 _ _) rfl ?_
    refine qr_aload_n (pc := 11) d_ev_add_11 rfl rfl ?_
    refine qr_get (v := .int (nI z)) (pc := 12) d_ev_add_12 fl_ev_22 (by decide) (by decide) (c_9 _ _) (congrArg (fun t => some (Value.int t)) hz) ?_
    refine qr_iload_n (pc := 15) d_ev_add_15 rfl rfl ?_
    refine qr_iastMN (j := z) (pc := 16) d_ev_add_16 (by decide) (by decide) (c_10 _ _) (by omega) (by decide) (fun w => rfl) ?_
    refine qr_aload_n (pc := 17) d_ev_add_17 rfl rfl ?_
    refine qr_get (v := .ref 11) (pc := 18) d_ev_add_18 fl_ev_13 (by decide) (by decide) (c_9 _ _) rfl ?_
    refine qr_aload_n (pc := 21) d_ev_add_21 rfl rfl ?_
    refine qr_get (v := .int (nI z)) (pc := 22) d_ev_add_22 fl_ev_22 (by decide) (by decide) (c_9 _ _) (congrArg (fun t => some (Value.int t)) hz) ?_
    refine qr_iload_n (pc := 25) d_ev_add_25 rfl rfl ?_
    refine qr_iastMN (j := z) (pc := 26) d_ev_add_26 (by decide) (by decide) (c_11 _ _) (by omega) (by decide) (fun w => rfl) ?_
    refine qr_aload_n (pc := 27) d_ev_add_27 rfl rfl ?_
    refine qr_get (v := .ref 12) (pc := 28) d_ev_add_28 fl_ev_16 (by decide) (by decide) (c_9 _ _) rfl ?_
    refine qr_aload_n (pc := 31) d_ev_add_31 rfl rfl ?_
    refine qr_get (v := .int (nI z)) (pc := 32) d_ev_add_32 fl_ev_22 (by decide) (by decide) (c_9 _ _) (congrArg (fun t => some (Value.int t)) hz) ?_
    refine qr_iload_n (pc := 35) d_ev_add_35 rfl rfl ?_
    refine qr_iastMN (j := z) (pc := 36) d_ev_add_36 (by decide) (by decide) (c_12 _ _) (by omega) (by decide) (fun w => rfl) ?_
    refine qr_aload_n (pc := 37) d_ev_add_37 rfl rfl ?_
    refine qr_get (v := .ref 13) (pc := 38) d_ev_add_38 fl_ev_19 (by decide) (by decide) (c_9 _ _) rfl ?_
    refine qr_aload_n (pc := 41) d_ev_add_41 rfl rfl ?_
    refine qr_get (v := .int (nI z)) (pc := 42) d_ev_add_42 fl_ev_22 (by decide) (by decide) (c_9 _ _) (congrArg (fun t => some (Value.int t)) hz) ?_
    refine qr_iload (pc := 45) d_ev_add_45 rfl ?_
    refine qr_iastMN (j := z) (pc := 47) d_ev_add_47 (by decide) (by decide) (c_13 _ _) (by omega) (by decide) (fun w => rfl) ?_
    refine qr_aload_n (pc := 48) d_ev_add_48 rfl rfl ?_
    refine qr_dup (pc := 49) d_ev_add_49 rfl ?_
    refine qr_get (v := .int (nI z)) (pc := 50) d_ev_add_50 fl_ev_22 (by decide) (by decide) (c_9 _ _) (congrArg (fun t => some (Value.int t)) hz) ?_
    refine qr_iconst (v := 1) (pc := 53) d_ev_add_53 (by decide) ?_
    refine qr_iadd (pc := 54) d_ev_add_54 ?_
    refine qr_putI (pc := 55) d_ev_add_55 fl_ev_22 (by decide) (by decide) (c_9 _ _) (Nat.le_of_ble_eq_true rfl) (qFit_i _) (fun w => rfl) ?_
    exact qr_vret (pc := 58) d_ev_add_58 rfl ⟨rfl, rfl, (by simp [*, nI_1])⟩ (Nat.zero_le _) (Nat.zero_le _)
set_option maxRecDepth 10000 in
theorem s_ev_customerOf (l : Launch) (x : Bool) (I : Nat → Nat → Int32) (L : Nat → Nat → Int64) (i : Nat) (hi : i < 80) : qSp l y_ev_customerOf b_ev_customerOf 2 (some .int) x 1 0 0 [.ref 9, .int (nI i)] 77 (fm I L) (qD (some (.int (I 11 i))) 77 (fm I L)) := by
  refine qSp_of (ini := false) (by decide +kernel) (fun h => nomatch h) (Nat.le_of_ble_eq_true rfl) ?_
  show qR _ _ _ 0 [(0, .ref 9), (1, .int (nI i))] [] _ _ _ _
  refine qr_aload_n (pc := 0) d_ev_customerOf_0 rfl rfl ?_
  refine qr_get (v := .ref 11) (pc := 1) d_ev_customerOf_1 fl_ev_13 (by decide) (by decide) (c_9 _ _) rfl ?_
  refine qr_iload_n (pc := 4) d_ev_customerOf_4 rfl rfl ?_
  refine qr_ialdN (j := i) (pc := 5) d_ev_customerOf_5 (by decide) (by decide) (c_11 _ _) (by omega) (by decide) ?_
  exact qr_iret (pc := 6) d_ev_customerOf_6 rfl rfl ⟨rfl, rfl, rfl⟩ (Nat.zero_le _) (Nat.zero_le _)
set_option maxRecDepth 10000 in
theorem s_ev_dayOf (l : Launch) (x : Bool) (I : Nat → Nat → Int32) (L : Nat → Nat → Int64) (i : Nat) (hi : i < 80) : qSp l y_ev_dayOf b_ev_dayOf 2 (some .int) x 1 0 0 [.ref 9, .int (nI i)] 77 (fm I L) (qD (some (.int (I 12 i))) 77 (fm I L)) := by
  refine qSp_of (ini := false) (by decide +kernel) (fun h => nomatch h) (Nat.le_of_ble_eq_true rfl) ?_
  show qR _ _ _ 0 [(0, .ref 9), (1, .int (nI i))] [] _ _ _ _
  refine qr_aload_n (pc := 0) d_ev_dayOf_0 rfl rfl ?_
  refine qr_get (v := .ref 12) (pc := 1) d_ev_dayOf_1 fl_ev_16 (by decide) (by decide) (c_9 _ _) rfl ?_
  refine qr_iload_n (pc := 4) d_ev_dayOf_4 rfl rfl ?_
  refine qr_ialdN (j := i) (pc := 5) d_ev_dayOf_5 (by decide) (by decide) (c_12 _ _) (by omega) (by decide) ?_
  exact qr_iret (pc := 6) d_ev_dayOf_6 rfl rfl ⟨rfl, rfl, rfl⟩ (Nat.zero_le _) (Nat.zero_le _)
set_option maxRecDepth 10000 in
theorem s_ev_unitsOf (l : Launch) (x : Bool) (I : Nat → Nat → Int32) (L : Nat → Nat → Int64) (i : Nat) (hi : i < 80) : qSp l y_ev_unitsOf b_ev_unitsOf 2 (some .int) x 1 0 0 [.ref 9, .int (nI i)] 77 (fm I L) (qD (some (.int (I 13 i))) 77 (fm I L)) := by
  refine qSp_of (ini := false) (by decide +kernel) (fun h => nomatch h) (Nat.le_of_ble_eq_true rfl) ?_
  show qR _ _ _ 0 [(0, .ref 9), (1, .int (nI i))] [] _ _ _ _
  refine qr_aload_n (pc := 0) d_ev_unitsOf_0 rfl rfl ?_
  refine qr_get (v := .ref 13) (pc := 1) d_ev_unitsOf_1 fl_ev_19 (by decide) (by decide) (c_9 _ _) rfl ?_
  refine qr_iload_n (pc := 4) d_ev_unitsOf_4 rfl rfl ?_
  refine qr_ialdN (j := i) (pc := 5) d_ev_unitsOf_5 (by decide) (by decide) (c_13 _ _) (by omega) (by decide) ?_
  exact qr_iret (pc := 6) d_ev_unitsOf_6 rfl rfl ⟨rfl, rfl, rfl⟩ (Nat.zero_le _) (Nat.zero_le _)
