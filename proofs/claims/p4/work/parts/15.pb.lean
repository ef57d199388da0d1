/-! shareOf; BillForge$PlanBook: object 20, rows 21 to 24; z of them -/
def u_share (a p w : Int64) : Int64 := if 1 ≤ w then a * p / w else 0
def u_pamt (I : Nat → Nat → Int32) (L : Nat → Nat → Int64) (c : Int32) : Nat → Int64
  | 0 => 0
  | k + 1 => if I 21 k = c then u_pamt I L c k + L 22 k else u_pamt I L c k
def u_earn1 (I : Nat → Nat → Int32) (L : Nat → Nat → Int64) (today : Int32) (k : Nat) : Int64 := u_share (L 22 k) (Int32.toInt64 (qmmin (today - I 24 k) (I 23 k))) (Int32.toInt64 (I 23 k))
def u_earn (I : Nat → Nat → Int32) (L : Nat → Nat → Int64) (c today : Int32) : Nat → Int64
  | 0 => 0
  | k + 1 => if I 21 k = c then u_earn I L c today k + u_earn1 I L today k else u_earn I L c today k
set_option maxRecDepth 10000 in
theorem s_bf_shareOf (l : Launch) (x : Bool) (n : Nat) (f : Nat → va_E) (a p w : Int64) : qSp l y_bf_shareOf b_bf_shareOf 6 (some .long) x 1 0 0 [.long a, .long p, .long w] n f (qD (some (.long (u_share a p w))) n f) := by
  refine qSp_of (ini := false) (by decide +kernel) (fun h => nomatch h) (Nat.le_of_ble_eq_true rfl) ?_
  show qR _ _ _ 0 [(0, .long a), (2, .long p), (4, .long w)] [] _ _ _ _
  refine qr_lload (pc := 0) d_bf_shareOf_0 rfl ?_
  refine qr_lconst (v := 1) (pc := 2) d_bf_shareOf_2 (by decide) ?_
  refine qr_lcmp (pc := 3) d_bf_shareOf_3 ?_
  refine qr_if_ge (tgt := 11) (pc := 4) d_bf_shareOf_4 (by decide) (fun h4 => ?_) (fun h4 => ?_)
  · skip
    rw [lgc_ge] at h4
    have hw : ¬ w = 0 := fun e => by subst e; exact absurd h4 (by decide)
    refine qr_lload_n (pc := 11) d_bf_shareOf_11 rfl rfl ?_
    refine qr_lload_n (pc := 12) d_bf_shareOf_12 rfl rfl ?_
    refine qr_lmul (pc := 13) d_bf_shareOf_13 ?_
    refine qr_lload (pc := 14) d_bf_shareOf_14 rfl ?_
    refine qr_ldiv (pc := 16) d_bf_shareOf_16 hw ?_
    exact qr_lret (pc := 17) d_bf_shareOf_17 rfl ⟨(by simp [u_share, *]), rfl, rfl⟩ (Nat.zero_le _) (Nat.zero_le _)
  · skip
    rw [lgc_ge] at h4
    refine qr_lconst (v := 0) (pc := 7) d_bf_shareOf_7 (by decide) ?_
    refine qr_goto (tgt := 17) (pc := 8) d_bf_shareOf_8 (by decide) ?_
    exact qr_lret (pc := 17) d_bf_shareOf_17 rfl ⟨(by simp [u_share, *]), rfl, rfl⟩ (Nat.zero_le _) (Nat.zero_le _)
set_option maxRecDepth 10000 in
theorem s_pb_size (l : Launch) (x : Bool) (I : Nat → Nat → Int32) (L : Nat → Nat → Int64) (z : Nat) (hz : I 20 4 = nI z) (hz2 : z ≤ 10) : qSp l y_pb_size b_pb_size 1 (some .int) x 1 0 0 [.ref 20] 77 (fm I L) (qD (some (.int (nI z))) 77 (fm I L)) := by
  refine qSp_of (ini := false) (by decide +kernel) (fun h => nomatch h) (Nat.le_of_ble_eq_true rfl) ?_
  show qR _ _ _ 0 [(0, .ref 20)] [] _ _ _ _
  refine qr_aload_n (pc := 0) d_pb_size_0 rfl rfl ?_
  refine qr_get (v := .int (nI z)) (pc := 1) d_pb_size_1 fl_pb_23 (by decide) (by decide) (c_20 _ _) (congrArg (fun t => some (Value.int t)) hz) ?_
  exact qr_iret (pc := 4) d_pb_size_4 rfl rfl ⟨rfl, rfl, rfl⟩ (Nat.zero_le _) (Nat.zero_le _)
set_option maxRecDepth 10000 in
theorem s_pb_isFull (l : Launch) (x : Bool) (I : Nat → Nat → Int32) (L : Nat → Nat → Int64) (z : Nat) (hz : I 20 4 = nI z) (hz2 : z ≤ 10) : qSp l y_pb_isFull b_pb_isFull 1 (some .boolean) x 1 0 0 [.ref 20] 77 (fm I L) (qD (some (.int (if 10 ≤ nI z then 1 else 0))) 77 (fm I L)) := by
  refine qSp_of (ini := false) (by decide +kernel) (fun h => nomatch h) (Nat.le_of_ble_eq_true rfl) ?_
  show qR _ _ _ 0 [(0, .ref 20)] [] _ _ _ _
  refine qr_aload_n (pc := 0) d_pb_isFull_0 rfl rfl ?_
  refine qr_get (v := .int (nI z)) (pc := 1) d_pb_isFull_1 fl_pb_23 (by decide) (by decide) (c_20 _ _) (congrArg (fun t => some (Value.int t)) hz) ?_
  refine qr_bipush (v := 10) (pc := 4) d_pb_isFull_4 (by decide) ?_
  refine qr_icmp_lt (tgt := 13) (pc := 6) d_pb_isFull_6 (by decide) (fun h6 => ?_) (fun h6 => ?_)
  · skip
    refine qr_iconst (v := 0) (pc := 13) d_pb_isFull_13 (by decide) ?_
    exact qr_iret (pc := 14) d_pb_isFull_14 rfl rfl ⟨(by simp [*]), rfl, rfl⟩ (Nat.zero_le _) (Nat.zero_le _)
  · skip
    refine qr_iconst (v := 1) (pc := 9) d_pb_isFull_9 (by decide) ?_
    refine qr_goto (tgt := 14) (pc := 10) d_pb_isFull_10 (by decide) ?_
    exact qr_iret (pc := 14) d_pb_isFull_14 rfl rfl ⟨(by simp [*]), rfl, rfl⟩ (Nat.zero_le _) (Nat.zero_le _)
set_option maxRecDepth 10000 in
theorem s_pb_add (l : Launch) (x : Bool) (I : Nat → Nat → Int32) (L : Nat → Nat → Int64) (z : Nat) (hz : I 20 4 = nI z) (hz2 : z ≤ 10) (c : Int32) (a : Int64) (days from9 : Int32) : qSp l y_pb_add b_pb_add 6 none x 2 0 0 [.ref 20, .int c, .long a, .int days, .int from9] 77 (fm I L) (qD none 77 (fm (if 10 ≤ nI z then I else wI (wI (wI (wI I 21 z c) 23 z days) 24 z from9) 20 4 (nI (z + 1))) (if 10 ≤ nI z then L else wL L 22 z a))) := by
  refine qSp_of (ini := false) (by decide +kernel) (fun h => nomatch h) (Nat.le_of_ble_eq_true rfl) ?_
  show qR _ _ _ 0 [(0, .ref 20), (1, .int c), (2, .long a), (4, .int days), (5, .int from9)] [] _ _ _ _
  refine qr_aload_n (pc := 0) d_pb_add_0 rfl rfl ?_
  refine qr_callV (q := 20) (As := []) (pc := 1) d_pb_add_1 lk_pb_27 im_pb_isFull se_pb_isFull rfl (by decide) (by decide) (c_20 _ _) (s_pb_isFull _ x I L z hz hz2) rfl rfl (Nat.le_of_ble_eq_true rfl) (Nat.le_of_ble_eq_true rfl) (Nat.le_of_ble_eq_true rfl) (Nat.zero_le _) (Nat.zero_le _) (fun h => ⟨h, rfl, Or.inl rfl⟩) (fun v n9 f9 hE1 => ?_)
  obtain ⟨rfl, rfl, rfl⟩ := hE1
  refine qr_if_ne (tgt := 59) (pc := 4) d_pb_add_4 (by decide) (fun h4 => ?_) (fun h4 => ?_)
  · skip
    simp only [b01, Decidable.not_not] at h4
    exact qr_vret (pc := 59) d_pb_add_59 rfl ⟨rfl, rfl, (by simp [*, nI_1])⟩ (Nat.zero_le _) (Nat.zero_le _)
  · skip
    simp only [b01, Decidable.not_not] at h4
    have hlt : z < 10 := by
      have := mt (nI_leI (a := 10) (b := z) (by omega) (by omega)).mpr h4
      omega
    refine qr_aload_n (pc := 7) d_pb_add_7 rfl rfl ?_
    refine qr_get (v := .ref 21) (pc := 8) d_pb_add_8 fl_pb_9 (by decide) (by decide) (c_20 _ _) rfl ?_
    refine qr_aload_n (pc := 11) d_pb_add_11 rfl rfl ?_
    refine qr_get (v := .int (nI z)) (pc := 12) d_pb_add_12 fl_pb_23 (by decide) (by decide) (c_20 _ _) (congrArg (fun t => some (Value.int t)) hz) ?_
    refine qr_iload_n (pc := 15) d_pb_add_15 rfl rfl ?_
    refine qr_iastMN (j := z) (pc := 16) d_pb_add_16 (by decide) (by decide) (c_21 _ _) (by omega) (by decide) (fun w => rfl) ?_
    refine qr_aload_n (pc := 17) d_pb_add_17 rfl rfl ?_
    refine qr_get (v := .ref 22) (pc := 18) d_pb_add_18 fl_pb_13 (by decide) (by decide) (c_20 _ _) rfl ?_
    refine qr_aload_n (pc := 21) d_pb_add_21 rfl rfl ?_
    refine qr_get (v := .int (nI z)) (pc := 22) d_pb_add_22 fl_pb_23 (by decide) (by decide) (c_20 _ _) (congrArg (fun t => some (Value.int t)) hz) ?_
    refine qr_lload_n (pc := 25) d_pb_add_25 rfl rfl ?_
    refine qr_lastMN (j := z) (pc := 26) d_pb_add_26 (by decide) (by decide) (c_22 _ _) (by omega) (by decide) (fun w => rfl) ?_
    refine qr_aload_n (pc := 27) d_pb_add_27 rfl rfl ?_
    refine qr_get (v := .ref 23) (pc := 28) d_pb_add_28 fl_pb_17 (by decide) (by decide) (c_20 _ _) rfl ?_
    refine qr_aload_n (pc := 31) d_pb_add_31 rfl rfl ?_
    refine qr_get (v := .int (nI z)) (pc := 32) d_pb_add_32 fl_pb_23 (by decide) (by decide) (c_20 _ _) (congrArg (fun t => some (Value.int t)) hz) ?_
    refine qr_iload (pc := 35) d_pb_add_35 rfl ?_
    refine qr_iastMN (j := z) (pc := 37) d_pb_add_37 (by decide) (by decide) (c_23 _ _) (by omega) (by decide) (fun w => rfl) ?_
    refine qr_aload_n (pc := 38) d_pb_add_38 rfl rfl ?_
    refine qr_get (v := .ref 24) (pc := 39) d_pb_add_39 fl_pb_20 (by decide) (by decide) (c_20 _ _) rfl ?_
    refine qr_aload_n (pc := 42) d_pb_add_42 rfl rfl ?_
    refine qr_get (v := .int (nI z)) (pc := 43) d_pb_add_43 fl_pb_23 (by decide) (by decide) (c_20 _ _) (congrArg (fun t => some (Value.int t)) hz) ?_
    refine qr_iload (pc := 46) d_pb_add_46 rfl ?_
    refine qr_iastMN (j := z) (pc := 48) d_pb_add_48 (by decide) (by decide) (c_24 _ _) (by omega) (by decide) (fun w => rfl) ?_
    refine qr_aload_n (pc := 49) d_pb_add_49 rfl rfl ?_
    refine qr_dup (pc := 50) d_pb_add_50 rfl ?_
    refine qr_get (v := .int (nI z)) (pc := 51) d_pb_add_51 fl_pb_23 (by decide) (by decide) (c_20 _ _) (congrArg (fun t => some (Value.int t)) hz) ?_
    refine qr_iconst (v := 1) (pc := 54) d_pb_add_54 (by decide) ?_
    refine qr_iadd (pc := 55) d_pb_add_55 ?_
    refine qr_putI (pc := 56) d_pb_add_56 fl_pb_23 (by decide) (by decide) (c_20 _ _) (Nat.le_of_ble_eq_true rfl) (qFit_i _) (fun w => rfl) ?_
    exact qr_vret (pc := 59) d_pb_add_59 rfl ⟨rfl, rfl, (by simp [*, nI_1])⟩ (Nat.zero_le _) (Nat.zero_le _)
set_option maxRecDepth 10000 in
theorem s_pb_amountsOf (l : Launch) (x : Bool) (I : Nat → Nat → Int32) (L : Nat → Nat → Int64) (z : Nat) (hz : I 20 4 = nI z) (hz2 : z ≤ 10) (c : Int32) : qSp l y_pb_amountsOf b_pb_amountsOf 5 (some .long) x 1 0 0 [.ref 20, .int c] 77 (fm I L) (qD (some (.long (u_pamt I L c z))) 77 (fm I L)) := by
  refine qSp_of (ini := false) (by decide +kernel) (fun h => nomatch h) (Nat.le_of_ble_eq_true rfl) ?_
  show qR _ _ _ 0 [(0, .ref 20), (1, .int c)] [] _ _ _ _
  refine qr_lconst (v := 0) (pc := 0) d_pb_amountsOf_0 (by decide) ?_
  refine qr_lstore_n (lv' := [(2, .long 0), (0, .ref 20), (1, .int c)]) (pc := 1) d_pb_amountsOf_1 rfl (Nat.le_of_ble_eq_true rfl) rfl ?_
  refine qr_iconst (v := 0) (pc := 2) d_pb_amountsOf_2 (by decide) ?_
  refine qr_istore (lv' := [(4, .int 0), (2, .long 0), (0, .ref 20), (1, .int c)]) (pc := 3) d_pb_amountsOf_3 (Nat.le_of_ble_eq_true rfl) rfl ?_
  have loop5 : ∀ (j k : Nat), z - k < j → k ≤ z → qR (l, y_pb_amountsOf.cls, b_pb_amountsOf, 5, (some .long), false, x, 1, 0, 0, 77, q0) (qD (some (.long (u_pamt I L c z))) 77 (fm I L)) (fun _ _ _ => False) 5 [(4, .int (nI k)), (2, .long (u_pamt I L c k)), (0, .ref 20), (1, .int c)] [] 77 0 0 (fm I L) := by
    intro j
    induction j with
    | zero => intro k hj; omega
    | succ j ih =>
    intro k hjj hk
    refine qr_iload (pc := 5) d_pb_amountsOf_5 rfl ?_
    refine qr_aload_n (pc := 7) d_pb_amountsOf_7 rfl rfl ?_
    refine qr_get (v := .int (nI z)) (pc := 8) d_pb_amountsOf_8 fl_pb_23 (by decide) (by decide) (c_20 _ _) (congrArg (fun t => some (Value.int t)) hz) ?_
    refine qr_icmp_ge (tgt := 41) (pc := 11) d_pb_amountsOf_11 (by decide) (fun h11 => ?_) (fun h11 => ?_)
    · skip
      have hkz : z = k := by
        have := (nI_leI (a := z) (b := k) (by omega) (by omega)).mp h11
        omega
      subst hkz
      refine qr_lload_n (pc := 41) d_pb_amountsOf_41 rfl rfl ?_
      exact qr_lret (pc := 42) d_pb_amountsOf_42 rfl ⟨rfl, rfl, rfl⟩ (Nat.zero_le _) (Nat.zero_le _)
    · skip
      have hkz : k < z := by
        have := mt (nI_leI (a := z) (b := k) (by omega) (by omega)).mpr h11
        omega
      refine qr_aload_n (pc := 14) d_pb_amountsOf_14 rfl rfl ?_
      refine qr_get (v := .ref 21) (pc := 15) d_pb_amountsOf_15 fl_pb_9 (by decide) (by decide) (c_20 _ _) rfl ?_
      refine qr_iload (pc := 18) d_pb_amountsOf_18 rfl ?_
      refine qr_ialdN (j := k) (pc := 20) d_pb_amountsOf_20 (by decide) (by decide) (c_21 _ _) (by omega) (by decide) ?_
      refine qr_iload_n (pc := 21) d_pb_amountsOf_21 rfl rfl ?_
      refine qr_icmp_ne (tgt := 35) (pc := 22) d_pb_amountsOf_22 (by decide) (fun h22 => ?_) (fun h22 => ?_)
      · skip
        refine qr_iinc (v := nI (k + 1)) (lv' := [(4, .int (nI (k + 1))), (2, .long (u_pamt I L c k)), (0, .ref 20), (1, .int c)]) (pc := 35) d_pb_amountsOf_35 rfl (nI_1 k) (Nat.le_of_ble_eq_true rfl) rfl ?_
        refine qr_goto (tgt := 5) (pc := 38) d_pb_amountsOf_38 (by decide) ?_
        exact qR_st (by simp [u_pamt, *]) rfl (rfl) (ih (k + 1) (by omega) (by omega))
      · skip
        refine qr_lload_n (pc := 25) d_pb_amountsOf_25 rfl rfl ?_
        refine qr_aload_n (pc := 26) d_pb_amountsOf_26 rfl rfl ?_
        refine qr_get (v := .ref 22) (pc := 27) d_pb_amountsOf_27 fl_pb_13 (by decide) (by decide) (c_20 _ _) rfl ?_
        refine qr_iload (pc := 30) d_pb_amountsOf_30 rfl ?_
        refine qr_laldN (j := k) (pc := 32) d_pb_amountsOf_32 (by decide) (by decide) (c_22 _ _) (by omega) (by decide) ?_
        refine qr_ladd (pc := 33) d_pb_amountsOf_33 ?_
        refine qr_lstore_n (lv' := [(2, .long ((u_pamt I L c k) + (L 22 k))), (4, .int (nI k)), (0, .ref 20), (1, .int c)]) (pc := 34) d_pb_amountsOf_34 rfl (Nat.le_of_ble_eq_true rfl) rfl ?_
        refine qr_iinc (v := nI (k + 1)) (lv' := [(4, .int (nI (k + 1))), (2, .long ((u_pamt I L c k) + (L 22 k))), (0, .ref 20), (1, .int c)]) (pc := 35) d_pb_amountsOf_35 rfl (nI_1 k) (Nat.le_of_ble_eq_true rfl) rfl ?_
        refine qr_goto (tgt := 5) (pc := 38) d_pb_amountsOf_38 (by decide) ?_
        exact qR_st (by simp [u_pamt, *]) rfl (rfl) (ih (k + 1) (by omega) (by omega))
  exact loop5 (z + 1) 0 (by omega) (by omega)
set_option maxRecDepth 10000 in
theorem s_pb_allAmounts (l : Launch) (x : Bool) (I : Nat → Nat → Int32) (L : Nat → Nat → Int64) (z : Nat) (hz : I 20 4 = nI z) (hz2 : z ≤ 10) : qSp l y_pb_allAmounts b_pb_allAmounts 4 (some .long) x 1 0 0 [.ref 20] 77 (fm I L) (qD (some (.long (u_all (L 22) z))) 77 (fm I L)) := by
  refine qSp_of (ini := false) (by decide +kernel) (fun h => nomatch h) (Nat.le_of_ble_eq_true rfl) ?_
  show qR _ _ _ 0 [(0, .ref 20)] [] _ _ _ _
  refine qr_lconst (v := 0) (pc := 0) d_pb_allAmounts_0 (by decide) ?_
  refine qr_lstore_n (lv' := [(1, .long 0), (0, .ref 20)]) (pc := 1) d_pb_allAmounts_1 rfl (Nat.le_of_ble_eq_true rfl) rfl ?_
  refine qr_iconst (v := 0) (pc := 2) d_pb_allAmounts_2 (by decide) ?_
  refine qr_istore_n (lv' := [(3, .int 0), (1, .long 0), (0, .ref 20)]) (pc := 3) d_pb_allAmounts_3 rfl (Nat.le_of_ble_eq_true rfl) rfl ?_
  have loop4 : ∀ (j k : Nat), z - k < j → k ≤ z → qR (l, y_pb_allAmounts.cls, b_pb_allAmounts, 4, (some .long), false, x, 1, 0, 0, 77, q0) (qD (some (.long (u_all (L 22) z))) 77 (fm I L)) (fun _ _ _ => False) 4 [(3, .int (nI k)), (1, .long (u_all (L 22) k)), (0, .ref 20)] [] 77 0 0 (fm I L) := by
    intro j
    induction j with
    | zero => intro k hj; omega
    | succ j ih =>
    intro k hjj hk
    refine qr_iload_n (pc := 4) d_pb_allAmounts_4 rfl rfl ?_
    refine qr_aload_n (pc := 5) d_pb_allAmounts_5 rfl rfl ?_
    refine qr_get (v := .int (nI z)) (pc := 6) d_pb_allAmounts_6 fl_pb_23 (by decide) (by decide) (c_20 _ _) (congrArg (fun t => some (Value.int t)) hz) ?_
    refine qr_icmp_ge (tgt := 27) (pc := 9) d_pb_allAmounts_9 (by decide) (fun h9 => ?_) (fun h9 => ?_)
    · skip
      have hkz : z = k := by
        have := (nI_leI (a := z) (b := k) (by omega) (by omega)).mp h9
        omega
      subst hkz
      refine qr_lload_n (pc := 27) d_pb_allAmounts_27 rfl rfl ?_
      exact qr_lret (pc := 28) d_pb_allAmounts_28 rfl ⟨rfl, rfl, rfl⟩ (Nat.zero_le _) (Nat.zero_le _)
    · skip
      have hkz : k < z := by
        have := mt (nI_leI (a := z) (b := k) (by omega) (by omega)).mpr h9
        omega
      refine qr_lload_n (pc := 12) d_pb_allAmounts_12 rfl rfl ?_
      refine qr_aload_n (pc := 13) d_pb_allAmounts_13 rfl rfl ?_
      refine qr_get (v := .ref 22) (pc := 14) d_pb_allAmounts_14 fl_pb_13 (by decide) (by decide) (c_20 _ _) rfl ?_
      refine qr_iload_n (pc := 17) d_pb_allAmounts_17 rfl rfl ?_
      refine qr_laldN (j := k) (pc := 18) d_pb_allAmounts_18 (by decide) (by decide) (c_22 _ _) (by omega) (by decide) ?_
      refine qr_ladd (pc := 19) d_pb_allAmounts_19 ?_
      refine qr_lstore_n (lv' := [(1, .long ((u_all (L 22) k) + (L 22 k))), (3, .int (nI k)), (0, .ref 20)]) (pc := 20) d_pb_allAmounts_20 rfl (Nat.le_of_ble_eq_true rfl) rfl ?_
      refine qr_iinc (v := nI (k + 1)) (lv' := [(3, .int (nI (k + 1))), (1, .long ((u_all (L 22) k) + (L 22 k))), (0, .ref 20)]) (pc := 21) d_pb_allAmounts_21 rfl (nI_1 k) (Nat.le_of_ble_eq_true rfl) rfl ?_
      refine qr_goto (tgt := 4) (pc := 24) d_pb_allAmounts_24 (by decide) ?_
      exact qR_st (by simp [u_all, *]) rfl (rfl) (ih (k + 1) (by omega) (by omega))
  exact loop4 (z + 1) 0 (by omega) (by omega)
set_option maxRecDepth 10000 in
theorem s_pb_earnedOf (l : Launch) (x : Bool) (I : Nat → Nat → Int32) (L : Nat → Nat → Int64) (z : Nat) (hz : I 20 4 = nI z) (hz2 : z ≤ 10) (c today : Int32) : qSp l y_pb_earnedOf b_pb_earnedOf 7 (some .long) x 2 0 0 [.ref 20, .int c, .int today] 77 (fm I L) (qD (some (.long (u_earn I L c today z))) 77 (fm I L)) := by
  refine qSp_of (ini := false) (by decide +kernel) (fun h => nomatch h) (Nat.le_of_ble_eq_true rfl) ?_
  show qR _ _ _ 0 [(0, .ref 20), (1, .int c), (2, .int today)] [] _ _ _ _
  refine qr_lconst (v := 0) (pc := 0) d_pb_earnedOf_0 (by decide) ?_
  refine qr_lstore_n (lv' := [(3, .long 0), (0, .ref 20), (1, .int c), (2, .int today)]) (pc := 1) d_pb_earnedOf_1 rfl (Nat.le_of_ble_eq_true rfl) rfl ?_
  refine qr_iconst (v := 0) (pc := 2) d_pb_earnedOf_2 (by decide) ?_
  refine qr_istore (lv' := [(5, .int 0), (3, .long 0), (0, .ref 20), (1, .int c), (2, .int today)]) (pc := 3) d_pb_earnedOf_3 (Nat.le_of_ble_eq_true rfl) rfl ?_
  have loop5 : ∀ (j k : Nat), z - k < j → k ≤ z → qR (l, y_pb_earnedOf.cls, b_pb_earnedOf, 7, (some .long), false, x, 2, 0, 0, 77, q0) (qD (some (.long (u_earn I L c today z))) 77 (fm I L)) (fun _ _ _ => False) 5 [(5, .int (nI k)), (3, .long (u_earn I L c today k)), (0, .ref 20), (1, .int c), (2, .int today)] [] 77 0 0 (fm I L) := by
    intro j
    induction j with
    | zero => intro k hj; omega
    | succ j ih =>
    intro k hjj hk
    refine qr_iload (pc := 5) d_pb_earnedOf_5 rfl ?_
    refine qr_aload_n (pc := 7) d_pb_earnedOf_7 rfl rfl ?_
    refine qr_get (v := .int (nI z)) (pc := 8) d_pb_earnedOf_8 fl_pb_23 (by decide) (by decide) (c_20 _ _) (congrArg (fun t => some (Value.int t)) hz) ?_
    refine qr_icmp_ge (tgt := 76) (pc := 11) d_pb_earnedOf_11 (by decide) (fun h11 => ?_) (fun h11 => ?_)
    · skip
      have hkz : z = k := by
        have := (nI_leI (a := z) (b := k) (by omega) (by omega)).mp h11
        omega
      subst hkz
      refine qr_lload_n (pc := 76) d_pb_earnedOf_76 rfl rfl ?_
      exact qr_lret (pc := 77) d_pb_earnedOf_77 rfl ⟨rfl, rfl, rfl⟩ (Nat.zero_le _) (Nat.zero_le _)
    · skip
      have hkz : k < z := by
        have := mt (nI_leI (a := z) (b := k) (by omega) (by omega)).mpr h11
        omega
      refine qr_aload_n (pc := 14) d_pb_earnedOf_14 rfl rfl ?_
      refine qr_get (v := .ref 21) (pc := 15) d_pb_earnedOf_15 fl_pb_9 (by decide) (by decide) (c_20 _ _) rfl ?_
      refine qr_iload (pc := 18) d_pb_earnedOf_18 rfl ?_
      refine qr_ialdN (j := k) (pc := 20) d_pb_earnedOf_20 (by decide) (by decide) (c_21 _ _) (by omega) (by decide) ?_
      refine qr_iload_n (pc := 21) d_pb_earnedOf_21 rfl rfl ?_
      refine qr_icmp_ne (tgt := 70) (pc := 22) d_pb_earnedOf_22 (by decide) (fun h22 => ?_) (fun h22 => ?_)
      · skip
        refine qr_iinc (v := nI (k + 1)) (lv' := [(5, .int (nI (k + 1))), (3, .long (u_earn I L c today k)), (0, .ref 20), (1, .int c), (2, .int today)]) (pc := 70) d_pb_earnedOf_70 rfl (nI_1 k) (Nat.le_of_ble_eq_true rfl) rfl ?_
        refine qr_goto (tgt := 5) (pc := 73) d_pb_earnedOf_73 (by decide) ?_
        exact qR_st (by simp [u_earn, u_earn1, *]) rfl (rfl) (ih (k + 1) (by omega) (by omega))
      · skip
        refine qr_iload_n (pc := 25) d_pb_earnedOf_25 rfl rfl ?_
        refine qr_aload_n (pc := 26) d_pb_earnedOf_26 rfl rfl ?_
        refine qr_get (v := .ref 24) (pc := 27) d_pb_earnedOf_27 fl_pb_20 (by decide) (by decide) (c_20 _ _) rfl ?_
        refine qr_iload (pc := 30) d_pb_earnedOf_30 rfl ?_
        refine qr_ialdN (j := k) (pc := 32) d_pb_earnedOf_32 (by decide) (by decide) (c_24 _ _) (by omega) (by decide) ?_
        refine qr_isub (pc := 33) d_pb_earnedOf_33 ?_
        refine qr_aload_n (pc := 34) d_pb_earnedOf_34 rfl rfl ?_
        refine qr_get (v := .ref 23) (pc := 35) d_pb_earnedOf_35 fl_pb_17 (by decide) (by decide) (c_20 _ _) rfl ?_
        refine qr_iload (pc := 38) d_pb_earnedOf_38 rfl ?_
        refine qr_ialdN (j := k) (pc := 40) d_pb_earnedOf_40 (by decide) (by decide) (c_23 _ _) (by omega) (by decide) ?_
        refine qr_mmin (pc := 41) d_pb_earnedOf_41 lk_pb_31 s_mmin i_math c_mmin (Nat.le_of_ble_eq_true rfl) (Nat.le_of_ble_eq_true rfl) (Nat.zero_le _) (Nat.zero_le _) ?_
        refine qr_istore (lv' := [(6, .int (qmmin (today - (I 24 k)) (I 23 k))), (5, .int (nI k)), (3, .long (u_earn I L c today k)), (0, .ref 20), (1, .int c), (2, .int today)]) (pc := 44) d_pb_earnedOf_44 (Nat.le_of_ble_eq_true rfl) rfl ?_
        refine qr_lload_n (pc := 46) d_pb_earnedOf_46 rfl rfl ?_
        refine qr_aload_n (pc := 47) d_pb_earnedOf_47 rfl rfl ?_
        refine qr_get (v := .ref 22) (pc := 48) d_pb_earnedOf_48 fl_pb_13 (by decide) (by decide) (c_20 _ _) rfl ?_
        refine qr_iload (pc := 51) d_pb_earnedOf_51 rfl ?_
        refine qr_laldN (j := k) (pc := 53) d_pb_earnedOf_53 (by decide) (by decide) (c_22 _ _) (by omega) (by decide) ?_
        refine qr_iload (pc := 54) d_pb_earnedOf_54 rfl ?_
        refine qr_i2l (pc := 56) d_pb_earnedOf_56 ?_
        refine qr_aload_n (pc := 57) d_pb_earnedOf_57 rfl rfl ?_
        refine qr_get (v := .ref 23) (pc := 58) d_pb_earnedOf_58 fl_pb_17 (by decide) (by decide) (c_20 _ _) rfl ?_
        refine qr_iload (pc := 61) d_pb_earnedOf_61 rfl ?_
        refine qr_ialdN (j := k) (pc := 63) d_pb_earnedOf_63 (by decide) (by decide) (c_23 _ _) (by omega) (by decide) ?_
        refine qr_i2l (pc := 64) d_pb_earnedOf_64 ?_
        refine qr_callSN (As := [.long (L 22 k), .long (Int32.toInt64 (qmmin (today - (I 24 k)) (I 23 k))), .long (Int32.toInt64 (I 23 k))]) (pc := 65) d_pb_earnedOf_65 ln_pb_37 sm_bf_shareOf (s_bf_shareOf _ x _ _ (L 22 k) (Int32.toInt64 (qmmin (today - (I 24 k)) (I 23 k))) (Int32.toInt64 (I 23 k))) rfl rfl (Nat.le_of_ble_eq_true rfl) (Nat.le_of_ble_eq_true rfl) (Nat.le_of_ble_eq_true rfl) (Nat.zero_le _) (Nat.zero_le _) (fun h => ⟨h, rfl, Or.inl rfl⟩) (fun v n9 f9 hE65 => ?_)
        obtain ⟨rfl, rfl, rfl⟩ := hE65
        refine qr_ladd (pc := 68) d_pb_earnedOf_68 ?_
        refine qr_lstore_n (lv' := [(3, .long ((u_earn I L c today k) + (u_share (L 22 k) (Int32.toInt64 (qmmin (today - (I 24 k)) (I 23 k))) (Int32.toInt64 (I 23 k))))), (6, .int (qmmin (today - (I 24 k)) (I 23 k))), (5, .int (nI k)), (0, .ref 20), (1, .int c), (2, .int today)]) (pc := 69) d_pb_earnedOf_69 rfl (Nat.le_of_ble_eq_true rfl) rfl ?_
        refine qr_iinc (v := nI (k + 1)) (lv' := [(5, .int (nI (k + 1))), (3, .long ((u_earn I L c today k) + (u_share (L 22 k) (Int32.toInt64 (qmmin (today - (I 24 k)) (I 23 k))) (Int32.toInt64 (I 23 k))))), (6, .int (qmmin (today - (I 24 k)) (I 23 k))), (0, .ref 20), (1, .int c), (2, .int today)]) (pc := 70) d_pb_earnedOf_70 rfl (nI_1 k) (Nat.le_of_ble_eq_true rfl) rfl ?_
        refine qr_goto (tgt := 5) (pc := 73) d_pb_earnedOf_73 (by decide) ?_
        refine qR_sub (lv' := [(5, .int (nI (k + 1))), (3, .long ((u_earn I L c today k) + (u_share (L 22 k) (Int32.toInt64 (qmmin (today - (I 24 k)) (I 23 k))) (Int32.toInt64 (I 23 k))))), (0, .ref 20), (1, .int c), (2, .int today)]) [0, 1, 3, 4, 5] rfl ?_
        exact qR_st (by simp [u_earn, u_earn1, *]) rfl (rfl) (ih (k + 1) (by omega) (by omega))
  exact loop5 (z + 1) 0 (by omega) (by omega)
