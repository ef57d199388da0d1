/-! Tariff.copyFrom: the draft (object 4, rows 5 and 6) goes to tariff q (rows q + 1, q + 2) -/
def u_cpF (I : Nat → Nat → Int32) (q : Nat) : Nat → Nat → Int32 := wI (wI (wI (wI (wI (wI (wI I q 0 (I 4 0)) q 1 (I 4 1)) q 2 (I 4 2)) q 3 (I 4 3)) q 4 (I 4 4)) q 5 (I 4 5)) q 8 (I 4 8)
def u_cp (I : Nat → Nat → Int32) (q e p : Nat) : Nat → Nat → Nat → Int32
  | 0 => u_cpF I q
  | k + 1 => wI (wI (u_cp I q e p k) e k (u_cp I q e p k 5 k)) p k (u_cp I q e p k 6 k)
set_option maxRecDepth 10000 in
theorem s_tf_copyFrom_28 (l : Launch) (x : Bool) (I : Nat → Nat → Int32) (L : Nat → Nat → Int64)  : qSp l y_tf_copyFrom b_tf_copyFrom 3 none x 1 0 0 [.ref 28, .ref 4] 77 (fm I L) (qD none 77 (fm (u_cp I 28 29 30 4) L)) := by
  refine qSp_of (ini := false) (by decide +kernel) (fun h => nomatch h) (Nat.le_of_ble_eq_true rfl) ?_
  show qR _ _ _ 0 [(0, .ref 28), (1, .ref 4)] [] _ _ _ _
  refine qr_aload_n (pc := 0) d_tf_copyFrom_0 rfl rfl ?_
  refine qr_aload_n (pc := 1) d_tf_copyFrom_1 rfl rfl ?_
  refine qr_get (v := .int (I 4 0)) (pc := 2) d_tf_copyFrom_2 fl_tf_7 (by decide) (by decide) (c_4 _ _) rfl ?_
  refine qr_putI (pc := 5) d_tf_copyFrom_5 fl_tf_7 (by decide) (by decide) (c_28 _ _) (Nat.le_of_ble_eq_true rfl) (qFit_i _) (fun w => rfl) ?_
  refine qr_aload_n (pc := 8) d_tf_copyFrom_8 rfl rfl ?_
  refine qr_aload_n (pc := 9) d_tf_copyFrom_9 rfl rfl ?_
  refine qr_get (v := .int (I 4 1)) (pc := 10) d_tf_copyFrom_10 fl_tf_13 (by decide) (by decide) (c_4 _ _) rfl ?_
  refine qr_putI (pc := 13) d_tf_copyFrom_13 fl_tf_13 (by decide) (by decide) (c_28 _ _) (Nat.le_of_ble_eq_true rfl) (qFit_i _) (fun w => rfl) ?_
  refine qr_aload_n (pc := 16) d_tf_copyFrom_16 rfl rfl ?_
  refine qr_aload_n (pc := 17) d_tf_copyFrom_17 rfl rfl ?_
  refine qr_get (v := .int (I 4 2)) (pc := 18) d_tf_copyFrom_18 fl_tf_16 (by decide) (by decide) (c_4 _ _) rfl ?_
  refine qr_putI (pc := 21) d_tf_copyFrom_21 fl_tf_16 (by decide) (by decide) (c_28 _ _) (Nat.le_of_ble_eq_true rfl) (qFit_i _) (fun w => rfl) ?_
  refine qr_aload_n (pc := 24) d_tf_copyFrom_24 rfl rfl ?_
  refine qr_aload_n (pc := 25) d_tf_copyFrom_25 rfl rfl ?_
  refine qr_get (v := .int (I 4 3)) (pc := 26) d_tf_copyFrom_26 fl_tf_19 (by decide) (by decide) (c_4 _ _) rfl ?_
  refine qr_putI (pc := 29) d_tf_copyFrom_29 fl_tf_19 (by decide) (by decide) (c_28 _ _) (Nat.le_of_ble_eq_true rfl) (qFit_i _) (fun w => rfl) ?_
  refine qr_aload_n (pc := 32) d_tf_copyFrom_32 rfl rfl ?_
  refine qr_aload_n (pc := 33) d_tf_copyFrom_33 rfl rfl ?_
  refine qr_get (v := .int (I 4 4)) (pc := 34) d_tf_copyFrom_34 fl_tf_22 (by decide) (by decide) (c_4 _ _) rfl ?_
  refine qr_putI (pc := 37) d_tf_copyFrom_37 fl_tf_22 (by decide) (by decide) (c_28 _ _) (Nat.le_of_ble_eq_true rfl) (qFit_i _) (fun w => rfl) ?_
  refine qr_aload_n (pc := 40) d_tf_copyFrom_40 rfl rfl ?_
  refine qr_aload_n (pc := 41) d_tf_copyFrom_41 rfl rfl ?_
  refine qr_get (v := .int (I 4 5)) (pc := 42) d_tf_copyFrom_42 fl_tf_25 (by decide) (by decide) (c_4 _ _) rfl ?_
  refine qr_putI (pc := 45) d_tf_copyFrom_45 fl_tf_25 (by decide) (by decide) (c_28 _ _) (Nat.le_of_ble_eq_true rfl) (qFit_i _) (fun w => rfl) ?_
  refine qr_aload_n (pc := 48) d_tf_copyFrom_48 rfl rfl ?_
  refine qr_aload_n (pc := 49) d_tf_copyFrom_49 rfl rfl ?_
  refine qr_get (v := .int (I 4 8)) (pc := 50) d_tf_copyFrom_50 fl_tf_35 (by decide) (by decide) (c_4 _ _) rfl ?_
  refine qr_putI (pc := 53) d_tf_copyFrom_53 fl_tf_35 (by decide) (by decide) (c_28 _ _) (Nat.le_of_ble_eq_true rfl) (qFit_i _) (fun w => rfl) ?_
  refine qr_iconst (v := 0) (pc := 56) d_tf_copyFrom_56 (by decide) ?_
  refine qr_istore_n (lv' := [(2, .int 0), (0, .ref 28), (1, .ref 4)]) (pc := 57) d_tf_copyFrom_57 rfl (Nat.le_of_ble_eq_true rfl) rfl ?_
  have loop58 : ∀ (j k : Nat), 4 - k < j → k ≤ 4 → qR (l, y_tf_copyFrom.cls, b_tf_copyFrom, 3, none, false, x, 1, 0, 0, 77, q0) (qD none 77 (fm (u_cp I 28 29 30 4) L)) (fun _ _ _ => False) 58 [(2, .int (nI k)), (0, .ref 28), (1, .ref 4)] [] 77 0 0 (fm (u_cp I 28 29 30 k) L) := by
    intro j
    induction j with
    | zero => intro k hj; omega
    | succ j ih =>
    intro k hjj hk
    refine qr_iload_n (pc := 58) d_tf_copyFrom_58 rfl rfl ?_
    refine qr_iconst (v := 4) (pc := 59) d_tf_copyFrom_59 (by decide) ?_
    refine qr_icmp_ge (tgt := 93) (pc := 60) d_tf_copyFrom_60 (by decide) (fun h60 => ?_) (fun h60 => ?_)
    · skip
      have hkz : 4 = k := by
        have := (nI_leI (a := 4) (b := k) (by omega) (by omega)).mp h60
        omega
      subst hkz
      exact qr_vret (pc := 93) d_tf_copyFrom_93 rfl ⟨rfl, rfl, rfl⟩ (Nat.zero_le _) (Nat.zero_le _)
    · skip
      have hkz : k < 4 := by
        have := mt (nI_leI (a := 4) (b := k) (by omega) (by omega)).mpr h60
        omega
      refine qr_aload_n (pc := 63) d_tf_copyFrom_63 rfl rfl ?_
      refine qr_get (v := .ref 29) (pc := 64) d_tf_copyFrom_64 fl_tf_28 (by decide) (by decide) (c_28 _ _) rfl ?_
      refine qr_iload_n (pc := 67) d_tf_copyFrom_67 rfl rfl ?_
      refine qr_aload_n (pc := 68) d_tf_copyFrom_68 rfl rfl ?_
      refine qr_get (v := .ref 5) (pc := 69) d_tf_copyFrom_69 fl_tf_28 (by decide) (by decide) (c_4 _ _) rfl ?_
      refine qr_iload_n (pc := 72) d_tf_copyFrom_72 rfl rfl ?_
      refine qr_ialdN (j := k) (pc := 73) d_tf_copyFrom_73 (by decide) (by decide) (c_5 _ _) (by omega) (by decide) ?_
      refine qr_iastMN (j := k) (pc := 74) d_tf_copyFrom_74 (by decide) (by decide) (c_29 _ _) (by omega) (by decide) (fun w => rfl) ?_
      refine qr_aload_n (pc := 75) d_tf_copyFrom_75 rfl rfl ?_
      refine qr_get (v := .ref 30) (pc := 76) d_tf_copyFrom_76 fl_tf_32 (by decide) (by decide) (c_28 _ _) rfl ?_
      refine qr_iload_n (pc := 79) d_tf_copyFrom_79 rfl rfl ?_
      refine qr_aload_n (pc := 80) d_tf_copyFrom_80 rfl rfl ?_
      refine qr_get (v := .ref 6) (pc := 81) d_tf_copyFrom_81 fl_tf_32 (by decide) (by decide) (c_4 _ _) rfl ?_
      refine qr_iload_n (pc := 84) d_tf_copyFrom_84 rfl rfl ?_
      refine qr_ialdN (j := k) (pc := 85) d_tf_copyFrom_85 (by decide) (by decide) (c_6 _ _) (by omega) (by decide) ?_
      refine qR_st (st' := [.int ((u_cp I 28 29 30 k) 6 k), .int (nI k), .ref 30]) rfl rfl rfl ?_
      refine qr_iastMN (j := k) (pc := 86) d_tf_copyFrom_86 (by decide) (by decide) (c_30 _ _) (by omega) (by decide) (fun w => rfl) ?_
      refine qr_iinc (v := nI (k + 1)) (lv' := [(2, .int (nI (k + 1))), (0, .ref 28), (1, .ref 4)]) (pc := 87) d_tf_copyFrom_87 rfl (nI_1 k) (Nat.le_of_ble_eq_true rfl) rfl ?_
      refine qr_goto (tgt := 58) (pc := 90) d_tf_copyFrom_90 (by decide) ?_
      exact qR_st (by rfl) rfl (rfl) (ih (k + 1) (by omega) (by omega))
  exact loop58 (4 + 1) 0 (by omega) (by omega)
set_option maxRecDepth 10000 in
theorem s_tf_copyFrom_31 (l : Launch) (x : Bool) (I : Nat → Nat → Int32) (L : Nat → Nat → Int64)  : qSp l y_tf_copyFrom b_tf_copyFrom 3 none x 1 0 0 [.ref 31, .ref 4] 77 (fm I L) (qD none 77 (fm (u_cp I 31 32 33 4) L)) := by
  refine qSp_of (ini := false) (by decide +kernel) (fun h => nomatch h) (Nat.le_of_ble_eq_true rfl) ?_
  show qR _ _ _ 0 [(0, .ref 31), (1, .ref 4)] [] _ _ _ _
  refine qr_aload_n (pc := 0) d_tf_copyFrom_0 rfl rfl ?_
  refine qr_aload_n (pc := 1) d_tf_copyFrom_1 rfl rfl ?_
  refine qr_get (v := .int (I 4 0)) (pc := 2) d_tf_copyFrom_2 fl_tf_7 (by decide) (by decide) (c_4 _ _) rfl ?_
  refine qr_putI (pc := 5) d_tf_copyFrom_5 fl_tf_7 (by decide) (by decide) (c_31 _ _) (Nat.le_of_ble_eq_true rfl) (qFit_i _) (fun w => rfl) ?_
  refine qr_aload_n (pc := 8) d_tf_copyFrom_8 rfl rfl ?_
  refine qr_aload_n (pc := 9) d_tf_copyFrom_9 rfl rfl ?_
  refine qr_get (v := .int (I 4 1)) (pc := 10) d_tf_copyFrom_10 fl_tf_13 (by decide) (by decide) (c_4 _ _) rfl ?_
  refine qr_putI (pc := 13) d_tf_copyFrom_13 fl_tf_13 (by decide) (by decide) (c_31 _ _) (Nat.le_of_ble_eq_true rfl) (qFit_i _) (fun w => rfl) ?_
  refine qr_aload_n (pc := 16) d_tf_copyFrom_16 rfl rfl ?_
  refine qr_aload_n (pc := 17) d_tf_copyFrom_17 rfl rfl ?_
  refine qr_get (v := .int (I 4 2)) (pc := 18) d_tf_copyFrom_18 fl_tf_16 (by decide) (by decide) (c_4 _ _) rfl ?_
  refine qr_putI (pc := 21) d_tf_copyFrom_21 fl_tf_16 (by decide) (by decide) (c_31 _ _) (Nat.le_of_ble_eq_true rfl) (qFit_i _) (fun w => rfl) ?_
  refine qr_aload_n (pc := 24) d_tf_copyFrom_24 rfl rfl ?_
  refine qr_aload_n (pc := 25) d_tf_copyFrom_25 rfl rfl ?_
  refine qr_get (v := .int (I 4 3)) (pc := 26) d_tf_copyFrom_26 fl_tf_19 (by decide) (by decide) (c_4 _ _) rfl ?_
  refine qr_putI (pc := 29) d_tf_copyFrom_29 fl_tf_19 (by decide) (by decide) (c_31 _ _) (Nat.le_of_ble_eq_true rfl) (qFit_i _) (fun w => rfl) ?_
  refine qr_aload_n (pc := 32) d_tf_copyFrom_32 rfl rfl ?_
  refine qr_aload_n (pc := 33) d_tf_copyFrom_33 rfl rfl ?_
  refine qr_get (v := .int (I 4 4)) (pc := 34) d_tf_copyFrom_34 fl_tf_22 (by decide) (by decide) (c_4 _ _) rfl ?_
  refine qr_putI (pc := 37) d_tf_copyFrom_37 fl_tf_22 (by decide) (by decide) (c_31 _ _) (Nat.le_of_ble_eq_true rfl) (qFit_i _) (fun w => rfl) ?_
  refine qr_aload_n (pc := 40) d_tf_copyFrom_40 rfl rfl ?_
  refine qr_aload_n (pc := 41) d_tf_copyFrom_41 rfl rfl ?_
  refine qr_get (v := .int (I 4 5)) (pc := 42) d_tf_copyFrom_42 fl_tf_25 (by decide) (by decide) (c_4 _ _) rfl ?_
  refine qr_putI (pc := 45) d_tf_copyFrom_45 fl_tf_25 (by decide) (by decide) (c_31 _ _) (Nat.le_of_ble_eq_true rfl) (qFit_i _) (fun w => rfl) ?_
  refine qr_aload_n (pc := 48) d_tf_copyFrom_48 rfl rfl ?_
  refine qr_aload_n (pc := 49) d_tf_copyFrom_49 rfl rfl ?_
  refine qr_get (v := .int (I 4 8)) (pc := 50) d_tf_copyFrom_50 fl_tf_35 (by decide) (by decide) (c_4 _ _) rfl ?_
  refine qr_putI (pc := 53) d_tf_copyFrom_53 fl_tf_35 (by decide) (by decide) (c_31 _ _) (Nat.le_of_ble_eq_true rfl) (qFit_i _) (fun w => rfl) ?_
  refine qr_iconst (v := 0) (pc := 56) d_tf_copyFrom_56 (by decide) ?_
  refine qr_istore_n (lv' := [(2, .int 0), (0, .ref 31), (1, .ref 4)]) (pc := 57) d_tf_copyFrom_57 rfl (Nat.le_of_ble_eq_true rfl) rfl ?_
  have loop58 : ∀ (j k : Nat), 4 - k < j → k ≤ 4 → qR (l, y_tf_copyFrom.cls, b_tf_copyFrom, 3, none, false, x, 1, 0, 0, 77, q0) (qD none 77 (fm (u_cp I 31 32 33 4) L)) (fun _ _ _ => False) 58 [(2, .int (nI k)), (0, .ref 31), (1, .ref 4)] [] 77 0 0 (fm (u_cp I 31 32 33 k) L) := by
    intro j
    induction j with
    | zero => intro k hj; omega
    | succ j ih =>
    intro k hjj hk
    refine qr_iload_n (pc := 58) d_tf_copyFrom_58 rfl rfl ?_
    refine qr_iconst (v := 4) (pc := 59) d_tf_copyFrom_59 (by decide) ?_
    refine qr_icmp_ge (tgt := 93) (pc := 60) d_tf_copyFrom_60 (by decide) (fun h60 => ?_) (fun h60 => ?_)
    · skip
      have hkz : 4 = k := by
        have := (nI_leI (a := 4) (b := k) (by omega) (by omega)).mp h60
        omega
      subst hkz
      exact qr_vret (pc := 93) d_tf_copyFrom_93 rfl ⟨rfl, rfl, rfl⟩ (Nat.zero_le _) (Nat.zero_le _)
    · skip
      have hkz : k < 4 := by
        have := mt (nI_leI (a := 4) (b := k) (by omega) (by omega)).mpr h60
        omega
      refine qr_aload_n (pc := 63) d_tf_copyFrom_63 rfl rfl ?_
      refine qr_get (v := .ref 32) (pc := 64) d_tf_copyFrom_64 fl_tf_28 (by decide) (by decide) (c_31 _ _) rfl ?_
      refine qr_iload_n (pc := 67) d_tf_copyFrom_67 rfl rfl ?_
      refine qr_aload_n (pc := 68) d_tf_copyFrom_68 rfl rfl ?_
      refine qr_get (v := .ref 5) (pc := 69) d_tf_copyFrom_69 fl_tf_28 (by decide) (by decide) (c_4 _ _) rfl ?_
      refine qr_iload_n (pc := 72) d_tf_copyFrom_72 rfl rfl ?_
      refine qr_ialdN (j := k) (pc := 73) d_tf_copyFrom_73 (by decide) (by decide) (c_5 _ _) (by omega) (by decide) ?_
      refine qr_iastMN (j := k) (pc := 74) d_tf_copyFrom_74 (by decide) (by decide) (c_32 _ _) (by omega) (by decide) (fun w => rfl) ?_
      refine qr_aload_n (pc := 75) d_tf_copyFrom_75 rfl rfl ?_
      refine qr_get (v := .ref 33) (pc := 76) d_tf_copyFrom_76 fl_tf_32 (by decide) (by decide) (c_31 _ _) rfl ?_
      refine qr_iload_n (pc := 79) d_tf_copyFrom_79 rfl rfl ?_
      refine qr_aload_n (pc := 80) d_tf_copyFrom_80 rfl rfl ?_
      refine qr_get (v := .ref 6) (pc := 81) d_tf_copyFrom_81 fl_tf_32 (by decide) (by decide) (c_4 _ _) rfl ?_
      refine qr_iload_n (pc := 84) d_tf_copyFrom_84 rfl rfl ?_
      refine qr_ialdN (j := k) (pc := 85) d_tf_copyFrom_85 (by decide) (by decide) (c_6 _ _) (by omega) (by decide) ?_
      refine qR_st (st' := [.int ((u_cp I 31 32 33 k) 6 k), .int (nI k), .ref 33]) rfl rfl rfl ?_
      refine qr_iastMN (j := k) (pc := 86) d_tf_copyFrom_86 (by decide) (by decide) (c_33 _ _) (by omega) (by decide) (fun w => rfl) ?_
      refine qr_iinc (v := nI (k + 1)) (lv' := [(2, .int (nI (k + 1))), (0, .ref 31), (1, .ref 4)]) (pc := 87) d_tf_copyFrom_87 rfl (nI_1 k) (Nat.le_of_ble_eq_true rfl) rfl ?_
      refine qr_goto (tgt := 58) (pc := 90) d_tf_copyFrom_90 (by decide) ?_
      exact qR_st (by rfl) rfl (rfl) (ih (k + 1) (by omega) (by omega))
  exact loop58 (4 + 1) 0 (by omega) (by omega)
set_option maxRecDepth 10000 in
theorem s_tf_copyFrom_34 (l : Launch) (x : Bool) (I : Nat → Nat → Int32) (L : Nat → Nat → Int64)  : qSp l y_tf_copyFrom b_tf_copyFrom 3 none x 1 0 0 [.ref 34, .ref 4] 77 (fm I L) (qD none 77 (fm (u_cp I 34 35 36 4) L)) := by
  refine qSp_of (ini := false) (by decide +kernel) (fun h => nomatch h) (Nat.le_of_ble_eq_true rfl) ?_
  show qR _ _ _ 0 [(0, .ref 34), (1, .ref 4)] [] _ _ _ _
  refine qr_aload_n (pc := 0) d_tf_copyFrom_0 rfl rfl ?_
  refine qr_aload_n (pc := 1) d_tf_copyFrom_1 rfl rfl ?_
  refine qr_get (v := .int (I 4 0)) (pc := 2) d_tf_copyFrom_2 fl_tf_7 (by decide) (by decide) (c_4 _ _) rfl ?_
  refine qr_putI (pc := 5) d_tf_copyFrom_5 fl_tf_7 (by decide) (by decide) (c_34 _ _) (Nat.le_of_ble_eq_true rfl) (qFit_i _) (fun w => rfl) ?_
  refine qr_aload_n (pc := 8) d_tf_copyFrom_8 rfl rfl ?_
  refine qr_aload_n (pc := 9) d_tf_copyFrom_9 rfl rfl ?_
  refine qr_get (v := .int (I 4 1)) (pc := 10) d_tf_copyFrom_10 fl_tf_13 (by decide) (by decide) (c_4 _ _) rfl ?_
  refine qr_putI (pc := 13) d_tf_copyFrom_13 fl_tf_13 (by decide) (by decide) (c_34 _ _) (Nat.le_of_ble_eq_true rfl) (qFit_i _) (fun w => rfl) ?_
  refine qr_aload_n (pc := 16) d_tf_copyFrom_16 rfl rfl ?_
  refine qr_aload_n (pc := 17) d_tf_copyFrom_17 rfl rfl ?_
  refine qr_get (v := .int (I 4 2)) (pc := 18) d_tf_copyFrom_18 fl_tf_16 (by decide) (by decide) (c_4 _ _) rfl ?_
  refine qr_putI (pc := 21) d_tf_copyFrom_21 fl_tf_16 (by decide) (by decide) (c_34 _ _) (Nat.le_of_ble_eq_true rfl) (qFit_i _) (fun w => rfl) ?_
  refine qr_aload_n (pc := 24) d_tf_copyFrom_24 rfl rfl ?_
  refine qr_aload_n (pc := 25) d_tf_copyFrom_25 rfl rfl ?_
  refine qr_get (v := .int (I 4 3)) (pc := 26) d_tf_copyFrom_26 fl_tf_19 (by decide) (by decide) (c_4 _ _) rfl ?_
  refine qr_putI (pc := 29) d_tf_copyFrom_29 fl_tf_19 (by decide) (by decide) (c_34 _ _) (Nat.le_of_ble_eq_true rfl) (qFit_i _) (fun w => rfl) ?_
  refine qr_aload_n (pc := 32) d_tf_copyFrom_32 rfl rfl ?_
  refine qr_aload_n (pc := 33) d_tf_copyFrom_33 rfl rfl ?_
  refine qr_get (v := .int (I 4 4)) (pc := 34) d_tf_copyFrom_34 fl_tf_22 (by decide) (by decide) (c_4 _ _) rfl ?_
  refine qr_putI (pc := 37) d_tf_copyFrom_37 fl_tf_22 (by decide) (by decide) (c_34 _ _) (Nat.le_of_ble_eq_true rfl) (qFit_i _) (fun w => rfl) ?_
  refine qr_aload_n (pc := 40) d_tf_copyFrom_40 rfl rfl ?_
  refine qr_aload_n (pc := 41) d_tf_copyFrom_41 rfl rfl ?_
  refine qr_get (v := .int (I 4 5)) (pc := 42) d_tf_copyFrom_42 fl_tf_25 (by decide) (by decide) (c_4 _ _) rfl ?_
  refine qr_putI (pc := 45) d_tf_copyFrom_45 fl_tf_25 (by decide) (by decide) (c_34 _ _) (Nat.le_of_ble_eq_true rfl) (qFit_i _) (fun w => rfl) ?_
  refine qr_aload_n (pc := 48) d_tf_copyFrom_48 rfl rfl ?_
  refine qr_aload_n (pc := 49) d_tf_copyFrom_49 rfl rfl ?_
  refine qr_get (v := .int (I 4 8)) (pc := 50) d_tf_copyFrom_50 fl_tf_35 (by decide) (by decide) (c_4 _ _) rfl ?_
  refine qr_putI (pc := 53) d_tf_copyFrom_53 fl_tf_35 (by decide) (by decide) (c_34 _ _) (Nat.le_of_ble_eq_true rfl) (qFit_i _) (fun w => rfl) ?_
  refine qr_iconst (v := 0) (pc := 56) d_tf_copyFrom_56 (by decide) ?_
  refine qr_istore_n (lv' := [(2, .int 0), (0, .ref 34), (1, .ref 4)]) (pc := 57) d_tf_copyFrom_57 rfl (Nat.le_of_ble_eq_true rfl) rfl ?_
  have loop58 : ∀ (j k : Nat), 4 - k < j → k ≤ 4 → qR (l, y_tf_copyFrom.cls, b_tf_copyFrom, 3, none, false, x, 1, 0, 0, 77, q0) (qD none 77 (fm (u_cp I 34 35 36 4) L)) (fun _ _ _ => False) 58 [(2, .int (nI k)), (0, .ref 34), (1, .ref 4)] [] 77 0 0 (fm (u_cp I 34 35 36 k) L) := by
    intro j
    induction j with
    | zero => intro k hj; omega
    | succ j ih =>
    intro k hjj hk
    refine qr_iload_n (pc := 58) d_tf_copyFrom_58 rfl rfl ?_
    refine qr_iconst (v := 4) (pc := 59) d_tf_copyFrom_59 (by decide) ?_
    refine qr_icmp_ge (tgt := 93) (pc := 60) d_tf_copyFrom_60 (by decide) (fun h60 => ?_) (fun h60 => ?_)
    · skip
      have hkz : 4 = k := by
        have := (nI_leI (a := 4) (b := k) (by omega) (by omega)).mp h60
        omega
      subst hkz
      exact qr_vret (pc := 93) d_tf_copyFrom_93 rfl ⟨rfl, rfl, rfl⟩ (Nat.zero_le _) (Nat.zero_le _)
    · skip
      have hkz : k < 4 := by
        have := mt (nI_leI (a := 4) (b := k) (by omega) (by omega)).mpr h60
        omega
      refine qr_aload_n (pc := 63) d_tf_copyFrom_63 rfl rfl ?_
      refine qr_get (v := .ref 35) (pc := 64) d_tf_copyFrom_64 fl_tf_28 (by decide) (by decide) (c_34 _ _) rfl ?_
      refine qr_iload_n (pc := 67) d_tf_copyFrom_67 rfl rfl ?_
      refine qr_aload_n (pc := 68) d_tf_copyFrom_68 rfl rfl ?_
      refine qr_get (v := .ref 5) (pc := 69) d_tf_copyFrom_69 fl_tf_28 (by decide) (by decide) (c_4 _ _) rfl ?_
      refine qr_iload_n (pc := 72) d_tf_copyFrom_72 rfl rfl ?_
      refine qr_ialdN (j := k) (pc := 73) d_tf_copyFrom_73 (by decide) (by decide) (c_5 _ _) (by omega) (by decide) ?_
      refine qr_iastMN (j := k) (pc := 74) d_tf_copyFrom_74 (by decide) (by decide) (c_35 _ _) (by omega) (by decide) (fun w => rfl) ?_
      refine qr_aload_n (pc := 75) d_tf_copyFrom_75 rfl rfl ?_
      refine qr_get (v := .ref 36) (pc := 76) d_tf_copyFrom_76 fl_tf_32 (by decide) (by decide) (c_34 _ _) rfl ?_
      refine qr_iload_n (pc := 79) d_tf_copyFrom_79 rfl rfl ?_
      refine qr_aload_n (pc := 80) d_tf_copyFrom_80 rfl rfl ?_
      refine qr_get (v := .ref 6) (pc := 81) d_tf_copyFrom_81 fl_tf_32 (by decide) (by decide) (c_4 _ _) rfl ?_
      refine qr_iload_n (pc := 84) d_tf_copyFrom_84 rfl rfl ?_
      refine qr_ialdN (j := k) (pc := 85) d_tf_copyFrom_85 (by decide) (by decide) (c_6 _ _) (by omega) (by decide) ?_
      refine qR_st (st' := [.int ((u_cp I 34 35 36 k) 6 k), .int (nI k), .ref 36]) rfl rfl rfl ?_
      refine qr_iastMN (j := k) (pc := 86) d_tf_copyFrom_86 (by decide) (by decide) (c_36 _ _) (by omega) (by decide) (fun w => rfl) ?_
      refine qr_iinc (v := nI (k + 1)) (lv' := [(2, .int (nI (k + 1))), (0, .ref 34), (1, .ref 4)]) (pc := 87) d_tf_copyFrom_87 rfl (nI_1 k) (Nat.le_of_ble_eq_true rfl) rfl ?_
      refine qr_goto (tgt := 58) (pc := 90) d_tf_copyFrom_90 (by decide) ?_
      exact qR_st (by rfl) rfl (rfl) (ih (k + 1) (by omega) (by omega))
  exact loop58 (4 + 1) 0 (by omega) (by omega)
