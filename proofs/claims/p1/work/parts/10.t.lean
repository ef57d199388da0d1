/-- what is open of the first k invoices of customer c -/
def u_open (I : Nat → Nat → Int32) (L : Nat → Nat → Int64) (c : Int32) : Nat → Int64
  | 0 => 0
  | k + 1 => if I 15 k = c then u_open I L c k + (L 17 k - L 19 k) else u_open I L c k
set_option maxRecDepth 10000 in
theorem s_al_yearOf (l : Launch) (x : Bool) (n : Nat) (f : Nat → va_E) (p : Int32) : qSp l y_al_yearOf b_al_yearOf 1 (some .int) x 1 0 0 [.int p] n f (qD (some (.int (2000 + p / 12))) n f) := by
  refine qSp_of (ini := false) (by decide +kernel) (fun h => nomatch h) (Nat.le_of_ble_eq_true rfl) ?_
  show qR _ _ _ 0 [(0, .int p)] [] _ _ _ _
  refine qr_sipush (v := 2000) (pc := 0) d_al_yearOf_0 (by decide) ?_
  refine qr_iload_n (pc := 3) d_al_yearOf_3 rfl rfl ?_
  refine qr_bipush (v := 12) (pc := 4) d_al_yearOf_4 (by decide) ?_
  refine qr_idiv (pc := 6) d_al_yearOf_6 (by decide) ?_
  refine qr_iadd (pc := 7) d_al_yearOf_7 ?_
  exact qr_iret (pc := 8) d_al_yearOf_8 rfl rfl ⟨rfl, rfl, rfl⟩ (Nat.zero_le _) (Nat.zero_le _)
set_option maxRecDepth 10000 in
theorem s_al_monthOf (l : Launch) (x : Bool) (n : Nat) (f : Nat → va_E) (p : Int32) : qSp l y_al_monthOf b_al_monthOf 1 (some .int) x 1 0 0 [.int p] n f (qD (some (.int ((p - p / 12 * 12) + 1))) n f) := by
  refine qSp_of (ini := false) (by decide +kernel) (fun h => nomatch h) (Nat.le_of_ble_eq_true rfl) ?_
  show qR _ _ _ 0 [(0, .int p)] [] _ _ _ _
  refine qr_iload_n (pc := 0) d_al_monthOf_0 rfl rfl ?_
  refine qr_bipush (v := 12) (pc := 1) d_al_monthOf_1 (by decide) ?_
  refine qr_irem (pc := 3) d_al_monthOf_3 (by decide) ?_
  refine qr_iconst (v := 1) (pc := 4) d_al_monthOf_4 (by decide) ?_
  refine qr_iadd (pc := 5) d_al_monthOf_5 ?_
  exact qr_iret (pc := 6) d_al_monthOf_6 rfl rfl ⟨rfl, rfl, rfl⟩ (Nat.zero_le _) (Nat.zero_le _)
set_option maxRecDepth 10000 in
theorem s_ib_openOf (l : Launch) (x : Bool) (I : Nat → Nat → Int32) (L : Nat → Nat → Int64) (c : Int32) (z : Nat) (hz : I 14 5 = nI z) (hz2 : z ≤ 50) : qSp l y_ib_openOf b_ib_openOf 5 (some .long) x 1 0 0 [.ref 14, .int c] 77 (fm I L) (qD (some (.long (u_open I L c z))) 77 (fm I L)) := by
  refine qSp_of (ini := false) (by decide +kernel) (fun h => nomatch h) (Nat.le_of_ble_eq_true rfl) ?_
  show qR _ _ _ 0 [(0, .ref 14), (1, .int c)] [] _ _ _ _
  refine qr_lconst (v := 0) (pc := 0) d_ib_openOf_0 (by decide) ?_
  refine qr_lstore_n (lv' := [(2, .long 0), (0, .ref 14), (1, .int c)]) (pc := 1) d_ib_openOf_1 rfl (Nat.le_of_ble_eq_true rfl) rfl ?_
  refine qr_iconst (v := 0) (pc := 2) d_ib_openOf_2 (by decide) ?_
  refine qr_istore (lv' := [(4, .int 0), (2, .long 0), (0, .ref 14), (1, .int c)]) (pc := 3) d_ib_openOf_3 (Nat.le_of_ble_eq_true rfl) rfl ?_
  have loop5 : ∀ (j k : Nat), z - k < j → k ≤ z → qR (l, y_ib_openOf.cls, b_ib_openOf, 5, (some .long), false, x, 1, 0, 0, 77) (qD (some (.long (u_open I L c z))) 77 (fm I L)) (fun _ _ _ => False) 5 [(4, .int (nI k)), (2, .long (u_open I L c k)), (0, .ref 14), (1, .int c)] [] 77 0 0 (fm I L) := by
    intro j
    induction j with
    | zero => intro k hj; omega
    | succ j ih =>
    intro k hj hk
    refine qr_iload (pc := 5) d_ib_openOf_5 rfl ?_
    refine qr_aload_n (pc := 7) d_ib_openOf_7 rfl rfl ?_
    refine qr_get (v := .int (I 14 5)) (pc := 8) d_ib_openOf_8 fl_ib_26 (by decide) (by decide) (c_14 _ _) rfl ?_
    refine qr_icmp_ge (tgt := 49) (pc := 11) d_ib_openOf_11 (by decide) (fun h11 => ?_) (fun h11 => ?_)
    · skip
      have hkz : k = z := by
        rw [hz] at h11
        have := (nI_leI (by omega) (by omega)).mp h11
        omega
      subst hkz
      refine qr_lload_n (pc := 49) d_ib_openOf_49 rfl rfl ?_
      exact qr_lret (pc := 50) d_ib_openOf_50 rfl ⟨rfl, rfl, rfl⟩ (Nat.zero_le _) (Nat.zero_le _)
    · skip
      have hkz : k < z := by
        rw [hz] at h11
        have := mt (nI_leI (a := z) (b := k) (by omega) (by omega)).mpr h11
        omega
      refine qr_aload_n (pc := 14) d_ib_openOf_14 rfl rfl ?_
      refine qr_get (v := .ref 15) (pc := 15) d_ib_openOf_15 fl_ib_9 (by decide) (by decide) (c_14 _ _) rfl ?_
      refine qr_iload (pc := 18) d_ib_openOf_18 rfl ?_
      refine qr_ialdN (j := k) (pc := 20) d_ib_openOf_20 (by decide) (by decide) (c_15 _ _) (by omega) (by decide) ?_
      refine qr_iload_n (pc := 21) d_ib_openOf_21 rfl rfl ?_
      refine qr_icmp_ne (tgt := 43) (pc := 22) d_ib_openOf_22 (by decide) (fun h22 => ?_) (fun h22 => ?_)
      · skip
        refine qr_iinc (v := nI (k + 1)) (lv' := [(4, .int (nI (k + 1))), (2, .long (u_open I L c k)), (0, .ref 14), (1, .int c)]) (pc := 43) d_ib_openOf_43 rfl (nI_1 k) (Nat.le_of_ble_eq_true rfl) rfl ?_
        refine qr_goto (tgt := 5) (pc := 46) d_ib_openOf_46 (by decide) ?_
        exact qR_st (by simp only [u_open, h22, if_true, if_false, not_true_eq_false]) rfl rfl (ih (k + 1) (by omega) (by omega))
      · skip
        refine qr_lload_n (pc := 25) d_ib_openOf_25 rfl rfl ?_
        refine qr_aload_n (pc := 26) d_ib_openOf_26 rfl rfl ?_
        refine qr_get (v := .ref 17) (pc := 27) d_ib_openOf_27 fl_ib_16 (by decide) (by decide) (c_14 _ _) rfl ?_
        refine qr_iload (pc := 30) d_ib_openOf_30 rfl ?_
        refine qr_laldN (j := k) (pc := 32) d_ib_openOf_32 (by decide) (by decide) (c_17 _ _) (by omega) (by decide) ?_
        refine qr_aload_n (pc := 33) d_ib_openOf_33 rfl rfl ?_
        refine qr_get (v := .ref 19) (pc := 34) d_ib_openOf_34 fl_ib_23 (by decide) (by decide) (c_14 _ _) rfl ?_
        refine qr_iload (pc := 37) d_ib_openOf_37 rfl ?_
        refine qr_laldN (j := k) (pc := 39) d_ib_openOf_39 (by decide) (by decide) (c_19 _ _) (by omega) (by decide) ?_
        refine qr_lsub (pc := 40) d_ib_openOf_40 ?_
        refine qr_ladd (pc := 41) d_ib_openOf_41 ?_
        refine qr_lstore_n (lv' := [(2, .long ((u_open I L c k) + ((L 17 k) - (L 19 k)))), (4, .int (nI k)), (0, .ref 14), (1, .int c)]) (pc := 42) d_ib_openOf_42 rfl (Nat.le_of_ble_eq_true rfl) rfl ?_
        refine qr_iinc (v := nI (k + 1)) (lv' := [(4, .int (nI (k + 1))), (2, .long ((u_open I L c k) + ((L 17 k) - (L 19 k)))), (0, .ref 14), (1, .int c)]) (pc := 43) d_ib_openOf_43 rfl (nI_1 k) (Nat.le_of_ble_eq_true rfl) rfl ?_
        refine qr_goto (tgt := 5) (pc := 46) d_ib_openOf_46 (by decide) ?_
        exact qR_st (by simp only [u_open, h22, if_true, if_false, not_true_eq_false]) rfl rfl (ih (k + 1) (by omega) (by omega))
  exact loop5 (z + 1) 0 (by omega) (by omega)
