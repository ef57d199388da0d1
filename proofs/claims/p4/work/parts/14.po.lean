set_option maxRecDepth 10000 in
theorem s_ib_payOpen (l : Launch) (x : Bool) (I : Nat → Nat → Int32) (L : Nat → Nat → Int64) (z : Nat) (hz : I 14 5 = nI z) (hz2 : z ≤ 50) (c : Int32) (cr : Int64) : qSp l y_ib_payOpen b_ib_payOpen 9 (some .long) x 1 0 0 [.ref 14, .int c, .long cr] 77 (fm I L) (qD (some (.long (cr - (u_po I L c cr z).1))) 77 (fm I (u_po I L c cr z).2)) := by
  refine qSp_of (ini := false) (by decide +kernel) (fun h => nomatch h) (Nat.le_of_ble_eq_true rfl) ?_
  show qR _ _ _ 0 [(0, .ref 14), (1, .int c), (2, .long cr)] [] _ _ _ _
  refine qr_lload_n (pc := 0) d_ib_payOpen_0 rfl rfl ?_
  refine qr_lstore (lv' := [(4, .long cr), (0, .ref 14), (1, .int c), (2, .long cr)]) (pc := 1) d_ib_payOpen_1 (Nat.le_of_ble_eq_true rfl) rfl ?_
  refine qr_iconst (v := 0) (pc := 3) d_ib_payOpen_3 (by decide) ?_
  refine qr_istore (lv' := [(6, .int 0), (4, .long cr), (0, .ref 14), (1, .int c), (2, .long cr)]) (pc := 4) d_ib_payOpen_4 (Nat.le_of_ble_eq_true rfl) rfl ?_
  have loop6 : ∀ (j k : Nat), z - k < j → k ≤ z → qR (l, y_ib_payOpen.cls, b_ib_payOpen, 9, (some .long), false, x, 1, 0, 0, 77, q0) (qD (some (.long (cr - (u_po I L c cr z).1))) 77 (fm I (u_po I L c cr z).2)) (fun _ _ _ => False) 6 [(6, .int (nI k)), (4, .long ((u_po I L c cr k).1)), (0, .ref 14), (1, .int c), (2, .long cr)] [] 77 0 0 (fm I (u_po I L c cr k).2) := by
    intro j
    induction j with
    | zero => intro k hj; omega
    | succ j ih =>
    intro k hjj hk
    refine qr_iload (pc := 6) d_ib_payOpen_6 rfl ?_
    refine qr_aload_n (pc := 8) d_ib_payOpen_8 rfl rfl ?_
    refine qr_get (v := .int (nI z)) (pc := 9) d_ib_payOpen_9 fl_ib_26 (by decide) (by decide) (c_14 _ _) (congrArg (fun t => some (Value.int t)) hz) ?_
    refine qr_icmp_ge (tgt := 80) (pc := 12) d_ib_payOpen_12 (by decide) (fun h12 => ?_) (fun h12 => ?_)
    · skip
      have hkz : z = k := by
        have := (nI_leI (a := z) (b := k) (by omega) (by omega)).mp h12
        omega
      subst hkz
      refine qr_lload_n (pc := 80) d_ib_payOpen_80 rfl rfl ?_
      refine qr_lload (pc := 81) d_ib_payOpen_81 rfl ?_
      refine qr_lsub (pc := 83) d_ib_payOpen_83 ?_
      exact qr_lret (pc := 84) d_ib_payOpen_84 rfl ⟨(by simp [*]), rfl, (by simp [*])⟩ (Nat.zero_le _) (Nat.zero_le _)
    · skip
      have hkz : k < z := by
        have := mt (nI_leI (a := z) (b := k) (by omega) (by omega)).mpr h12
        omega
      refine qr_lload (pc := 15) d_ib_payOpen_15 rfl ?_
      refine qr_lconst (v := 0) (pc := 17) d_ib_payOpen_17 (by decide) ?_
      refine qr_lcmp (pc := 18) d_ib_payOpen_18 ?_
      refine qr_if_le (tgt := 80) (pc := 19) d_ib_payOpen_19 (by decide) (fun h19 => ?_) (fun h19 => ?_)
      · skip
        rw [lgc_le] at h19
        have he := u_po_end h19 z (by omega)
        refine qr_lload_n (pc := 80) d_ib_payOpen_80 rfl rfl ?_
        refine qr_lload (pc := 81) d_ib_payOpen_81 rfl ?_
        refine qr_lsub (pc := 83) d_ib_payOpen_83 ?_
        exact qr_lret (pc := 84) d_ib_payOpen_84 rfl ⟨(by simp [*]), rfl, (by simp [*])⟩ (Nat.zero_le _) (Nat.zero_le _)
      · skip
        rw [lgc_le] at h19
        refine qr_aload_n (pc := 22) d_ib_payOpen_22 rfl rfl ?_
        refine qr_get (v := .ref 15) (pc := 23) d_ib_payOpen_23 fl_ib_9 (by decide) (by decide) (c_14 _ _) rfl ?_
        refine qr_iload (pc := 26) d_ib_payOpen_26 rfl ?_
        refine qr_ialdN (j := k) (pc := 28) d_ib_payOpen_28 (by decide) (by decide) (c_15 _ _) (by omega) (by decide) ?_
        refine qr_iload_n (pc := 29) d_ib_payOpen_29 rfl rfl ?_
        refine qr_icmp_ne (tgt := 74) (pc := 30) d_ib_payOpen_30 (by decide) (fun h30 => ?_) (fun h30 => ?_)
        · skip
          refine qr_iinc (v := nI (k + 1)) (lv' := [(6, .int (nI (k + 1))), (4, .long ((u_po I L c cr k).1)), (0, .ref 14), (1, .int c), (2, .long cr)]) (pc := 74) d_ib_payOpen_74 rfl (nI_1 k) (Nat.le_of_ble_eq_true rfl) rfl ?_
          refine qr_goto (tgt := 6) (pc := 77) d_ib_payOpen_77 (by decide) ?_
          exact qR_st (by simp only [u_po, h19, h30, if_true, if_false, not_true_eq_false, not_false_eq_true, reduceIte]) rfl (by simp only [u_po, h19, h30, if_true, if_false, not_true_eq_false, not_false_eq_true, reduceIte]) (ih (k + 1) (by omega) (by omega))
        · skip
          refine qr_lload (pc := 33) d_ib_payOpen_33 rfl ?_
          refine qr_aload_n (pc := 35) d_ib_payOpen_35 rfl rfl ?_
          refine qr_get (v := .ref 17) (pc := 36) d_ib_payOpen_36 fl_ib_16 (by decide) (by decide) (c_14 _ _) rfl ?_
          refine qr_iload (pc := 39) d_ib_payOpen_39 rfl ?_
          refine qr_laldN (j := k) (pc := 41) d_ib_payOpen_41 (by decide) (by decide) (c_17 _ _) (by omega) (by decide) ?_
          refine qr_aload_n (pc := 42) d_ib_payOpen_42 rfl rfl ?_
          refine qr_get (v := .ref 19) (pc := 43) d_ib_payOpen_43 fl_ib_23 (by decide) (by decide) (c_14 _ _) rfl ?_
          refine qr_iload (pc := 46) d_ib_payOpen_46 rfl ?_
          refine qr_laldN (j := k) (pc := 48) d_ib_payOpen_48 (by decide) (by decide) (c_19 _ _) (by omega) (by decide) ?_
          refine qr_lsub (pc := 49) d_ib_payOpen_49 ?_
          refine qr_mminl (pc := 50) d_ib_payOpen_50 lk_ib_34 s_mminl i_math c_mminl (Nat.le_of_ble_eq_true rfl) (Nat.le_of_ble_eq_true rfl) (Nat.zero_le _) (Nat.zero_le _) ?_
          refine qr_lstore (lv' := [(7, .long (qmminl ((u_po I L c cr k).1) (((u_po I L c cr k).2 17 k) - ((u_po I L c cr k).2 19 k)))), (6, .int (nI k)), (4, .long ((u_po I L c cr k).1)), (0, .ref 14), (1, .int c), (2, .long cr)]) (pc := 53) d_ib_payOpen_53 (Nat.le_of_ble_eq_true rfl) rfl ?_
          refine qr_aload_n (pc := 55) d_ib_payOpen_55 rfl rfl ?_
          refine qr_get (v := .ref 19) (pc := 56) d_ib_payOpen_56 fl_ib_23 (by decide) (by decide) (c_14 _ _) rfl ?_
          refine qr_iload (pc := 59) d_ib_payOpen_59 rfl ?_
          refine qr_dup2_11 (pc := 61) d_ib_payOpen_61 rfl rfl ?_
          refine qr_laldN (j := k) (pc := 62) d_ib_payOpen_62 (by decide) (by decide) (c_19 _ _) (by omega) (by decide) ?_
          refine qr_lload (pc := 63) d_ib_payOpen_63 rfl ?_
          refine qr_ladd (pc := 65) d_ib_payOpen_65 ?_
          refine qr_lastMN (j := k) (pc := 66) d_ib_payOpen_66 (by decide) (by decide) (c_19 _ _) (by omega) (by decide) (fun w => rfl) ?_
          refine qr_lload (pc := 67) d_ib_payOpen_67 rfl ?_
          refine qr_lload (pc := 69) d_ib_payOpen_69 rfl ?_
          refine qr_lsub (pc := 71) d_ib_payOpen_71 ?_
          refine qr_lstore (lv' := [(4, .long (((u_po I L c cr k).1) - (qmminl ((u_po I L c cr k).1) (((u_po I L c cr k).2 17 k) - ((u_po I L c cr k).2 19 k))))), (7, .long (qmminl ((u_po I L c cr k).1) (((u_po I L c cr k).2 17 k) - ((u_po I L c cr k).2 19 k)))), (6, .int (nI k)), (0, .ref 14), (1, .int c), (2, .long cr)]) (pc := 72) d_ib_payOpen_72 (Nat.le_of_ble_eq_true rfl) rfl ?_
          refine qr_iinc (v := nI (k + 1)) (lv' := [(6, .int (nI (k + 1))), (4, .long (((u_po I L c cr k).1) - (qmminl ((u_po I L c cr k).1) (((u_po I L c cr k).2 17 k) - ((u_po I L c cr k).2 19 k))))), (7, .long (qmminl ((u_po I L c cr k).1) (((u_po I L c cr k).2 17 k) - ((u_po I L c cr k).2 19 k)))), (0, .ref 14), (1, .int c), (2, .long cr)]) (pc := 74) d_ib_payOpen_74 rfl (nI_1 k) (Nat.le_of_ble_eq_true rfl) rfl ?_
          refine qr_goto (tgt := 6) (pc := 77) d_ib_payOpen_77 (by decide) ?_
          refine qR_sub (lv' := [(6, .int (nI (k + 1))), (4, .long (((u_po I L c cr k).1) - (qmminl ((u_po I L c cr k).1) (((u_po I L c cr k).2 17 k) - ((u_po I L c cr k).2 19 k))))), (0, .ref 14), (1, .int c), (2, .long cr)]) [0, 1, 3, 4, 5] rfl ?_
          exact qR_st (by simp only [u_po, h19, h30, if_true, if_false, not_true_eq_false, not_false_eq_true, reduceIte]) rfl (by simp only [u_po, h19, h30, if_true, if_false, not_true_eq_false, not_false_eq_true, reduceIte]) (ih (k + 1) (by omega) (by omega))
  exact loop6 (z + 1) 0 (by omega) (by omega)
