/-- has credit paid something, and the longs, behind the first k invoices -/
def m_se (I : Nat → Nat → Int32) (L : Nat → Nat → Int64) (c : Nat) : Nat → Int32 × (Nat → Nat → Int64)
  | 0 => (0, L)
  | k + 1 => if (m_se I L c k).2 61 c ≤ 0 then m_se I L c k else if I 67 k = nI c then (if (m_se I L c k).2 70 k - (m_se I L c k).2 71 k ≤ 0 then m_se I L c k else
      (1, wL (wL (m_se I L c k).2 71 k ((m_se I L c k).2 71 k + (if (m_se I L c k).2 70 k - (m_se I L c k).2 71 k < (m_se I L c k).2 61 c then (m_se I L c k).2 70 k - (m_se I L c k).2 71 k else (m_se I L c k).2 61 c))) 61 c ((m_se I L c k).2 61 c - (if (m_se I L c k).2 70 k - (m_se I L c k).2 71 k < (m_se I L c k).2 61 c then (m_se I L c k).2 70 k - (m_se I L c k).2 71 k else (m_se I L c k).2 61 c))))
    else m_se I L c k
theorem m_se_end {I : Nat → Nat → Int32} {L : Nat → Nat → Int64} {c k : Nat} (h : (m_se I L c k).2 61 c ≤ 0) : ∀ z, k ≤ z → m_se I L c z = m_se I L c k
  | 0, hz => by rw [show k = 0 by omega]
  | z + 1, hz => by
    by_cases e : k = z + 1
    · rw [e]
    · have ih := m_se_end h z (by omega)
      simp only [m_se, ih, h, if_true]
def m_setI (I : Nat → Nat → Int32) (L : Nat → Nat → Int64) (c z : Nat) : Nat → Nat → Int32 := if (m_se I L c z).1 = 0 then I else m_look I (m_se I L c z).2 c z
def m_setL (I : Nat → Nat → Int32) (L : Nat → Nat → Int64) (c z : Nat) : Nat → Nat → Int64 := (m_se I L c z).2
set_option maxRecDepth 10000 in
theorem s_md_settle (l : Launch) (x : Bool) (I : Nat → Nat → Int32) (L : Nat → Nat → Int64) (z c : Nat) (hz : I 47 29 = nI z) (hz2 : z ≤ 50) (hc : c < 5) : qSp l y_md_settle b_md_settle 8 none x 3 0 0 [.ref 47, .int (nI c)] 77 (fm I L) (qD none 77 (fm (m_setI I L c z) (m_setL I L c z))) := by
  refine qSp_of (ini := false) (by decide +kernel) (fun h => nomatch h) (Nat.le_of_ble_eq_true rfl) ?_
  show qR _ _ _ 0 [(0, .ref 47), (1, .int (nI c))] [] _ _ _ _
  have join113 : ∀ (b : Int32) (L9 : Nat → Nat → Int64), (m_se I L c z).1 = b → (m_se I L c z).2 = L9 → qR (l, y_md_settle.cls, b_md_settle, 8, none, false, x, 3, 0, 0, 77, q0) (qD none 77 (fm (m_setI I L c z) (m_setL I L c z))) (fun _ _ _ => False) 113 [(2, .int b), (0, .ref 47), (1, .int (nI c))] [] 77 0 0 (fm I L9) := by
    intro b L9 hb hL9
    refine qr_iload_n (pc := 113) d_md_settle_113 rfl rfl ?_
    refine qr_if_eq (tgt := 122) (pc := 114) d_md_settle_114 (by decide) (fun h114 => ?_) (fun h114 => ?_)
    · skip
      exact qr_vret (pc := 122) d_md_settle_122 rfl ⟨rfl, rfl, (by simp [m_setI, m_setL, *])⟩ (Nat.zero_le _) (Nat.zero_le _)
    · skip
      refine qr_aload_n (pc := 117) d_md_settle_117 rfl rfl ?_
      refine qr_iload_n (pc := 118) d_md_settle_118 rfl rfl ?_
      refine qr_callV (q := 47) (As := [.int (nI c)]) (pc := 119) d_md_settle_119 lk_md_221 im_md_look2 se_md_look2 rfl (by decide) (by decide) (c_47 _ _) (s_md_look2 _ x I L9 z c hz hz2 hc) rfl rfl (Nat.le_of_ble_eq_true rfl) (Nat.le_of_ble_eq_true rfl) (Nat.le_of_ble_eq_true rfl) (Nat.zero_le _) (Nat.zero_le _) (fun h => ⟨h, rfl, Or.inl rfl⟩) (fun v n9 f9 hE119 => ?_)
      obtain ⟨rfl, rfl, rfl⟩ := hE119
      exact qr_vret (pc := 122) d_md_settle_122 rfl ⟨rfl, rfl, (by simp [m_setI, m_setL, *])⟩ (Nat.zero_le _) (Nat.zero_le _)
  refine qr_iconst (v := 0) (pc := 0) d_md_settle_0 (by decide) ?_
  refine qr_istore_n (lv' := [(2, .int 0), (0, .ref 47), (1, .int (nI c))]) (pc := 1) d_md_settle_1 rfl (Nat.le_of_ble_eq_true rfl) rfl ?_
  refine qr_iconst (v := 0) (pc := 2) d_md_settle_2 (by decide) ?_
  refine qr_istore_n (lv' := [(3, .int 0), (2, .int 0), (0, .ref 47), (1, .int (nI c))]) (pc := 3) d_md_settle_3 rfl (Nat.le_of_ble_eq_true rfl) rfl ?_
  have loop4 : ∀ (j k : Nat), z - k < j → k ≤ z → qR (l, y_md_settle.cls, b_md_settle, 8, none, false, x, 3, 0, 0, 77, q0) (qD none 77 (fm (m_setI I L c z) (m_setL I L c z))) (fun _ _ _ => False) 4 [(3, .int (nI k)), (2, .int ((m_se I L c k).1)), (0, .ref 47), (1, .int (nI c))] [] 77 0 0 (fm I (m_se I L c k).2) := by
    intro j
    induction j with
    | zero => intro k hj; omega
    | succ j ih =>
    intro k hjj hk
    refine qr_iload_n (pc := 4) d_md_settle_4 rfl rfl ?_
    refine qr_aload_n (pc := 5) d_md_settle_5 rfl rfl ?_
    refine qr_get (v := .int (nI z)) (pc := 6) d_md_settle_6 fl_md_213 (by decide) (by decide) (c_47 _ _) (congrArg (fun t => some (Value.int t)) hz) ?_
    refine qr_icmp_ge (tgt := 113) (pc := 9) d_md_settle_9 (by decide) (fun h9 => ?_) (fun h9 => ?_)
    · skip
      have hkz : z = k := by
        have := (nI_leI (a := z) (b := k) (by omega) (by omega)).mp h9
        omega
      subst hkz
      refine qR_sub (lv' := [(2, .int ((m_se I L c z).1)), (0, .ref 47), (1, .int (nI c))]) [1, 2, 3] rfl ?_
      exact join113 _ _ (by simp [*]) (by simp [*])
    · skip
      have hkz : k < z := by
        have := mt (nI_leI (a := z) (b := k) (by omega) (by omega)).mpr h9
        omega
      refine qr_aload_n (pc := 12) d_md_settle_12 rfl rfl ?_
      refine qr_get (v := .ref 61) (pc := 13) d_md_settle_13 fl_md_53 (by decide) (by decide) (c_47 _ _) rfl ?_
      refine qr_iload_n (pc := 16) d_md_settle_16 rfl rfl ?_
      refine qr_laldN (j := c) (pc := 17) d_md_settle_17 (by decide) (by decide) (c_61 _ _) (by omega) (by decide) ?_
      refine qr_lconst (v := 0) (pc := 18) d_md_settle_18 (by decide) ?_
      refine qr_lcmp (pc := 19) d_md_settle_19 ?_
      refine qr_if_le (tgt := 113) (pc := 20) d_md_settle_20 (by decide) (fun h20 => ?_) (fun h20 => ?_)
      · skip
        rw [lgc_le] at h20
        have he := m_se_end h20 z (by omega)
        refine qR_sub (lv' := [(2, .int ((m_se I L c k).1)), (0, .ref 47), (1, .int (nI c))]) [1, 2, 3] rfl ?_
        exact join113 _ _ (by simp [*]) (by simp [*])
      · skip
        rw [lgc_le] at h20
        refine qr_aload_n (pc := 23) d_md_settle_23 rfl rfl ?_
        refine qr_get (v := .ref 70) (pc := 24) d_md_settle_24 fl_md_81 (by decide) (by decide) (c_47 _ _) rfl ?_
        refine qr_iload_n (pc := 27) d_md_settle_27 rfl rfl ?_
        refine qr_laldN (j := k) (pc := 28) d_md_settle_28 (by decide) (by decide) (c_70 _ _) (by omega) (by decide) ?_
        refine qr_aload_n (pc := 29) d_md_settle_29 rfl rfl ?_
        refine qr_get (v := .ref 71) (pc := 30) d_md_settle_30 fl_md_84 (by decide) (by decide) (c_47 _ _) rfl ?_
        refine qr_iload_n (pc := 33) d_md_settle_33 rfl rfl ?_
        refine qr_laldN (j := k) (pc := 34) d_md_settle_34 (by decide) (by decide) (c_71 _ _) (by omega) (by decide) ?_
        refine qr_lsub (pc := 35) d_md_settle_35 ?_
        refine qr_lstore (lv' := [(4, .long (((m_se I L c k).2 70 k) - ((m_se I L c k).2 71 k))), (3, .int (nI k)), (2, .int ((m_se I L c k).1)), (0, .ref 47), (1, .int (nI c))]) (pc := 36) d_md_settle_36 (Nat.le_of_ble_eq_true rfl) rfl ?_
        refine qr_aload_n (pc := 38) d_md_settle_38 rfl rfl ?_
        refine qr_get (v := .ref 67) (pc := 39) d_md_settle_39 fl_md_72 (by decide) (by decide) (c_47 _ _) rfl ?_
        refine qr_iload_n (pc := 42) d_md_settle_42 rfl rfl ?_
        refine qr_ialdN (j := k) (pc := 43) d_md_settle_43 (by decide) (by decide) (c_67 _ _) (by omega) (by decide) ?_
        refine qr_iload_n (pc := 44) d_md_settle_44 rfl rfl ?_
        refine qr_icmp_ne (tgt := 107) (pc := 45) d_md_settle_45 (by decide) (fun h45 => ?_) (fun h45 => ?_)
        · skip
          refine qr_iinc (v := nI (k + 1)) (lv' := [(3, .int (nI (k + 1))), (4, .long (((m_se I L c k).2 70 k) - ((m_se I L c k).2 71 k))), (2, .int ((m_se I L c k).1)), (0, .ref 47), (1, .int (nI c))]) (pc := 107) d_md_settle_107 rfl (nI_1 k) (Nat.le_of_ble_eq_true rfl) rfl ?_
          refine qr_goto (tgt := 4) (pc := 110) d_md_settle_110 (by decide) ?_
          refine qR_sub (lv' := [(3, .int (nI (k + 1))), (2, .int ((m_se I L c k).1)), (0, .ref 47), (1, .int (nI c))]) [0, 2, 3, 4] rfl ?_
          exact qR_st (by simp [m_se, *]) rfl (by simp [m_se, *]) (ih (k + 1) (by omega) (by omega))
        · skip
          refine qr_lload (pc := 48) d_md_settle_48 rfl ?_
          refine qr_lconst (v := 0) (pc := 50) d_md_settle_50 (by decide) ?_
          refine qr_lcmp (pc := 51) d_md_settle_51 ?_
          refine qr_if_gt (tgt := 58) (pc := 52) d_md_settle_52 (by decide) (fun h52 => ?_) (fun h52 => ?_)
          · skip
            rw [lgc_gt] at h52
            have g52 := Int64.not_le.mpr h52
            refine qr_lload (pc := 58) d_md_settle_58 rfl ?_
            refine qr_aload_n (pc := 60) d_md_settle_60 rfl rfl ?_
            refine qr_get (v := .ref 61) (pc := 61) d_md_settle_61 fl_md_53 (by decide) (by decide) (c_47 _ _) rfl ?_
            refine qr_iload_n (pc := 64) d_md_settle_64 rfl rfl ?_
            refine qr_laldN (j := c) (pc := 65) d_md_settle_65 (by decide) (by decide) (c_61 _ _) (by omega) (by decide) ?_
            refine qr_lcmp (pc := 66) d_md_settle_66 ?_
            refine qr_if_ge (tgt := 75) (pc := 67) d_md_settle_67 (by decide) (fun h67 => ?_) (fun h67 => ?_)
            · skip
              rw [lgc_ge] at h67
              have g67 := Int64.not_lt.mpr h67
              refine qr_aload_n (pc := 75) d_md_settle_75 rfl rfl ?_
              refine qr_get (v := .ref 61) (pc := 76) d_md_settle_76 fl_md_53 (by decide) (by decide) (c_47 _ _) rfl ?_
              refine qr_iload_n (pc := 79) d_md_settle_79 rfl rfl ?_
              refine qr_laldN (j := c) (pc := 80) d_md_settle_80 (by decide) (by decide) (c_61 _ _) (by omega) (by decide) ?_
              refine qr_lstore (lv' := [(6, .long ((m_se I L c k).2 61 c)), (4, .long (((m_se I L c k).2 70 k) - ((m_se I L c k).2 71 k))), (3, .int (nI k)), (2, .int ((m_se I L c k).1)), (0, .ref 47), (1, .int (nI c))]) (pc := 81) d_md_settle_81 (Nat.le_of_ble_eq_true rfl) rfl ?_
              refine qr_aload_n (pc := 83) d_md_settle_83 rfl rfl ?_
              refine qr_get (v := .ref 71) (pc := 84) d_md_settle_84 fl_md_84 (by decide) (by decide) (c_47 _ _) rfl ?_
              refine qr_iload_n (pc := 87) d_md_settle_87 rfl rfl ?_
              refine qr_dup2_11 (pc := 88) d_md_settle_88 rfl rfl ?_
              refine qr_laldN (j := k) (pc := 89) d_md_settle_89 (by decide) (by decide) (c_71 _ _) (by omega) (by decide) ?_
              refine qr_lload (pc := 90) d_md_settle_90 rfl ?_
              refine qr_ladd (pc := 92) d_md_settle_92 ?_
              refine qr_lastMN (j := k) (pc := 93) d_md_settle_93 (by decide) (by decide) (c_71 _ _) (by omega) (by decide) (fun w => rfl) ?_
              refine qr_aload_n (pc := 94) d_md_settle_94 rfl rfl ?_
              refine qr_get (v := .ref 61) (pc := 95) d_md_settle_95 fl_md_53 (by decide) (by decide) (c_47 _ _) rfl ?_
              refine qr_iload_n (pc := 98) d_md_settle_98 rfl rfl ?_
              refine qr_dup2_11 (pc := 99) d_md_settle_99 rfl rfl ?_
              refine qr_laldN (j := c) (pc := 100) d_md_settle_100 (by decide) (by decide) (c_61 _ _) (by omega) (by decide) ?_
              refine qR_st (st' := [.long ((m_se I L c k).2 61 c), .int (nI c), .ref 61]) rfl rfl rfl ?_
              refine qr_lload (pc := 101) d_md_settle_101 rfl ?_
              refine qr_lsub (pc := 103) d_md_settle_103 ?_
              refine qr_lastMN (j := c) (pc := 104) d_md_settle_104 (by decide) (by decide) (c_61 _ _) (by omega) (by decide) (fun w => rfl) ?_
              refine qr_iconst (v := 1) (pc := 105) d_md_settle_105 (by decide) ?_
              refine qr_istore_n (lv' := [(2, .int 1), (6, .long ((m_se I L c k).2 61 c)), (4, .long (((m_se I L c k).2 70 k) - ((m_se I L c k).2 71 k))), (3, .int (nI k)), (0, .ref 47), (1, .int (nI c))]) (pc := 106) d_md_settle_106 rfl (Nat.le_of_ble_eq_true rfl) rfl ?_
              refine qr_iinc (v := nI (k + 1)) (lv' := [(3, .int (nI (k + 1))), (2, .int 1), (6, .long ((m_se I L c k).2 61 c)), (4, .long (((m_se I L c k).2 70 k) - ((m_se I L c k).2 71 k))), (0, .ref 47), (1, .int (nI c))]) (pc := 107) d_md_settle_107 rfl (nI_1 k) (Nat.le_of_ble_eq_true rfl) rfl ?_
              refine qr_goto (tgt := 4) (pc := 110) d_md_settle_110 (by decide) ?_
              refine qR_sub (lv' := [(3, .int (nI (k + 1))), (2, .int 1), (0, .ref 47), (1, .int (nI c))]) [0, 1, 4, 5] rfl ?_
              exact qR_st (by simp [m_se, *]) rfl (by simp [m_se, *]) (ih (k + 1) (by omega) (by omega))
            · skip
              rw [lgc_ge] at h67
              have g67 := Int64.not_le.mp h67
              refine qr_lload (pc := 70) d_md_settle_70 rfl ?_
              refine qr_goto (tgt := 81) (pc := 72) d_md_settle_72 (by decide) ?_
              refine qr_lstore (lv' := [(6, .long (((m_se I L c k).2 70 k) - ((m_se I L c k).2 71 k))), (4, .long (((m_se I L c k).2 70 k) - ((m_se I L c k).2 71 k))), (3, .int (nI k)), (2, .int ((m_se I L c k).1)), (0, .ref 47), (1, .int (nI c))]) (pc := 81) d_md_settle_81 (Nat.le_of_ble_eq_true rfl) rfl ?_
              refine qr_aload_n (pc := 83) d_md_settle_83 rfl rfl ?_
              refine qr_get (v := .ref 71) (pc := 84) d_md_settle_84 fl_md_84 (by decide) (by decide) (c_47 _ _) rfl ?_
              refine qr_iload_n (pc := 87) d_md_settle_87 rfl rfl ?_
              refine qr_dup2_11 (pc := 88) d_md_settle_88 rfl rfl ?_
              refine qr_laldN (j := k) (pc := 89) d_md_settle_89 (by decide) (by decide) (c_71 _ _) (by omega) (by decide) ?_
              refine qr_lload (pc := 90) d_md_settle_90 rfl ?_
              refine qr_ladd (pc := 92) d_md_settle_92 ?_
              refine qr_lastMN (j := k) (pc := 93) d_md_settle_93 (by decide) (by decide) (c_71 _ _) (by omega) (by decide) (fun w => rfl) ?_
              refine qr_aload_n (pc := 94) d_md_settle_94 rfl rfl ?_
              refine qr_get (v := .ref 61) (pc := 95) d_md_settle_95 fl_md_53 (by decide) (by decide) (c_47 _ _) rfl ?_
              refine qr_iload_n (pc := 98) d_md_settle_98 rfl rfl ?_
              refine qr_dup2_11 (pc := 99) d_md_settle_99 rfl rfl ?_
              refine qr_laldN (j := c) (pc := 100) d_md_settle_100 (by decide) (by decide) (c_61 _ _) (by omega) (by decide) ?_
              refine qR_st (st' := [.long ((m_se I L c k).2 61 c), .int (nI c), .ref 61]) rfl rfl rfl ?_
              refine qr_lload (pc := 101) d_md_settle_101 rfl ?_
              refine qr_lsub (pc := 103) d_md_settle_103 ?_
              refine qr_lastMN (j := c) (pc := 104) d_md_settle_104 (by decide) (by decide) (c_61 _ _) (by omega) (by decide) (fun w => rfl) ?_
              refine qr_iconst (v := 1) (pc := 105) d_md_settle_105 (by decide) ?_
              refine qr_istore_n (lv' := [(2, .int 1), (6, .long (((m_se I L c k).2 70 k) - ((m_se I L c k).2 71 k))), (4, .long (((m_se I L c k).2 70 k) - ((m_se I L c k).2 71 k))), (3, .int (nI k)), (0, .ref 47), (1, .int (nI c))]) (pc := 106) d_md_settle_106 rfl (Nat.le_of_ble_eq_true rfl) rfl ?_
              refine qr_iinc (v := nI (k + 1)) (lv' := [(3, .int (nI (k + 1))), (2, .int 1), (6, .long (((m_se I L c k).2 70 k) - ((m_se I L c k).2 71 k))), (4, .long (((m_se I L c k).2 70 k) - ((m_se I L c k).2 71 k))), (0, .ref 47), (1, .int (nI c))]) (pc := 107) d_md_settle_107 rfl (nI_1 k) (Nat.le_of_ble_eq_true rfl) rfl ?_
              refine qr_goto (tgt := 4) (pc := 110) d_md_settle_110 (by decide) ?_
              refine qR_sub (lv' := [(3, .int (nI (k + 1))), (2, .int 1), (0, .ref 47), (1, .int (nI c))]) [0, 1, 4, 5] rfl ?_
              exact qR_st (by simp [m_se, *]) rfl (by simp [m_se, *]) (ih (k + 1) (by omega) (by omega))
          · skip
            rw [lgc_gt] at h52
            have g52 := Int64.not_lt.mp h52
            refine qr_goto (tgt := 107) (pc := 55) d_md_settle_55 (by decide) ?_
            refine qr_iinc (v := nI (k + 1)) (lv' := [(3, .int (nI (k + 1))), (4, .long (((m_se I L c k).2 70 k) - ((m_se I L c k).2 71 k))), (2, .int ((m_se I L c k).1)), (0, .ref 47), (1, .int (nI c))]) (pc := 107) d_md_settle_107 rfl (nI_1 k) (Nat.le_of_ble_eq_true rfl) rfl ?_
            refine qr_goto (tgt := 4) (pc := 110) d_md_settle_110 (by decide) ?_
            refine qR_sub (lv' := [(3, .int (nI (k + 1))), (2, .int ((m_se I L c k).1)), (0, .ref 47), (1, .int (nI c))]) [0, 2, 3, 4] rfl ?_
            exact qR_st (by simp [m_se, *]) rfl (by simp [m_se, *]) (ih (k + 1) (by omega) (by omega))
  exact loop4 (z + 1) 0 (by omega) (by omega)
set_option maxRecDepth 10000 in
theorem s_md_pay (l : Launch) (x : Bool) (I : Nat → Nat → Int32) (L : Nat → Nat → Int64) (z : Nat) (hz : I 47 29 = nI z) (hz2 : z ≤ 50) (c : Int32) (a : Int64) : qSp l y_md_pay b_md_pay 6 (some .long) x 4 0 0 [.ref 47, .int c, .long a] 77 (fm I L) (qD (some (.long (if ((0 ≤ Int32.toInt64 c ∧ Int32.toInt64 c ≤ 4) ∧ (1 ≤ a ∧ a ≤ 1000000)) then m_setL (wI I 47 0 0) (wL (wL L 47 35 (L 47 35 + a)) 61 c.toNatClampNeg (L 61 c.toNatClampNeg + a)) c.toNatClampNeg z 61 c.toNatClampNeg - L 61 c.toNatClampNeg else 0))) 77 (fm (if ((0 ≤ Int32.toInt64 c ∧ Int32.toInt64 c ≤ 4) ∧ (1 ≤ a ∧ a ≤ 1000000)) then m_setI (wI I 47 0 0) (wL (wL L 47 35 (L 47 35 + a)) 61 c.toNatClampNeg (L 61 c.toNatClampNeg + a)) c.toNatClampNeg z else wI I 47 0 1) (if ((0 ≤ Int32.toInt64 c ∧ Int32.toInt64 c ≤ 4) ∧ (1 ≤ a ∧ a ≤ 1000000)) then m_setL (wI I 47 0 0) (wL (wL L 47 35 (L 47 35 + a)) 61 c.toNatClampNeg (L 61 c.toNatClampNeg + a)) c.toNatClampNeg z else L))) := by
  refine qSp_of (ini := false) (by decide +kernel) (fun h => nomatch h) (Nat.le_of_ble_eq_true rfl) ?_
  show qR _ _ _ 0 [(0, .ref 47), (1, .int c), (2, .long a)] [] _ _ _ _
  refine qr_iload_n (pc := 0) d_md_pay_0 rfl rfl ?_
  refine qr_i2l (pc := 1) d_md_pay_1 ?_
  refine qr_lconst (v := 0) (pc := 2) d_md_pay_2 (by decide) ?_
  refine qr_ldc2 (v := 4) (pc := 3) d_md_pay_3 kl_md_201 ?_
  refine qr_callS (As := [.long (Int32.toInt64 c), .long 0, .long 4]) (pc := 6) d_md_pay_6 lk_md_106 sm_md_in (s_md_in _ x _ _ (Int32.toInt64 c) 0 4) rfl rfl (Nat.le_of_ble_eq_true rfl) (Nat.le_of_ble_eq_true rfl) (Nat.le_of_ble_eq_true rfl) (Nat.zero_le _) (Nat.zero_le _) (fun h => ⟨h, rfl, Or.inl rfl⟩) (fun v n9 f9 hE6 => ?_)
  obtain ⟨rfl, rfl, rfl⟩ := hE6
  refine qr_if_eq (tgt := 23) (pc := 9) d_md_pay_9 (by decide) (fun h9 => ?_) (fun h9 => ?_)
  · skip
    simp only [b01, Decidable.not_not] at h9
    refine qr_aload_n (pc := 23) d_md_pay_23 rfl rfl ?_
    refine qr_iconst (v := 1) (pc := 24) d_md_pay_24 (by decide) ?_
    refine qr_callV (q := 47) (As := [.int 1]) (pc := 25) d_md_pay_25 lk_md_110 im_md_refuse se_md_refuse rfl (by decide) (by decide) (c_47 _ _) (s_md_refuse _ x I L 1) rfl rfl (Nat.le_of_ble_eq_true rfl) (Nat.le_of_ble_eq_true rfl) (Nat.le_of_ble_eq_true rfl) (Nat.zero_le _) (Nat.zero_le _) (fun h => ⟨h, rfl, Or.inl rfl⟩) (fun v n9 f9 hE25 => ?_)
    obtain ⟨rfl, rfl, rfl⟩ := hE25
    refine qr_i2l (pc := 28) d_md_pay_28 ?_
    exact qr_lret (pc := 29) d_md_pay_29 rfl ⟨(by simp [i2l0, *]), rfl, (by simp [*])⟩ (Nat.zero_le _) (Nat.zero_le _)
  · skip
    simp only [b01, Decidable.not_not] at h9
    refine qr_lload_n (pc := 12) d_md_pay_12 rfl rfl ?_
    refine qr_lconst (v := 1) (pc := 13) d_md_pay_13 (by decide) ?_
    refine qr_ldc2 (v := 1000000) (pc := 14) d_md_pay_14 kl_md_172 ?_
    refine qr_callS (As := [.long a, .long 1, .long 1000000]) (pc := 17) d_md_pay_17 lk_md_106 sm_md_in (s_md_in _ x _ _ a 1 1000000) rfl rfl (Nat.le_of_ble_eq_true rfl) (Nat.le_of_ble_eq_true rfl) (Nat.le_of_ble_eq_true rfl) (Nat.zero_le _) (Nat.zero_le _) (fun h => ⟨h, rfl, Or.inl rfl⟩) (fun v n9 f9 hE17 => ?_)
    obtain ⟨rfl, rfl, rfl⟩ := hE17
    refine qr_if_ne (tgt := 30) (pc := 20) d_md_pay_20 (by decide) (fun h20 => ?_) (fun h20 => ?_)
    · skip
      simp only [b01, Decidable.not_not] at h20
      obtain ⟨c9, hc9, rfl⟩ := in_nI (n := 4) (by decide) h9
      have ccl : (nI c9).toNatClampNeg = c9 := nI_clamp (by omega)
      refine qr_aload_n (pc := 30) d_md_pay_30 rfl rfl ?_
      refine qr_iconst (v := 0) (pc := 31) d_md_pay_31 (by decide) ?_
      refine qr_putI (pc := 32) d_md_pay_32 fl_md_99 (by decide) (by decide) (c_47 _ _) (Nat.le_of_ble_eq_true rfl) (qFit_i _) (fun w => rfl) ?_
      refine qr_aload_n (pc := 35) d_md_pay_35 rfl rfl ?_
      refine qr_get (v := .ref 61) (pc := 36) d_md_pay_36 fl_md_53 (by decide) (by decide) (c_47 _ _) rfl ?_
      refine qr_iload_n (pc := 39) d_md_pay_39 rfl rfl ?_
      refine qr_laldN (j := c9) (pc := 40) d_md_pay_40 (by decide) (by decide) (c_61 _ _) (by omega) (by decide) ?_
      refine qr_lstore (lv' := [(4, .long (L 61 c9)), (0, .ref 47), (1, .int (nI c9)), (2, .long a)]) (pc := 41) d_md_pay_41 (Nat.le_of_ble_eq_true rfl) rfl ?_
      refine qr_aload_n (pc := 43) d_md_pay_43 rfl rfl ?_
      refine qr_dup (pc := 44) d_md_pay_44 rfl ?_
      refine qr_get (v := .long (L 47 35)) (pc := 45) d_md_pay_45 fl_md_227 (by decide) (by decide) (c_47 _ _) rfl ?_
      refine qr_lload_n (pc := 48) d_md_pay_48 rfl rfl ?_
      refine qr_ladd (pc := 49) d_md_pay_49 ?_
      refine qr_putL (pc := 50) d_md_pay_50 fl_md_227 (by decide) (by decide) (c_47 _ _) (Nat.le_of_ble_eq_true rfl) (qFit_l _) (fun w => rfl) ?_
      refine qr_aload_n (pc := 53) d_md_pay_53 rfl rfl ?_
      refine qr_get (v := .ref 61) (pc := 54) d_md_pay_54 fl_md_53 (by decide) (by decide) (c_47 _ _) rfl ?_
      refine qr_iload_n (pc := 57) d_md_pay_57 rfl rfl ?_
      refine qr_dup2_11 (pc := 58) d_md_pay_58 rfl rfl ?_
      refine qr_laldN (j := c9) (pc := 59) d_md_pay_59 (by decide) (by decide) (c_61 _ _) (by omega) (by decide) ?_
      refine qR_st (st' := [.long (L 61 c9), .int (nI c9), .ref 61]) rfl rfl rfl ?_
      refine qr_lload_n (pc := 60) d_md_pay_60 rfl rfl ?_
      refine qr_ladd (pc := 61) d_md_pay_61 ?_
      refine qr_lastMN (j := c9) (pc := 62) d_md_pay_62 (by decide) (by decide) (c_61 _ _) (by omega) (by decide) (fun w => rfl) ?_
      refine qr_aload_n (pc := 63) d_md_pay_63 rfl rfl ?_
      refine qr_iload_n (pc := 64) d_md_pay_64 rfl rfl ?_
      refine qr_callV (q := 47) (As := [.int (nI c9)]) (pc := 65) d_md_pay_65 lk_md_224 im_md_settle se_md_settle rfl (by decide) (by decide) (c_47 _ _) (s_md_settle _ x (wI I 47 0 0) (wL (wL L 47 35 ((L 47 35) + a)) 61 c9 ((L 61 c9) + a)) z c9 hz hz2 (by omega)) rfl rfl (Nat.le_of_ble_eq_true rfl) (Nat.le_of_ble_eq_true rfl) (Nat.le_of_ble_eq_true rfl) (Nat.zero_le _) (Nat.zero_le _) (fun h => ⟨h, rfl, Or.inl rfl⟩) (fun v n9 f9 hE65 => ?_)
      obtain ⟨rfl, rfl, rfl⟩ := hE65
      refine qr_aload_n (pc := 68) d_md_pay_68 rfl rfl ?_
      refine qr_get (v := .ref 61) (pc := 69) d_md_pay_69 fl_md_53 (by decide) (by decide) (c_47 _ _) rfl ?_
      refine qr_iload_n (pc := 72) d_md_pay_72 rfl rfl ?_
      refine qr_laldN (j := c9) (pc := 73) d_md_pay_73 (by decide) (by decide) (c_61 _ _) (by omega) (by decide) ?_
      refine qr_lload (pc := 74) d_md_pay_74 rfl ?_
      refine qr_lsub (pc := 76) d_md_pay_76 ?_
      exact qr_lret (pc := 77) d_md_pay_77 rfl ⟨(by simp [i2l0, *]), rfl, (by simp [*])⟩ (Nat.zero_le _) (Nat.zero_le _)
    · skip
      simp only [b01, Decidable.not_not] at h20
      refine qr_aload_n (pc := 23) d_md_pay_23 rfl rfl ?_
      refine qr_iconst (v := 1) (pc := 24) d_md_pay_24 (by decide) ?_
      refine qr_callV (q := 47) (As := [.int 1]) (pc := 25) d_md_pay_25 lk_md_110 im_md_refuse se_md_refuse rfl (by decide) (by decide) (c_47 _ _) (s_md_refuse _ x I L 1) rfl rfl (Nat.le_of_ble_eq_true rfl) (Nat.le_of_ble_eq_true rfl) (Nat.le_of_ble_eq_true rfl) (Nat.zero_le _) (Nat.zero_le _) (fun h => ⟨h, rfl, Or.inl rfl⟩) (fun v n9 f9 hE25 => ?_)
      obtain ⟨rfl, rfl, rfl⟩ := hE25
      refine qr_i2l (pc := 28) d_md_pay_28 ?_
      exact qr_lret (pc := 29) d_md_pay_29 rfl ⟨(by simp [i2l0, *]), rfl, (by simp [*])⟩ (Nat.zero_le _) (Nat.zero_le _)
