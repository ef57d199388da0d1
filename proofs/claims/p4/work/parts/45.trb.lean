/-! readNumber: K digits from a on (at most 5), e: a sixth follows -/
def u_dg (I : Nat → Nat → Int32) (b n : Nat) : Prop := b < n ∧ ¬ I 2 b < 48 ∧ ¬ 57 < I 2 b
def u_nv (I : Nat → Nat → Int32) (a : Nat) : Nat → Int32
  | 0 => 0
  | k + 1 => u_nv I a k * 10 + (I 2 (a + k) - 48)
def u_nr (I : Nat → Nat → Int32) (a K : Nat) (low : Int32) (e : Bool) : Int32 := if e = true then 0 else if K = 0 ∨ u_nv I a K < low then 0 else u_nv I a K
def u_nw (I : Nat → Nat → Int32) (a K : Nat) (low : Int32) (e : Bool) : Nat → Nat → Int32 := if e = true then wI (wI I 1 4 (nI (a + K))) 1 6 (nI (a + K)) else if K = 0 ∨ u_nv I a K < low then wI (wI I 1 4 (nI (a + K))) 1 6 (nI a) else wI I 1 4 (nI (a + K))
set_option maxRecDepth 10000 in
theorem s_tr_readNumber (l : Launch) (x : Bool) (I : Nat → Nat → Int32) (L : Nat → Nat → Int64) (a n : Nat) (ha : I 1 4 = nI a) (hn : I 1 3 = nI n) (ha2 : a ≤ n) (hn2 : n ≤ 60) (a1 : Nat) (hb1 : a ≤ a1) (hb2 : ∀ i, a ≤ i → i < a1 → i < n ∧ I 2 i = 32) (hb3 : ¬ (a1 < n ∧ I 2 a1 = 32)) (hb4 : a1 ≤ n) (K : Nat) (low : Int32) (hK1 : ∀ k, k < K → u_dg I (a1 + k) n) (hK2 : K ≤ 5) (hK3 : K < 5 → ¬ u_dg I (a1 + K) n) (hK4 : a1 + K ≤ n) (e : Bool) (he : e = true ↔ u_dg I (a1 + K) n) : qSp l y_tr_readNumber b_tr_readNumber 4 (some .int) x 3 0 0 [.ref 1, .int low] 77 (fm I L) (qD (some (.int (u_nr I a1 K low e))) 77 (fm (u_nw I a1 K low e) L)) := by
  refine qSp_of (ini := false) (by decide +kernel) (fun h => nomatch h) (Nat.le_of_ble_eq_true rfl) ?_
  have hn9 : ∀ b, wI I 1 4 (nI b) 1 3 = nI n := fun b => (wI_ne (Or.inr (by decide))).trans hn
  show qR _ _ _ 0 [(0, .ref 1), (1, .int low)] [] _ _ _ _
  refine qr_aload_n (pc := 0) d_tr_readNumber_0 rfl rfl ?_
  refine qr_callV (q := 1) (As := []) (pc := 1) d_tr_readNumber_1 lk_tr_45 im_tr_skipBlanks se_tr_skipBlanks rfl (by decide) (by decide) (c_1 _ _) (s_tr_skipBlanks _ x I L a n ha hn ha2 hn2 a1 hb1 hb2 hb3 hb4) rfl rfl (Nat.le_of_ble_eq_true rfl) (Nat.le_of_ble_eq_true rfl) (Nat.le_of_ble_eq_true rfl) (Nat.zero_le _) (Nat.zero_le _) (fun h => ⟨h, rfl, Or.inl rfl⟩) (fun v n9 f9 hE1 => ?_)
  obtain ⟨rfl, rfl, rfl⟩ := hE1
  refine qr_aload_n (pc := 4) d_tr_readNumber_4 rfl rfl ?_
  refine qr_get (v := .int (nI a1)) (pc := 5) d_tr_readNumber_5 fl_tr_30 (by decide) (by decide) (c_1 _ _) (congrArg (fun t => some (Value.int t)) (wI_at I 1 4 (nI a1))) ?_
  refine qr_istore_n (lv' := [(2, .int (nI a1)), (0, .ref 1), (1, .int low)]) (pc := 8) d_tr_readNumber_8 rfl (Nat.le_of_ble_eq_true rfl) rfl ?_
  refine qr_iconst (v := 0) (pc := 9) d_tr_readNumber_9 (by decide) ?_
  refine qr_istore_n (lv' := [(3, .int 0), (2, .int (nI a1)), (0, .ref 1), (1, .int low)]) (pc := 10) d_tr_readNumber_10 rfl (Nat.le_of_ble_eq_true rfl) rfl ?_
  have loop11 : ∀ (j k : Nat), K - k < j → k ≤ K → qR (l, y_tr_readNumber.cls, b_tr_readNumber, 4, (some .int), false, x, 3, 0, 0, 77, q0) (qD (some (.int (u_nr I a1 K low e))) 77 (fm (u_nw I a1 K low e) L)) (fun _ _ _ => False) 11 [(3, .int (u_nv I a1 k)), (2, .int (nI a1)), (0, .ref 1), (1, .int low)] [] 77 0 0 (fm (wI I 1 4 (nI (a1 + k))) L) := by
    intro j
    induction j with
    | zero => intro k hj; omega
    | succ j ih =>
    intro k hj hk
    refine qr_aload_n (pc := 11) d_tr_readNumber_11 rfl rfl ?_
    refine qr_get (v := .int (nI (a1 + k))) (pc := 12) d_tr_readNumber_12 fl_tr_30 (by decide) (by decide) (c_1 _ _) (congrArg (fun t => some (Value.int t)) (wI_at I 1 4 (nI (a1 + k)))) ?_
    refine qr_aload_n (pc := 15) d_tr_readNumber_15 rfl rfl ?_
    refine qr_get (v := .int (nI n)) (pc := 16) d_tr_readNumber_16 fl_tr_26 (by decide) (by decide) (c_1 _ _) (congrArg (fun t => some (Value.int t)) (hn9 (a1 + k))) ?_
    refine qr_icmp_ge (tgt := 101) (pc := 19) d_tr_readNumber_19 (by decide) (fun h19 => ?_) (fun h19 => ?_)
    · skip
      have hkK : K = k := by
        rcases Nat.lt_or_ge k K with q | q
        · exact absurd (hK1 k q) (fun q2 => absurd q2.1 (Nat.not_lt.mpr ((nI_leI (by omega) (by omega)).mp h19)))
        · omega
      subst hkK
      have he2 : ¬ e = true := fun q => (fun q2 : u_dg I (a1 + K) n => absurd q2.1 (Nat.not_lt.mpr ((nI_leI (by omega) (by omega)).mp h19))) (he.mp q)
      refine qr_aload_n (pc := 101) d_tr_readNumber_101 rfl rfl ?_
      refine qr_get (v := .int (nI (a1 + K))) (pc := 102) d_tr_readNumber_102 fl_tr_30 (by decide) (by decide) (c_1 _ _) (congrArg (fun t => some (Value.int t)) (wI_at I 1 4 (nI (a1 + K)))) ?_
      refine qr_iload_n (pc := 105) d_tr_readNumber_105 rfl rfl ?_
      refine qr_icmp_eq (tgt := 114) (pc := 106) d_tr_readNumber_106 (by decide) (fun h106 => ?_) (fun h106 => ?_)
      · skip
        have hK0 : K = 0 := by
          have h8 := congrArg Int32.toNatClampNeg h106
          rw [nI_clamp (by omega), nI_clamp (by omega)] at h8
          omega
        refine qr_aload_n (pc := 114) d_tr_readNumber_114 rfl rfl ?_
        refine qr_iload_n (pc := 115) d_tr_readNumber_115 rfl rfl ?_
        refine qr_putI (pc := 116) d_tr_readNumber_116 fl_tr_36 (by decide) (by decide) (c_1 _ _) (Nat.le_of_ble_eq_true rfl) (qFit_i _) (fun w => rfl) ?_
        refine qr_iconst (v := 0) (pc := 119) d_tr_readNumber_119 (by decide) ?_
        exact qr_iret (pc := 120) d_tr_readNumber_120 rfl rfl ⟨(by simp [u_nr, *]), rfl, (by simp [u_nw, *])⟩ (Nat.zero_le _) (Nat.zero_le _)
      · skip
        have hK0 : ¬ K = 0 := fun q => h106 (by rw [q]; rfl)
        refine qr_iload_n (pc := 109) d_tr_readNumber_109 rfl rfl ?_
        refine qr_iload_n (pc := 110) d_tr_readNumber_110 rfl rfl ?_
        refine qr_icmp_ge (tgt := 121) (pc := 111) d_tr_readNumber_111 (by decide) (fun h111 => ?_) (fun h111 => ?_)
        · skip
          have g111 := Int32.not_lt.mpr h111
          refine qr_iload_n (pc := 121) d_tr_readNumber_121 rfl rfl ?_
          exact qr_iret (pc := 122) d_tr_readNumber_122 rfl rfl ⟨(by simp [u_nr, *]), rfl, (by simp [u_nw, *])⟩ (Nat.zero_le _) (Nat.zero_le _)
        · skip
          have g111 := Int32.not_le.mp h111
          refine qr_aload_n (pc := 114) d_tr_readNumber_114 rfl rfl ?_
          refine qr_iload_n (pc := 115) d_tr_readNumber_115 rfl rfl ?_
          refine qr_putI (pc := 116) d_tr_readNumber_116 fl_tr_36 (by decide) (by decide) (c_1 _ _) (Nat.le_of_ble_eq_true rfl) (qFit_i _) (fun w => rfl) ?_
          refine qr_iconst (v := 0) (pc := 119) d_tr_readNumber_119 (by decide) ?_
          exact qr_iret (pc := 120) d_tr_readNumber_120 rfl rfl ⟨(by simp [u_nr, *]), rfl, (by simp [u_nw, *])⟩ (Nat.zero_le _) (Nat.zero_le _)
    · skip
      have hlt9 : a1 + k < n := Nat.not_le.mp (fun q => h19 (nI_le q (by omega)))
      refine qr_aload_n (pc := 22) d_tr_readNumber_22 rfl rfl ?_
      refine qr_get (v := .ref 2) (pc := 23) d_tr_readNumber_23 fl_tr_11 (by decide) (by decide) (c_1 _ _) rfl ?_
      refine qr_aload_n (pc := 26) d_tr_readNumber_26 rfl rfl ?_
      refine qr_get (v := .int (nI (a1 + k))) (pc := 27) d_tr_readNumber_27 fl_tr_30 (by decide) (by decide) (c_1 _ _) (congrArg (fun t => some (Value.int t)) (wI_at I 1 4 (nI (a1 + k)))) ?_
      refine qr_caldN (j := (a1 + k)) (pc := 30) d_tr_readNumber_30 (by decide) (by decide) (c_2 _ _) (by omega) (by decide) ?_
      refine qR_st (st' := [.int (I 2 (a1 + k))]) rfl (by rw [(show (wI I 1 4 (nI (a1 + k))) 2 (a1 + k) = I 2 (a1 + k) from rfl)] <;> rfl) rfl ?_
      refine qr_bipush (v := 48) (pc := 31) d_tr_readNumber_31 (by decide) ?_
      refine qr_icmp_lt (tgt := 101) (pc := 33) d_tr_readNumber_33 (by decide) (fun h33 => ?_) (fun h33 => ?_)
      · skip
        have hkK : K = k := by
          rcases Nat.lt_or_ge k K with q | q
          · exact absurd (hK1 k q) (fun q2 => q2.2.1 h33)
          · omega
        subst hkK
        have he2 : ¬ e = true := fun q => (fun q2 : u_dg I (a1 + K) n => q2.2.1 h33) (he.mp q)
        refine qr_aload_n (pc := 101) d_tr_readNumber_101 rfl rfl ?_
        refine qr_get (v := .int (nI (a1 + K))) (pc := 102) d_tr_readNumber_102 fl_tr_30 (by decide) (by decide) (c_1 _ _) (congrArg (fun t => some (Value.int t)) (wI_at I 1 4 (nI (a1 + K)))) ?_
        refine qr_iload_n (pc := 105) d_tr_readNumber_105 rfl rfl ?_
        refine qr_icmp_eq (tgt := 114) (pc := 106) d_tr_readNumber_106 (by decide) (fun h106 => ?_) (fun h106 => ?_)
        · skip
          have hK0 : K = 0 := by
            have h8 := congrArg Int32.toNatClampNeg h106
            rw [nI_clamp (by omega), nI_clamp (by omega)] at h8
            omega
          refine qr_aload_n (pc := 114) d_tr_readNumber_114 rfl rfl ?_
          refine qr_iload_n (pc := 115) d_tr_readNumber_115 rfl rfl ?_
          refine qr_putI (pc := 116) d_tr_readNumber_116 fl_tr_36 (by decide) (by decide) (c_1 _ _) (Nat.le_of_ble_eq_true rfl) (qFit_i _) (fun w => rfl) ?_
          refine qr_iconst (v := 0) (pc := 119) d_tr_readNumber_119 (by decide) ?_
          exact qr_iret (pc := 120) d_tr_readNumber_120 rfl rfl ⟨(by simp [u_nr, *]), rfl, (by simp [u_nw, *])⟩ (Nat.zero_le _) (Nat.zero_le _)
        · skip
          have hK0 : ¬ K = 0 := fun q => h106 (by rw [q]; rfl)
          refine qr_iload_n (pc := 109) d_tr_readNumber_109 rfl rfl ?_
          refine qr_iload_n (pc := 110) d_tr_readNumber_110 rfl rfl ?_
          refine qr_icmp_ge (tgt := 121) (pc := 111) d_tr_readNumber_111 (by decide) (fun h111 => ?_) (fun h111 => ?_)
          · skip
            have g111 := Int32.not_lt.mpr h111
            refine qr_iload_n (pc := 121) d_tr_readNumber_121 rfl rfl ?_
            exact qr_iret (pc := 122) d_tr_readNumber_122 rfl rfl ⟨(by simp [u_nr, *]), rfl, (by simp [u_nw, *])⟩ (Nat.zero_le _) (Nat.zero_le _)
          · skip
            have g111 := Int32.not_le.mp h111
            refine qr_aload_n (pc := 114) d_tr_readNumber_114 rfl rfl ?_
            refine qr_iload_n (pc := 115) d_tr_readNumber_115 rfl rfl ?_
            refine qr_putI (pc := 116) d_tr_readNumber_116 fl_tr_36 (by decide) (by decide) (c_1 _ _) (Nat.le_of_ble_eq_true rfl) (qFit_i _) (fun w => rfl) ?_
            refine qr_iconst (v := 0) (pc := 119) d_tr_readNumber_119 (by decide) ?_
            exact qr_iret (pc := 120) d_tr_readNumber_120 rfl rfl ⟨(by simp [u_nr, *]), rfl, (by simp [u_nw, *])⟩ (Nat.zero_le _) (Nat.zero_le _)
      · skip
        refine qr_aload_n (pc := 36) d_tr_readNumber_36 rfl rfl ?_
        refine qr_get (v := .ref 2) (pc := 37) d_tr_readNumber_37 fl_tr_11 (by decide) (by decide) (c_1 _ _) rfl ?_
        refine qr_aload_n (pc := 40) d_tr_readNumber_40 rfl rfl ?_
        refine qr_get (v := .int (nI (a1 + k))) (pc := 41) d_tr_readNumber_41 fl_tr_30 (by decide) (by decide) (c_1 _ _) (congrArg (fun t => some (Value.int t)) (wI_at I 1 4 (nI (a1 + k)))) ?_
        refine qr_caldN (j := (a1 + k)) (pc := 44) d_tr_readNumber_44 (by decide) (by decide) (c_2 _ _) (by omega) (by decide) ?_
        refine qR_st (st' := [.int (I 2 (a1 + k))]) rfl (by rw [(show (wI I 1 4 (nI (a1 + k))) 2 (a1 + k) = I 2 (a1 + k) from rfl)] <;> rfl) rfl ?_
        refine qr_bipush (v := 57) (pc := 45) d_tr_readNumber_45 (by decide) ?_
        refine qr_icmp_gt (tgt := 101) (pc := 47) d_tr_readNumber_47 (by decide) (fun h47 => ?_) (fun h47 => ?_)
        · skip
          have hkK : K = k := by
            rcases Nat.lt_or_ge k K with q | q
            · exact absurd (hK1 k q) (fun q2 => q2.2.2 h47)
            · omega
          subst hkK
          have he2 : ¬ e = true := fun q => (fun q2 : u_dg I (a1 + K) n => q2.2.2 h47) (he.mp q)
          refine qr_aload_n (pc := 101) d_tr_readNumber_101 rfl rfl ?_
          refine qr_get (v := .int (nI (a1 + K))) (pc := 102) d_tr_readNumber_102 fl_tr_30 (by decide) (by decide) (c_1 _ _) (congrArg (fun t => some (Value.int t)) (wI_at I 1 4 (nI (a1 + K)))) ?_
          refine qr_iload_n (pc := 105) d_tr_readNumber_105 rfl rfl ?_
          refine qr_icmp_eq (tgt := 114) (pc := 106) d_tr_readNumber_106 (by decide) (fun h106 => ?_) (fun h106 => ?_)
          · skip
            have hK0 : K = 0 := by
              have h8 := congrArg Int32.toNatClampNeg h106
              rw [nI_clamp (by omega), nI_clamp (by omega)] at h8
              omega
            refine qr_aload_n (pc := 114) d_tr_readNumber_114 rfl rfl ?_
            refine qr_iload_n (pc := 115) d_tr_readNumber_115 rfl rfl ?_
            refine qr_putI (pc := 116) d_tr_readNumber_116 fl_tr_36 (by decide) (by decide) (c_1 _ _) (Nat.le_of_ble_eq_true rfl) (qFit_i _) (fun w => rfl) ?_
            refine qr_iconst (v := 0) (pc := 119) d_tr_readNumber_119 (by decide) ?_
            exact qr_iret (pc := 120) d_tr_readNumber_120 rfl rfl ⟨(by simp [u_nr, *]), rfl, (by simp [u_nw, *])⟩ (Nat.zero_le _) (Nat.zero_le _)
          · skip
            have hK0 : ¬ K = 0 := fun q => h106 (by rw [q]; rfl)
            refine qr_iload_n (pc := 109) d_tr_readNumber_109 rfl rfl ?_
            refine qr_iload_n (pc := 110) d_tr_readNumber_110 rfl rfl ?_
            refine qr_icmp_ge (tgt := 121) (pc := 111) d_tr_readNumber_111 (by decide) (fun h111 => ?_) (fun h111 => ?_)
            · skip
              have g111 := Int32.not_lt.mpr h111
              refine qr_iload_n (pc := 121) d_tr_readNumber_121 rfl rfl ?_
              exact qr_iret (pc := 122) d_tr_readNumber_122 rfl rfl ⟨(by simp [u_nr, *]), rfl, (by simp [u_nw, *])⟩ (Nat.zero_le _) (Nat.zero_le _)
            · skip
              have g111 := Int32.not_le.mp h111
              refine qr_aload_n (pc := 114) d_tr_readNumber_114 rfl rfl ?_
              refine qr_iload_n (pc := 115) d_tr_readNumber_115 rfl rfl ?_
              refine qr_putI (pc := 116) d_tr_readNumber_116 fl_tr_36 (by decide) (by decide) (c_1 _ _) (Nat.le_of_ble_eq_true rfl) (qFit_i _) (fun w => rfl) ?_
              refine qr_iconst (v := 0) (pc := 119) d_tr_readNumber_119 (by decide) ?_
              exact qr_iret (pc := 120) d_tr_readNumber_120 rfl rfl ⟨(by simp [u_nr, *]), rfl, (by simp [u_nw, *])⟩ (Nat.zero_le _) (Nat.zero_le _)
        · skip
          have hdg : u_dg I (a1 + k) n := ⟨hlt9, h33, h47⟩
          refine qr_aload_n (pc := 50) d_tr_readNumber_50 rfl rfl ?_
          refine qr_get (v := .int (nI (a1 + k))) (pc := 51) d_tr_readNumber_51 fl_tr_30 (by decide) (by decide) (c_1 _ _) (congrArg (fun t => some (Value.int t)) (wI_at I 1 4 (nI (a1 + k)))) ?_
          refine qr_iload_n (pc := 54) d_tr_readNumber_54 rfl rfl ?_
          refine qr_isub (pc := 55) d_tr_readNumber_55 ?_
          refine qR_st (st' := [.int (nI k)]) rfl (by rw [pk_sub (Nat.le_add_right a1 k), Nat.add_sub_cancel_left] <;> rfl) rfl ?_
          refine qr_iconst (v := 5) (pc := 56) d_tr_readNumber_56 (by decide) ?_
          refine qr_icmp_ne (tgt := 70) (pc := 57) d_tr_readNumber_57 (by decide) (fun h57 => ?_) (fun h57 => ?_)
          · skip
            have hkK : k < K := by
              rcases Nat.lt_or_ge k K with q | q
              · exact q
              · have e9 : K = k := by omega
                subst e9
                have h5 : K < 5 := by
                  rcases Nat.lt_or_ge K 5 with q5 | q5
                  · exact q5
                  · exact absurd (by rw [show K = 5 by omega]; rfl) h57
                exact absurd hdg (hK3 h5)
            refine qr_iload_n (pc := 70) d_tr_readNumber_70 rfl rfl ?_
            refine qr_bipush (v := 10) (pc := 71) d_tr_readNumber_71 (by decide) ?_
            refine qr_imul (pc := 73) d_tr_readNumber_73 ?_
            refine qr_aload_n (pc := 74) d_tr_readNumber_74 rfl rfl ?_
            refine qr_get (v := .ref 2) (pc := 75) d_tr_readNumber_75 fl_tr_11 (by decide) (by decide) (c_1 _ _) rfl ?_
            refine qr_aload_n (pc := 78) d_tr_readNumber_78 rfl rfl ?_
            refine qr_get (v := .int (nI (a1 + k))) (pc := 79) d_tr_readNumber_79 fl_tr_30 (by decide) (by decide) (c_1 _ _) (congrArg (fun t => some (Value.int t)) (wI_at I 1 4 (nI (a1 + k)))) ?_
            refine qr_caldN (j := (a1 + k)) (pc := 82) d_tr_readNumber_82 (by decide) (by decide) (c_2 _ _) (by omega) (by decide) ?_
            refine qR_st (st' := [.int (I 2 (a1 + k)), .int ((u_nv I a1 k) * 10)]) rfl (by rw [(show (wI I 1 4 (nI (a1 + k))) 2 (a1 + k) = I 2 (a1 + k) from rfl)] <;> rfl) rfl ?_
            refine qr_bipush (v := 48) (pc := 83) d_tr_readNumber_83 (by decide) ?_
            refine qr_isub (pc := 85) d_tr_readNumber_85 ?_
            refine qr_iadd (pc := 86) d_tr_readNumber_86 ?_
            refine qr_istore_n (lv' := [(3, .int (((u_nv I a1 k) * 10) + ((I 2 (a1 + k)) - 48))), (2, .int (nI a1)), (0, .ref 1), (1, .int low)]) (pc := 87) d_tr_readNumber_87 rfl (Nat.le_of_ble_eq_true rfl) rfl ?_
            refine qr_aload_n (pc := 88) d_tr_readNumber_88 rfl rfl ?_
            refine qr_dup (pc := 89) d_tr_readNumber_89 rfl ?_
            refine qr_get (v := .int (nI (a1 + k))) (pc := 90) d_tr_readNumber_90 fl_tr_30 (by decide) (by decide) (c_1 _ _) (congrArg (fun t => some (Value.int t)) (wI_at I 1 4 (nI (a1 + k)))) ?_
            refine qr_iconst (v := 1) (pc := 93) d_tr_readNumber_93 (by decide) ?_
            refine qr_iadd (pc := 94) d_tr_readNumber_94 ?_
            refine qr_putI (pc := 95) d_tr_readNumber_95 fl_tr_30 (by decide) (by decide) (c_1 _ _) (Nat.le_of_ble_eq_true rfl) (qFit_i _) (fun w => rfl) ?_
            refine qr_goto (tgt := 11) (pc := 98) d_tr_readNumber_98 (by decide) ?_
            exact qR_st rfl rfl (by rw [nI_1, wI_wI9] <;> rfl) (ih (k + 1) (by omega) (by omega))
          · skip
            have hk5 : k = 5 := by
              have h9 : nI k = 5 := by simpa using h57
              have h8 := congrArg Int32.toNatClampNeg h9
              rw [nI_clamp (by omega)] at h8
              exact h8.trans (by decide)
            have hkK : K = k := by omega
            subst hkK
            have he2 : e = true := he.mpr hdg
            refine qr_aload_n (pc := 60) d_tr_readNumber_60 rfl rfl ?_
            refine qr_aload_n (pc := 61) d_tr_readNumber_61 rfl rfl ?_
            refine qr_get (v := .int (nI (a1 + K))) (pc := 62) d_tr_readNumber_62 fl_tr_30 (by decide) (by decide) (c_1 _ _) (congrArg (fun t => some (Value.int t)) (wI_at I 1 4 (nI (a1 + K)))) ?_
            refine qr_putI (pc := 65) d_tr_readNumber_65 fl_tr_36 (by decide) (by decide) (c_1 _ _) (Nat.le_of_ble_eq_true rfl) (qFit_i _) (fun w => rfl) ?_
            refine qr_iconst (v := 0) (pc := 68) d_tr_readNumber_68 (by decide) ?_
            exact qr_iret (pc := 69) d_tr_readNumber_69 rfl rfl ⟨(by simp [u_nr, *]), rfl, (by simp [u_nw, *])⟩ (Nat.zero_le _) (Nat.zero_le _)
  exact loop11 (K + 1) 0 (by omega) (by omega)
