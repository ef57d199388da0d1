def m_dg (I : Nat → Nat → Int32) (b n : Nat) : Prop := 48 ≤ Int32.toInt64 (m_lc I b n) ∧ Int32.toInt64 (m_lc I b n) ≤ 57
theorem m_dg_lt {I : Nat → Nat → Int32} {b n : Nat} (h : m_dg I b n) : b < n := by
  rcases Nat.lt_or_ge b n with q | q
  · exact q
  · have := h.1
    rw [m_lc, if_pos q] at this
    exact absurd this (by decide)
def m_nv (I : Nat → Nat → Int32) (n a : Nat) : Nat → Int32
  | 0 => 0
  | k + 1 => 10 * m_nv I n a k + m_lc I (a + k) n - 48
/-- what number() answers, where it lays the fault -/
def m_nr (I : Nat → Nat → Int32) (n a K : Nat) (low : Int32) (e : Bool) : Int32 := if K = 0 ∨ e = true then -1 else if m_nv I n a K < low then -1 else m_nv I n a K
def m_nw (I : Nat → Nat → Int32) (n a K : Nat) (low : Int32) (e : Bool) : Nat → Nat → Int32 := if K = 0 ∨ e = true then wI (wI I 47 36 (nI (a + K))) 47 1 (nI (a + K)) else if m_nv I n a K < low then wI (wI I 47 36 (nI (a + K))) 47 1 (nI a) else wI I 47 36 (nI (a + K))
set_option maxRecDepth 10000 in
theorem s_md_number (l : Launch) (x : Bool) (I : Nat → Nat → Int32) (L : Nat → Nat → Int64) (a n : Nat) (ha : I 47 36 = nI a) (hn : I 47 4 = nI n) (ha2 : a ≤ n) (hn2 : n ≤ 60) (a1 K : Nat) (low : Int32) (hb1 : a ≤ a1) (hb2 : ∀ i, a ≤ i → i < a1 → i < n ∧ I 48 i = 32) (hb3 : ¬ (a1 < n ∧ I 48 a1 = 32)) (hb4 : a1 ≤ n) (hK1 : ∀ k, k < K → m_dg I (a1 + k) n) (hK2 : K ≤ 5) (hK3 : K < 5 → ¬ m_dg I (a1 + K) n) (hK4 : a1 + K ≤ n) (e : Bool) (he : e = true ↔ m_dg I (a1 + K) n) : qSp l y_md_number b_md_number 5 (some .int) x 3 0 0 [.ref 47, .int low] 77 (fm I L) (qD (some (.int (m_nr I n a1 K low e))) 77 (fm (m_nw I n a1 K low e) L)) := by
  refine qSp_of (ini := false) (by decide +kernel) (fun h => nomatch h) (Nat.le_of_ble_eq_true rfl) ?_
  show qR _ _ _ 0 [(0, .ref 47), (1, .int low)] [] _ _ _ _
  have join60 : qR (l, y_md_number.cls, b_md_number, 5, (some .int), false, x, 3, 0, 0, 77, q0) (qD (some (.int (m_nr I n a1 K low e))) 77 (fm (m_nw I n a1 K low e) L)) (fun _ _ _ => False) 60 [(3, .int (nI K)), (4, .int (m_nv I n a1 K)), (2, .int (nI a1)), (0, .ref 47), (1, .int low)] [] 77 0 0 (fm (wI I 47 36 (nI (a1 + K))) L) := by
    skip
    refine qr_iload_n (pc := 60) d_md_number_60 rfl rfl ?_
    refine qr_if_eq (tgt := 74) (pc := 61) d_md_number_61 (by decide) (fun h61 => ?_) (fun h61 => ?_)
    · skip
      have hK0 : K = 0 := by
        rcases Nat.eq_zero_or_pos K with q | q
        · exact q
        · exact absurd h61 (nI_ne0 q (by omega))
      refine qr_aload_n (pc := 74) d_md_number_74 rfl rfl ?_
      refine qr_aload_n (pc := 75) d_md_number_75 rfl rfl ?_
      refine qr_get (v := .int (nI (a1 + K))) (pc := 76) d_md_number_76 fl_md_117 (by decide) (by decide) (c_47 _ _) (congrArg (fun t => some (Value.int t)) (wI_at I 47 36 (nI (a1 + K)))) ?_
      refine qr_putI (pc := 79) d_md_number_79 fl_md_7 (by decide) (by decide) (c_47 _ _) (Nat.le_of_ble_eq_true rfl) (qFit_i _) (fun w => rfl) ?_
      refine qr_iconst (v := (-1)) (pc := 82) d_md_number_82 (by decide) ?_
      exact qr_iret (pc := 83) d_md_number_83 rfl rfl ⟨(by simp [m_nr, *]), rfl, (by simp [m_nw, *])⟩ (Nat.zero_le _) (Nat.zero_le _)
    · skip
      have hK0 : ¬ K = 0 := fun q => h61 (by rw [q]; rfl)
      refine qr_aload_n (pc := 64) d_md_number_64 rfl rfl ?_
      refine qr_callV (q := 47) (As := []) (pc := 65) d_md_number_65 lk_md_120 im_md_look se_md_look rfl (by decide) (by decide) (c_47 _ _) (s_md_look _ x (wI I 47 36 (nI (a1 + K))) L (a1 + K) n (wI_at I 47 36 (nI (a1 + K))) hn (by omega) hn2) rfl rfl (Nat.le_of_ble_eq_true rfl) (Nat.le_of_ble_eq_true rfl) (Nat.le_of_ble_eq_true rfl) (Nat.zero_le _) (Nat.zero_le _) (fun h => ⟨h, rfl, Or.inl rfl⟩) (fun v n9 f9 hE65 => ?_)
      obtain ⟨rfl, rfl, rfl⟩ := hE65
      refine qr_callS (As := [.int (m_lc (wI I 47 36 (nI (a1 + K))) (a1 + K) n)]) (pc := 68) d_md_number_68 lk_md_131 sm_md_isDigit (s_md_isDigit _ x _ _ (m_lc (wI I 47 36 (nI (a1 + K))) (a1 + K) n)) rfl rfl (Nat.le_of_ble_eq_true rfl) (Nat.le_of_ble_eq_true rfl) (Nat.le_of_ble_eq_true rfl) (Nat.zero_le _) (Nat.zero_le _) (fun h => ⟨h, rfl, Or.inl rfl⟩) (fun v n9 f9 hE68 => ?_)
      obtain ⟨rfl, rfl, rfl⟩ := hE68
      refine qr_if_eq (tgt := 84) (pc := 71) d_md_number_71 (by decide) (fun h71 => ?_) (fun h71 => ?_)
      · skip
        simp only [b01, Decidable.not_not] at h71
        have he2 : ¬ e = true := fun q => h71 (he.mp q)
        refine qr_iload (pc := 84) d_md_number_84 rfl ?_
        refine qr_iload_n (pc := 86) d_md_number_86 rfl rfl ?_
        refine qr_icmp_ge (tgt := 97) (pc := 87) d_md_number_87 (by decide) (fun h87 => ?_) (fun h87 => ?_)
        · skip
          have g87 := Int32.not_lt.mpr h87
          refine qr_iload (pc := 97) d_md_number_97 rfl ?_
          exact qr_iret (pc := 99) d_md_number_99 rfl rfl ⟨(by simp [m_nr, *]), rfl, (by simp [m_nw, *])⟩ (Nat.zero_le _) (Nat.zero_le _)
        · skip
          have g87 := Int32.not_le.mp h87
          refine qr_aload_n (pc := 90) d_md_number_90 rfl rfl ?_
          refine qr_iload_n (pc := 91) d_md_number_91 rfl rfl ?_
          refine qr_putI (pc := 92) d_md_number_92 fl_md_7 (by decide) (by decide) (c_47 _ _) (Nat.le_of_ble_eq_true rfl) (qFit_i _) (fun w => rfl) ?_
          refine qr_iconst (v := (-1)) (pc := 95) d_md_number_95 (by decide) ?_
          exact qr_iret (pc := 96) d_md_number_96 rfl rfl ⟨(by simp [m_nr, *]), rfl, (by simp [m_nw, *])⟩ (Nat.zero_le _) (Nat.zero_le _)
      · skip
        simp only [b01, Decidable.not_not] at h71
        have he2 : e = true := he.mpr h71
        refine qr_aload_n (pc := 74) d_md_number_74 rfl rfl ?_
        refine qr_aload_n (pc := 75) d_md_number_75 rfl rfl ?_
        refine qr_get (v := .int (nI (a1 + K))) (pc := 76) d_md_number_76 fl_md_117 (by decide) (by decide) (c_47 _ _) (congrArg (fun t => some (Value.int t)) (wI_at I 47 36 (nI (a1 + K)))) ?_
        refine qr_putI (pc := 79) d_md_number_79 fl_md_7 (by decide) (by decide) (c_47 _ _) (Nat.le_of_ble_eq_true rfl) (qFit_i _) (fun w => rfl) ?_
        refine qr_iconst (v := (-1)) (pc := 82) d_md_number_82 (by decide) ?_
        exact qr_iret (pc := 83) d_md_number_83 rfl rfl ⟨(by simp [m_nr, *]), rfl, (by simp [m_nw, *])⟩ (Nat.zero_le _) (Nat.zero_le _)
  refine qr_aload_n (pc := 0) d_md_number_0 rfl rfl ?_
  refine qr_callV (q := 47) (As := []) (pc := 1) d_md_number_1 lk_md_128 im_md_blanks se_md_blanks rfl (by decide) (by decide) (c_47 _ _) (s_md_blanks _ x I L a n ha hn ha2 hn2 a1 hb1 hb2 hb3 hb4) rfl rfl (Nat.le_of_ble_eq_true rfl) (Nat.le_of_ble_eq_true rfl) (Nat.le_of_ble_eq_true rfl) (Nat.zero_le _) (Nat.zero_le _) (fun h => ⟨h, rfl, Or.inl rfl⟩) (fun v n9 f9 hE1 => ?_)
  obtain ⟨rfl, rfl, rfl⟩ := hE1
  refine qr_aload_n (pc := 4) d_md_number_4 rfl rfl ?_
  refine qr_get (v := .int (nI a1)) (pc := 5) d_md_number_5 fl_md_117 (by decide) (by decide) (c_47 _ _) (congrArg (fun t => some (Value.int t)) (wI_at I 47 36 (nI a1))) ?_
  refine qr_istore_n (lv' := [(2, .int (nI a1)), (0, .ref 47), (1, .int low)]) (pc := 8) d_md_number_8 rfl (Nat.le_of_ble_eq_true rfl) rfl ?_
  refine qr_iconst (v := 0) (pc := 9) d_md_number_9 (by decide) ?_
  refine qr_istore_n (lv' := [(3, .int 0), (2, .int (nI a1)), (0, .ref 47), (1, .int low)]) (pc := 10) d_md_number_10 rfl (Nat.le_of_ble_eq_true rfl) rfl ?_
  refine qr_iconst (v := 0) (pc := 11) d_md_number_11 (by decide) ?_
  refine qr_istore (lv' := [(4, .int 0), (3, .int 0), (2, .int (nI a1)), (0, .ref 47), (1, .int low)]) (pc := 12) d_md_number_12 (Nat.le_of_ble_eq_true rfl) rfl ?_
  have loop14 : ∀ (j k : Nat), K - k < j → k ≤ K → qR (l, y_md_number.cls, b_md_number, 5, (some .int), false, x, 3, 0, 0, 77, q0) (qD (some (.int (m_nr I n a1 K low e))) 77 (fm (m_nw I n a1 K low e) L)) (fun _ _ _ => False) 14 [(3, .int (nI k)), (4, .int (m_nv I n a1 k)), (2, .int (nI a1)), (0, .ref 47), (1, .int low)] [] 77 0 0 (fm (wI I 47 36 (nI (a1 + k))) L) := by
    intro j
    induction j with
    | zero => intro k hj; omega
    | succ j ih =>
    intro k hj hk
    refine qr_iload_n (pc := 14) d_md_number_14 rfl rfl ?_
    refine qr_iconst (v := 5) (pc := 15) d_md_number_15 (by decide) ?_
    refine qr_icmp_ge (tgt := 60) (pc := 16) d_md_number_16 (by decide) (fun h16 => ?_) (fun h16 => ?_)
    · skip
      have hk5 : 5 ≤ k := (nI_leI (a := 5) (b := k) (by omega) (by omega)).mp h16
      have hkK : K = k := by omega
      subst hkK
      exact join60
    · skip
      have hk5 : k < 5 := Nat.not_le.mp (fun q => h16 (nI_le (a := 5) q (by omega)))
      refine qr_aload_n (pc := 19) d_md_number_19 rfl rfl ?_
      refine qr_callV (q := 47) (As := []) (pc := 20) d_md_number_20 lk_md_120 im_md_look se_md_look rfl (by decide) (by decide) (c_47 _ _) (s_md_look _ x (wI I 47 36 (nI (a1 + k))) L (a1 + k) n (wI_at I 47 36 (nI (a1 + k))) hn (by omega) hn2) rfl rfl (Nat.le_of_ble_eq_true rfl) (Nat.le_of_ble_eq_true rfl) (Nat.le_of_ble_eq_true rfl) (Nat.zero_le _) (Nat.zero_le _) (fun h => ⟨h, rfl, Or.inl rfl⟩) (fun v n9 f9 hE20 => ?_)
      obtain ⟨rfl, rfl, rfl⟩ := hE20
      refine qr_callS (As := [.int (m_lc (wI I 47 36 (nI (a1 + k))) (a1 + k) n)]) (pc := 23) d_md_number_23 lk_md_131 sm_md_isDigit (s_md_isDigit _ x _ _ (m_lc (wI I 47 36 (nI (a1 + k))) (a1 + k) n)) rfl rfl (Nat.le_of_ble_eq_true rfl) (Nat.le_of_ble_eq_true rfl) (Nat.le_of_ble_eq_true rfl) (Nat.zero_le _) (Nat.zero_le _) (fun h => ⟨h, rfl, Or.inl rfl⟩) (fun v n9 f9 hE23 => ?_)
      obtain ⟨rfl, rfl, rfl⟩ := hE23
      refine qr_if_eq (tgt := 60) (pc := 26) d_md_number_26 (by decide) (fun h26 => ?_) (fun h26 => ?_)
      · skip
        simp only [b01, Decidable.not_not] at h26
        have hkK : K = k := by
          rcases Nat.lt_or_ge k K with q | q
          · exact absurd (hK1 k q) h26
          · omega
        subst hkK
        exact join60
      · skip
        simp only [b01, Decidable.not_not] at h26
        have hkK : k < K := by
          rcases Nat.lt_or_ge k K with q | q
          · exact q
          · have e9 : k = K := by omega
            subst e9
            exact absurd h26 (hK3 hk5)
        have hlt9 : a1 + k < n := m_dg_lt h26
        refine qr_bipush (v := 10) (pc := 29) d_md_number_29 (by decide) ?_
        refine qr_iload (pc := 31) d_md_number_31 rfl ?_
        refine qr_imul (pc := 33) d_md_number_33 ?_
        refine qr_aload_n (pc := 34) d_md_number_34 rfl rfl ?_
        refine qr_callV (q := 47) (As := []) (pc := 35) d_md_number_35 lk_md_120 im_md_look se_md_look rfl (by decide) (by decide) (c_47 _ _) (s_md_look _ x (wI I 47 36 (nI (a1 + k))) L (a1 + k) n (wI_at I 47 36 (nI (a1 + k))) hn (by omega) hn2) rfl rfl (Nat.le_of_ble_eq_true rfl) (Nat.le_of_ble_eq_true rfl) (Nat.le_of_ble_eq_true rfl) (Nat.zero_le _) (Nat.zero_le _) (fun h => ⟨h, rfl, Or.inl rfl⟩) (fun v n9 f9 hE35 => ?_)
        obtain ⟨rfl, rfl, rfl⟩ := hE35
        refine qr_iadd (pc := 38) d_md_number_38 ?_
        refine qr_bipush (v := 48) (pc := 39) d_md_number_39 (by decide) ?_
        refine qr_isub (pc := 41) d_md_number_41 ?_
        refine qr_istore (lv' := [(4, .int (((10 * (m_nv I n a1 k)) + (m_lc (wI I 47 36 (nI (a1 + k))) (a1 + k) n)) - 48)), (3, .int (nI k)), (2, .int (nI a1)), (0, .ref 47), (1, .int low)]) (pc := 42) d_md_number_42 (Nat.le_of_ble_eq_true rfl) rfl ?_
        refine qr_aload_n (pc := 44) d_md_number_44 rfl rfl ?_
        refine qr_dup (pc := 45) d_md_number_45 rfl ?_
        refine qr_get (v := .int (nI (a1 + k))) (pc := 46) d_md_number_46 fl_md_117 (by decide) (by decide) (c_47 _ _) (congrArg (fun t => some (Value.int t)) (wI_at I 47 36 (nI (a1 + k)))) ?_
        refine qr_iconst (v := 1) (pc := 49) d_md_number_49 (by decide) ?_
        refine qr_iadd (pc := 50) d_md_number_50 ?_
        refine qr_putI (pc := 51) d_md_number_51 fl_md_117 (by decide) (by decide) (c_47 _ _) (Nat.le_of_ble_eq_true rfl) (qFit_i _) (fun w => rfl) ?_
        refine qr_iinc (v := nI (k + 1)) (lv' := [(3, .int (nI (k + 1))), (4, .int (((10 * (m_nv I n a1 k)) + (m_lc (wI I 47 36 (nI (a1 + k))) (a1 + k) n)) - 48)), (2, .int (nI a1)), (0, .ref 47), (1, .int low)]) (pc := 54) d_md_number_54 rfl (nI_1 k) (Nat.le_of_ble_eq_true rfl) rfl ?_
        refine qr_goto (tgt := 14) (pc := 57) d_md_number_57 (by decide) ?_
        exact qR_st rfl rfl (by rw [nI_1, wI_wI9] <;> rfl) (ih (k + 1) (by omega) (by omega))
  refine qR_sub (lv' := [(3, .int 0), (4, .int 0), (2, .int (nI a1)), (0, .ref 47), (1, .int low)]) [1, 0, 2, 3, 4] rfl ?_
  exact loop14 (K + 1) 0 (by omega) (by omega)
