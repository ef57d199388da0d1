theorem m_look_ne {I : Nat → Nat → Int32} {L : Nat → Nat → Int64} {c z a b : Nat} (h1 : a ≠ 59) (h2 : a ≠ 60) : m_look I L c z a b = I a b := by
  unfold m_look m_lk
  rw [wI_ne (Or.inl h2)]
  unfold m_look2 m_look1
  split <;> split <;> simp [wI_ne, h1]
/-- the day T is kept for the first c customers -/
def m_was (I : Nat → Nat → Int32) (T : Nat) : Nat → Nat → Nat → Int32
  | 0 => I
  | c + 1 => wI (m_was I T c) 62 (401 * c + T) (if m_was I T c 59 c = 1 then 0 else m_was I T c 58 c + 1)
theorem m_was_ne {I : Nat → Nat → Int32} {T a b : Nat} (h : a ≠ 62) : ∀ c, m_was I T c a b = I a b
  | 0 => rfl
  | c + 1 => by rw [m_was, wI_ne (Or.inl h), m_was_ne h c]
def m_lks (I : Nat → Nat → Int32) (L : Nat → Nat → Int64) (z : Nat) : Nat → Nat → Nat → Int32
  | 0 => I
  | c + 1 => m_look (m_lks I L z c) L c z
theorem m_lks_ne {I : Nat → Nat → Int32} {L : Nat → Nat → Int64} {z a b : Nat} (h1 : a ≠ 59) (h2 : a ≠ 60) : ∀ c, m_lks I L z c a b = I a b
  | 0 => rfl
  | c + 1 => by rw [m_lks, m_look_ne h1 h2, m_lks_ne h1 h2 c]
def m_day (I : Nat → Nat → Int32) (L : Nat → Nat → Int64) (z T : Nat) : Nat → Nat → Int32 := m_lks (wI (m_was I T 5) 47 2 (nI (T + 1))) L z 5
def m_tk (I : Nat → Nat → Int32) (L : Nat → Nat → Int64) (z T : Nat) : Nat → Nat → Nat → Int32
  | 0 => I
  | k + 1 => m_day (m_tk I L z T k) L z (T + k)
theorem m_tk_29 {I : Nat → Nat → Int32} {L : Nat → Nat → Int64} {z T : Nat} : ∀ k, m_tk I L z T k 47 29 = I 47 29
  | 0 => rfl
  | k + 1 => by rw [m_tk, m_day, m_lks_ne (by decide) (by decide), wI_ne (Or.inr (by decide)), m_was_ne (by decide), m_tk_29 k]
theorem m_tk_2 {I : Nat → Nat → Int32} {L : Nat → Nat → Int64} {z T : Nat} (h : I 47 2 = nI T) : ∀ k, m_tk I L z T k 47 2 = nI (T + k)
  | 0 => h
  | k + 1 => by rw [m_tk, m_day, m_lks_ne (by decide) (by decide), wI_at]; rfl
set_option maxRecDepth 10000 in
theorem s_md_tick (l : Launch) (x : Bool) (I : Nat → Nat → Int32) (L : Nat → Nat → Int64) (z T : Nat) (hz : I 47 29 = nI z) (hz2 : z ≤ 50) (hT : I 47 2 = nI T) (hT2 : T ≤ 400) (d : Int32) : qSp l y_md_tick b_md_tick 4 (some .int) x 3 0 0 [.ref 47, .int d] 77 (fm I L) (qD (some (.int (if (1 ≤ Int32.toInt64 d ∧ Int32.toInt64 d ≤ 40) then (if 400 < nI T + d then 0 else nI T + d) else 0))) 77 (fm (if (1 ≤ Int32.toInt64 d ∧ Int32.toInt64 d ≤ 40) then (if 400 < nI T + d then wI I 47 0 2 else m_tk (wI I 47 0 0) L z T d.toNatClampNeg) else wI I 47 0 1) L)) := by
  refine qSp_of (ini := false) (by decide +kernel) (fun h => nomatch h) (Nat.le_of_ble_eq_true rfl) ?_
  show qR _ _ _ 0 [(0, .ref 47), (1, .int d)] [] _ _ _ _
  refine qr_iload_n (pc := 0) d_md_tick_0 rfl rfl ?_
  refine qr_i2l (pc := 1) d_md_tick_1 ?_
  refine qr_lconst (v := 1) (pc := 2) d_md_tick_2 (by decide) ?_
  refine qr_ldc2 (v := 40) (pc := 3) d_md_tick_3 kl_md_219 ?_
  refine qr_callS (As := [.long (Int32.toInt64 d), .long 1, .long 40]) (pc := 6) d_md_tick_6 lk_md_106 sm_md_in (s_md_in _ x _ _ (Int32.toInt64 d) 1 40) rfl rfl (Nat.le_of_ble_eq_true rfl) (Nat.le_of_ble_eq_true rfl) (Nat.le_of_ble_eq_true rfl) (Nat.zero_le _) (Nat.zero_le _) (fun h => ⟨h, rfl, Or.inl rfl⟩) (fun v n9 f9 hE6 => ?_)
  obtain ⟨rfl, rfl, rfl⟩ := hE6
  refine qr_if_ne (tgt := 18) (pc := 9) d_md_tick_9 (by decide) (fun h9 => ?_) (fun h9 => ?_)
  · skip
    simp only [b01, Decidable.not_not] at h9
    obtain ⟨d9, hd9, rfl⟩ := in_nI (n := 40) (by decide) ⟨Int64.le_trans (by decide) h9.1, h9.2⟩
    have dcl : (nI d9).toNatClampNeg = d9 := nI_clamp (by omega)
    refine qr_aload_n (pc := 18) d_md_tick_18 rfl rfl ?_
    refine qr_get (v := .int (nI T)) (pc := 19) d_md_tick_19 fl_md_188 (by decide) (by decide) (c_47 _ _) (congrArg (fun t => some (Value.int t)) hT) ?_
    refine qr_iload_n (pc := 22) d_md_tick_22 rfl rfl ?_
    refine qr_iadd (pc := 23) d_md_tick_23 ?_
    refine qr_sipush (v := 400) (pc := 24) d_md_tick_24 (by decide) ?_
    refine qr_icmp_le (tgt := 36) (pc := 27) d_md_tick_27 (by decide) (fun h27 => ?_) (fun h27 => ?_)
    · skip
      have g27 := Int32.not_lt.mpr h27
      have hle : T + d9 ≤ 400 := by
        rw [nI_add] at h27
        exact (nI_leI (a := T + d9) (b := 400) (by omega) (by omega)).mp h27
      refine qr_aload_n (pc := 36) d_md_tick_36 rfl rfl ?_
      refine qr_iconst (v := 0) (pc := 37) d_md_tick_37 (by decide) ?_
      refine qr_putI (pc := 38) d_md_tick_38 fl_md_99 (by decide) (by decide) (c_47 _ _) (Nat.le_of_ble_eq_true rfl) (qFit_i _) (fun w => rfl) ?_
      refine qr_iconst (v := 0) (pc := 41) d_md_tick_41 (by decide) ?_
      refine qr_istore_n (lv' := [(2, .int 0), (0, .ref 47), (1, .int (nI d9))]) (pc := 42) d_md_tick_42 rfl (Nat.le_of_ble_eq_true rfl) rfl ?_
      have loop43 : ∀ (j k : Nat), d9 - k < j → k ≤ d9 → qR (l, y_md_tick.cls, b_md_tick, 4, (some .int), false, x, 3, 0, 0, 77, q0) (qD (some (.int (if (1 ≤ Int32.toInt64 (nI d9) ∧ Int32.toInt64 (nI d9) ≤ 40) then (if 400 < nI T + (nI d9) then 0 else nI T + (nI d9)) else 0))) 77 (fm (if (1 ≤ Int32.toInt64 (nI d9) ∧ Int32.toInt64 (nI d9) ≤ 40) then (if 400 < nI T + (nI d9) then wI I 47 0 2 else m_tk (wI I 47 0 0) L z T (nI d9).toNatClampNeg) else wI I 47 0 1) L)) (fun _ _ _ => False) 43 [(2, .int (nI k)), (0, .ref 47), (1, .int (nI d9))] [] 77 0 0 (fm (m_tk (wI I 47 0 0) L z T k) L) := by
        intro j
        induction j with
        | zero => intro k hj; omega
        | succ j ih =>
        intro k hjj hk
        have h2 : (m_tk (wI I 47 0 0) L z T k) 47 2 = nI (T + k) := m_tk_2 (I := wI I 47 0 0) hT k
        have h29 : (m_tk (wI I 47 0 0) L z T k) 47 29 = nI z := (m_tk_29 k).trans hz
        refine qr_iload_n (pc := 43) d_md_tick_43 rfl rfl ?_
        refine qr_iload_n (pc := 44) d_md_tick_44 rfl rfl ?_
        refine qr_icmp_ge (tgt := 132) (pc := 45) d_md_tick_45 (by decide) (fun h45 => ?_) (fun h45 => ?_)
        · skip
          have hkz : d9 = k := by
            have := (nI_leI (a := d9) (b := k) (by omega) (by omega)).mp h45
            omega
          subst hkz
          refine qr_aload_n (pc := 132) d_md_tick_132 rfl rfl ?_
          refine qr_get (v := .int ((m_tk (wI I 47 0 0) L z T d9) 47 2)) (pc := 133) d_md_tick_133 fl_md_188 (by decide) (by decide) (c_47 _ _) rfl ?_
          exact qr_iret (pc := 136) d_md_tick_136 rfl rfl ⟨(by rw [if_pos h9, if_neg g27, h2, nI_add]), rfl, (by simp [*])⟩ (Nat.zero_le _) (Nat.zero_le _)
        · skip
          have hkz : k < d9 := by
            have := mt (nI_leI (a := d9) (b := k) (by omega) (by omega)).mpr h45
            omega
          refine qr_iconst (v := 0) (pc := 48) d_md_tick_48 (by decide) ?_
          refine qr_istore_n (lv' := [(3, .int 0), (2, .int (nI k)), (0, .ref 47), (1, .int (nI d9))]) (pc := 49) d_md_tick_49 rfl (Nat.le_of_ble_eq_true rfl) rfl ?_
          have loop50 : ∀ (j2 c2 : Nat), 5 - c2 < j2 → c2 ≤ 5 → qR (l, y_md_tick.cls, b_md_tick, 4, (some .int), false, x, 3, 0, 0, 77, q0) (qD (some (.int (if (1 ≤ Int32.toInt64 (nI d9) ∧ Int32.toInt64 (nI d9) ≤ 40) then (if 400 < nI T + (nI d9) then 0 else nI T + (nI d9)) else 0))) 77 (fm (if (1 ≤ Int32.toInt64 (nI d9) ∧ Int32.toInt64 (nI d9) ≤ 40) then (if 400 < nI T + (nI d9) then wI I 47 0 2 else m_tk (wI I 47 0 0) L z T (nI d9).toNatClampNeg) else wI I 47 0 1) L)) (fun _ _ _ => False) 50 [(3, .int (nI c2)), (2, .int (nI k)), (0, .ref 47), (1, .int (nI d9))] [] 77 0 0 (fm (m_was (m_tk (wI I 47 0 0) L z T k) (T + k) c2) L) := by
            intro j2
            induction j2 with
            | zero => intro c2 hj; omega
            | succ j2 ih2 =>
            intro c2 hjj2 hc2
            have hw2 : (m_was (m_tk (wI I 47 0 0) L z T k) (T + k) c2) 47 2 = nI (T + k) := (m_was_ne (by decide) c2).trans h2
            refine qr_iload_n (pc := 50) d_md_tick_50 rfl rfl ?_
            refine qr_iconst (v := 5) (pc := 51) d_md_tick_51 (by decide) ?_
            refine qr_icmp_ge (tgt := 98) (pc := 52) d_md_tick_52 (by decide) (fun h52 => ?_) (fun h52 => ?_)
            · skip
              have hc2z : 5 = c2 := by
                have := (nI_leI (a := 5) (b := c2) (by omega) (by omega)).mp h52
                omega
              subst hc2z
              refine qr_aload_n (pc := 98) d_md_tick_98 rfl rfl ?_
              refine qr_dup (pc := 99) d_md_tick_99 rfl ?_
              refine qr_get (v := .int (nI (T + k))) (pc := 100) d_md_tick_100 fl_md_188 (by decide) (by decide) (c_47 _ _) (congrArg (fun t => some (Value.int t)) hw2) ?_
              refine qr_iconst (v := 1) (pc := 103) d_md_tick_103 (by decide) ?_
              refine qr_iadd (pc := 104) d_md_tick_104 ?_
              refine qr_putI (pc := 105) d_md_tick_105 fl_md_188 (by decide) (by decide) (c_47 _ _) (Nat.le_of_ble_eq_true rfl) (qFit_i _) (fun w => rfl) ?_
              refine qr_iconst (v := 0) (pc := 108) d_md_tick_108 (by decide) ?_
              refine qr_istore_n (lv' := [(3, .int 0), (2, .int (nI k)), (0, .ref 47), (1, .int (nI d9))]) (pc := 109) d_md_tick_109 rfl (Nat.le_of_ble_eq_true rfl) rfl ?_
              have loop110 : ∀ (j3 c3 : Nat), 5 - c3 < j3 → c3 ≤ 5 → qR (l, y_md_tick.cls, b_md_tick, 4, (some .int), false, x, 3, 0, 0, 77, q0) (qD (some (.int (if (1 ≤ Int32.toInt64 (nI d9) ∧ Int32.toInt64 (nI d9) ≤ 40) then (if 400 < nI T + (nI d9) then 0 else nI T + (nI d9)) else 0))) 77 (fm (if (1 ≤ Int32.toInt64 (nI d9) ∧ Int32.toInt64 (nI d9) ≤ 40) then (if 400 < nI T + (nI d9) then wI I 47 0 2 else m_tk (wI I 47 0 0) L z T (nI d9).toNatClampNeg) else wI I 47 0 1) L)) (fun _ _ _ => False) 110 [(3, .int (nI c3)), (2, .int (nI k)), (0, .ref 47), (1, .int (nI d9))] [] 77 0 0 (fm (m_lks (wI (m_was (m_tk (wI I 47 0 0) L z T k) (T + k) 5) 47 2 (nI (T + k + 1))) L z c3) L) := by
                intro j3
                induction j3 with
                | zero => intro c3 hj; omega
                | succ j3 ih3 =>
                intro c3 hjj3 hc3
                have hl29 : (m_lks (wI (m_was (m_tk (wI I 47 0 0) L z T k) (T + k) 5) 47 2 (nI (T + k + 1))) L z c3) 47 29 = nI z := by
                  rw [m_lks_ne (by decide) (by decide), wI_ne (Or.inr (by decide)), m_was_ne (by decide)]
                  exact h29
                refine qr_iload_n (pc := 110) d_md_tick_110 rfl rfl ?_
                refine qr_iconst (v := 5) (pc := 111) d_md_tick_111 (by decide) ?_
                refine qr_icmp_ge (tgt := 126) (pc := 112) d_md_tick_112 (by decide) (fun h112 => ?_) (fun h112 => ?_)
                · skip
                  have hc3z : 5 = c3 := by
                    have := (nI_leI (a := 5) (b := c3) (by omega) (by omega)).mp h112
                    omega
                  subst hc3z
                  refine qr_iinc (v := nI (k + 1)) (lv' := [(2, .int (nI (k + 1))), (3, .int (nI 5)), (0, .ref 47), (1, .int (nI d9))]) (pc := 126) d_md_tick_126 rfl (nI_1 k) (Nat.le_of_ble_eq_true rfl) rfl ?_
                  refine qr_goto (tgt := 43) (pc := 129) d_md_tick_129 (by decide) ?_
                  refine qR_sub (lv' := [(2, .int (nI (k + 1))), (0, .ref 47), (1, .int (nI d9))]) [0, 2, 3] rfl ?_
                  exact qR_st (by rfl) rfl (rfl) (ih (k + 1) (by omega) (by omega))
                · skip
                  have hc3z : c3 < 5 := by
                    have := mt (nI_leI (a := 5) (b := c3) (by omega) (by omega)).mpr h112
                    omega
                  refine qr_aload_n (pc := 115) d_md_tick_115 rfl rfl ?_
                  refine qr_iload_n (pc := 116) d_md_tick_116 rfl rfl ?_
                  refine qr_callV (q := 47) (As := [.int (nI c3)]) (pc := 117) d_md_tick_117 lk_md_221 im_md_look2 se_md_look2 rfl (by decide) (by decide) (c_47 _ _) (s_md_look2 _ x (m_lks (wI (m_was (m_tk (wI I 47 0 0) L z T k) (T + k) 5) 47 2 (nI (T + k + 1))) L z c3) L z c3 hl29 hz2 (by omega)) rfl rfl (Nat.le_of_ble_eq_true rfl) (Nat.le_of_ble_eq_true rfl) (Nat.le_of_ble_eq_true rfl) (Nat.zero_le _) (Nat.zero_le _) (fun h => ⟨h, rfl, Or.inl rfl⟩) (fun v n9 f9 hE117 => ?_)
                  obtain ⟨rfl, rfl, rfl⟩ := hE117
                  refine qr_iinc (v := nI (c3 + 1)) (lv' := [(3, .int (nI (c3 + 1))), (2, .int (nI k)), (0, .ref 47), (1, .int (nI d9))]) (pc := 120) d_md_tick_120 rfl (nI_1 c3) (Nat.le_of_ble_eq_true rfl) rfl ?_
                  refine qr_goto (tgt := 110) (pc := 123) d_md_tick_123 (by decide) ?_
                  exact qR_st (by rfl) rfl (rfl) (ih3 (c3 + 1) (by omega) (by omega))
              exact qR_st rfl rfl (by rw [nI_1]; rfl) (loop110 (5 + 1) 0 (by omega) (by omega))
            · skip
              have hc2z : c2 < 5 := by
                have := mt (nI_leI (a := 5) (b := c2) (by omega) (by omega)).mpr h52
                omega
              refine qr_aload_n (pc := 55) d_md_tick_55 rfl rfl ?_
              refine qr_get (v := .ref 62) (pc := 56) d_md_tick_56 fl_md_57 (by decide) (by decide) (c_47 _ _) rfl ?_
              refine qr_sipush (v := 401) (pc := 59) d_md_tick_59 (by decide) ?_
              refine qr_iload_n (pc := 62) d_md_tick_62 rfl rfl ?_
              refine qr_imul (pc := 63) d_md_tick_63 ?_
              refine qr_aload_n (pc := 64) d_md_tick_64 rfl rfl ?_
              refine qr_get (v := .int (nI (T + k))) (pc := 65) d_md_tick_65 fl_md_188 (by decide) (by decide) (c_47 _ _) (congrArg (fun t => some (Value.int t)) hw2) ?_
              refine qr_iadd (pc := 68) d_md_tick_68 ?_
              refine qr_aload_n (pc := 69) d_md_tick_69 rfl rfl ?_
              refine qr_get (v := .ref 59) (pc := 70) d_md_tick_70 fl_md_47 (by decide) (by decide) (c_47 _ _) rfl ?_
              refine qr_iload_n (pc := 73) d_md_tick_73 rfl rfl ?_
              refine qr_ialdN (j := c2) (pc := 74) d_md_tick_74 (by decide) (by decide) (c_59 _ _) (by omega) (by decide) ?_
              refine qr_iconst (v := 1) (pc := 75) d_md_tick_75 (by decide) ?_
              refine qr_icmp_ne (tgt := 83) (pc := 76) d_md_tick_76 (by decide) (fun h76 => ?_) (fun h76 => ?_)
              · skip
                refine qr_aload_n (pc := 83) d_md_tick_83 rfl rfl ?_
                refine qr_get (v := .ref 58) (pc := 84) d_md_tick_84 fl_md_44 (by decide) (by decide) (c_47 _ _) rfl ?_
                refine qr_iload_n (pc := 87) d_md_tick_87 rfl rfl ?_
                refine qr_ialdN (j := c2) (pc := 88) d_md_tick_88 (by decide) (by decide) (c_58 _ _) (by omega) (by decide) ?_
                refine qr_iconst (v := 1) (pc := 89) d_md_tick_89 (by decide) ?_
                refine qr_iadd (pc := 90) d_md_tick_90 ?_
                refine qR_st (st' := [.int (((m_was (m_tk (wI I 47 0 0) L z T k) (T + k) c2) 58 c2) + 1), .int (nI (401 * c2 + (T + k))), .ref 62]) rfl (by rw [ix401] <;> rfl) rfl ?_
                refine qr_iastMN (j := (401 * c2 + (T + k))) (pc := 91) d_md_tick_91 (by decide) (by decide) (c_62 _ _) (by omega) (by decide) (fun w => rfl) ?_
                refine qr_iinc (v := nI (c2 + 1)) (lv' := [(3, .int (nI (c2 + 1))), (2, .int (nI k)), (0, .ref 47), (1, .int (nI d9))]) (pc := 92) d_md_tick_92 rfl (nI_1 c2) (Nat.le_of_ble_eq_true rfl) rfl ?_
                refine qr_goto (tgt := 50) (pc := 95) d_md_tick_95 (by decide) ?_
                exact qR_st (by rfl) rfl (by simp [m_was, *]) (ih2 (c2 + 1) (by omega) (by omega))
              · skip
                refine qr_iconst (v := 0) (pc := 79) d_md_tick_79 (by decide) ?_
                refine qr_goto (tgt := 91) (pc := 80) d_md_tick_80 (by decide) ?_
                refine qR_st (st' := [.int 0, .int (nI (401 * c2 + (T + k))), .ref 62]) rfl (by rw [ix401] <;> rfl) rfl ?_
                refine qr_iastMN (j := (401 * c2 + (T + k))) (pc := 91) d_md_tick_91 (by decide) (by decide) (c_62 _ _) (by omega) (by decide) (fun w => rfl) ?_
                refine qr_iinc (v := nI (c2 + 1)) (lv' := [(3, .int (nI (c2 + 1))), (2, .int (nI k)), (0, .ref 47), (1, .int (nI d9))]) (pc := 92) d_md_tick_92 rfl (nI_1 c2) (Nat.le_of_ble_eq_true rfl) rfl ?_
                refine qr_goto (tgt := 50) (pc := 95) d_md_tick_95 (by decide) ?_
                exact qR_st (by rfl) rfl (by simp [m_was, *]) (ih2 (c2 + 1) (by omega) (by omega))
          exact loop50 (5 + 1) 0 (by omega) (by omega)
      exact loop43 (d9 + 1) 0 (by omega) (by omega)
    · skip
      have g27 := Int32.not_le.mp h27
      refine qr_aload_n (pc := 30) d_md_tick_30 rfl rfl ?_
      refine qr_iconst (v := 2) (pc := 31) d_md_tick_31 (by decide) ?_
      refine qr_callV (q := 47) (As := [.int 2]) (pc := 32) d_md_tick_32 lk_md_110 im_md_refuse se_md_refuse rfl (by decide) (by decide) (c_47 _ _) (s_md_refuse _ x I L 2) rfl rfl (Nat.le_of_ble_eq_true rfl) (Nat.le_of_ble_eq_true rfl) (Nat.le_of_ble_eq_true rfl) (Nat.zero_le _) (Nat.zero_le _) (fun h => ⟨h, rfl, Or.inl rfl⟩) (fun v n9 f9 hE32 => ?_)
      obtain ⟨rfl, rfl, rfl⟩ := hE32
      exact qr_iret (pc := 35) d_md_tick_35 rfl rfl ⟨(by simp [*]), rfl, (by simp [*])⟩ (Nat.zero_le _) (Nat.zero_le _)
  · skip
    simp only [b01, Decidable.not_not] at h9
    refine qr_aload_n (pc := 12) d_md_tick_12 rfl rfl ?_
    refine qr_iconst (v := 1) (pc := 13) d_md_tick_13 (by decide) ?_
    refine qr_callV (q := 47) (As := [.int 1]) (pc := 14) d_md_tick_14 lk_md_110 im_md_refuse se_md_refuse rfl (by decide) (by decide) (c_47 _ _) (s_md_refuse _ x I L 1) rfl rfl (Nat.le_of_ble_eq_true rfl) (Nat.le_of_ble_eq_true rfl) (Nat.le_of_ble_eq_true rfl) (Nat.zero_le _) (Nat.zero_le _) (fun h => ⟨h, rfl, Or.inl rfl⟩) (fun v n9 f9 hE14 => ?_)
    obtain ⟨rfl, rfl, rfl⟩ := hE14
    exact qr_iret (pc := 17) d_md_tick_17 rfl rfl ⟨(by simp [*]), rfl, (by simp [*])⟩ (Nat.zero_le _) (Nat.zero_le _)
