def m_sh : Nat → Int32
  | 0 => 7
  | i + 1 => m_sh i + (-1)
def mb (w : Int64) (k : Nat) : Int32 := (Int64.toInt32 (((Int64.toUInt64 w) >>> ((Int32.toInt64 (8 * (nI k))).toUInt64 &&& Int64.toUInt64 63)).toInt64)) &&& 255
def mb2 (w : Int64) (i : Nat) : Int32 := (Int64.toInt32 (((Int64.toUInt64 w) >>> ((Int32.toInt64 (8 * (m_sh i))).toUInt64 &&& Int64.toUInt64 63)).toInt64)) &&& 255
def ib (x : Int32) : Nat := if x = 0 then 0 else 1
def m_cN (w : Int64) : Nat → Nat
  | 0 => 0
  | k + 1 => m_cN w k + ib (mb w k)
def m_bad (w : Int64) (k : Nat) : Prop := ¬ mb w k = 0 ∧ ¬ (32 ≤ Int32.toInt64 (mb w k) ∧ Int32.toInt64 (mb w k) ≤ 126)
def m_anyb (w : Int64) : Nat → Bool
  | 0 => false
  | k + 1 => m_anyb w k || (!(mb w k == 0) && !(decide (32 ≤ Int32.toInt64 (mb w k) ∧ Int32.toInt64 (mb w k) ≤ 126)))
theorem m_anyb_hit {w : Int64} {k : Nat} (h1 : ¬ mb w k = 0) (h2 : ¬ (32 ≤ Int32.toInt64 (mb w k) ∧ Int32.toInt64 (mb w k) ≤ 126)) : ∀ z, k < z → m_anyb w z = true
  | z + 1, hz => by
    by_cases e : k = z
    · subst e
      unfold m_anyb
      rw [decide_eq_false h2, beq_eq_false_iff_ne.mpr h1]
      simp
    · unfold m_anyb
      rw [m_anyb_hit h1 h2 z (by omega)]
      rfl
theorem m_anyb_ok {w : Int64} {k : Nat} (h0 : m_anyb w k = false) (h : mb w k = 0 ∨ (32 ≤ Int32.toInt64 (mb w k) ∧ Int32.toInt64 (mb w k) ≤ 126)) : m_anyb w (k + 1) = false := by
  unfold m_anyb
  rw [h0]
  rcases h with h | h
  · rw [h]; rfl
  · rw [decide_eq_true h]; simp
def m_ln (w : Int64) (n : Nat) : Nat → Nat
  | 0 => n
  | i + 1 => m_ln w n i + ib (mb2 w i)
def m_ap (I : Nat → Nat → Int32) (w : Int64) (n : Nat) : Nat → Nat → Nat → Int32
  | 0 => I
  | i + 1 => if mb2 w i = 0 then m_ap I w n i else wI (wI (m_ap I w n i) 48 (m_ln w n i) (mb2 w i)) 47 4 (nI (m_ln w n i + 1))
theorem m_sh_nI : ∀ i, i < 8 → m_sh i = nI (7 - i) := by decide +kernel
theorem mb2_eq (w : Int64) {i : Nat} (h : i < 8) : mb2 w i = mb w (7 - i) := by
  unfold mb2 mb
  rw [m_sh_nI i h]
theorem m_ln_8 (w : Int64) (n : Nat) : m_ln w n 8 = n + m_cN w 8 := by
  simp only [m_ln, m_cN]
  have e : mb2 w 0 = mb w 7 ∧ mb2 w 1 = mb w 6 ∧ mb2 w 2 = mb w 5 ∧ mb2 w 3 = mb w 4 ∧ mb2 w 4 = mb w 3 ∧ mb2 w 5 = mb w 2 ∧ mb2 w 6 = mb w 1 ∧ mb2 w 7 = mb w 0 := ⟨mb2_eq w (by decide), mb2_eq w (by decide), mb2_eq w (by decide), mb2_eq w (by decide), mb2_eq w (by decide), mb2_eq w (by decide), mb2_eq w (by decide), mb2_eq w (by decide)⟩
  obtain ⟨e0, e1, e2, e3, e4, e5, e6, e7⟩ := e
  rw [e0, e1, e2, e3, e4, e5, e6, e7]
  omega
theorem m_ln_mono (w : Int64) (n : Nat) : ∀ i j, i ≤ j → m_ln w n i ≤ m_ln w n j
  | i, 0, h => by rw [show i = 0 by omega]; exact Nat.le_refl _
  | i, j + 1, h => by
    by_cases e : i = j + 1
    · rw [e]; exact Nat.le_refl _
    · have := m_ln_mono w n i j (by omega)
      simp only [m_ln]
      omega
theorem m_ap_4 {I : Nat → Nat → Int32} {w : Int64} {n : Nat} (h : I 47 4 = nI n) : ∀ i, m_ap I w n i 47 4 = nI (m_ln w n i)
  | 0 => h
  | i + 1 => by
    simp only [m_ap, m_ln, ib]
    split
    · exact m_ap_4 h i
    · rw [wI_at]
theorem m_cN_le (w : Int64) : ∀ k, m_cN w k ≤ k
  | 0 => Nat.le_refl 0
  | k + 1 => by
    have := m_cN_le w k
    unfold m_cN ib
    split <;> omega
set_option maxRecDepth 10000 in
theorem s_md_text (l : Launch) (x : Bool) (I : Nat → Nat → Int32) (L : Nat → Nat → Int64) (n : Nat) (hn : I 47 4 = nI n) (hn2 : n ≤ 60) (w : Int64) : qSp l y_md_text b_md_text 6 (some .int) x 2 0 0 [.ref 47, .long w] 77 (fm I L) (qD (some (.int (if m_anyb w 8 = true then 0 else if 60 < (n + m_cN w 8) then 0 else nI (n + m_cN w 8)))) 77 (fm (if m_anyb w 8 = true then wI I 47 0 1 else if 60 < (n + m_cN w 8) then wI I 47 0 2 else m_ap (wI I 47 0 0) w n 8) L)) := by
  refine qSp_of (ini := false) (by decide +kernel) (fun h => nomatch h) (Nat.le_of_ble_eq_true rfl) ?_
  show qR _ _ _ 0 [(0, .ref 47), (1, .long w)] [] _ _ _ _
  refine qr_iconst (v := 0) (pc := 0) d_md_text_0 (by decide) ?_
  refine qr_istore_n (lv' := [(3, .int 0), (0, .ref 47), (1, .long w)]) (pc := 1) d_md_text_1 rfl (Nat.le_of_ble_eq_true rfl) rfl ?_
  refine qr_aload_n (pc := 2) d_md_text_2 rfl rfl ?_
  refine qr_iconst (v := 0) (pc := 3) d_md_text_3 (by decide) ?_
  refine qr_putI (pc := 4) d_md_text_4 fl_md_99 (by decide) (by decide) (c_47 _ _) (Nat.le_of_ble_eq_true rfl) (qFit_i _) (fun w => rfl) ?_
  refine qr_iconst (v := 0) (pc := 7) d_md_text_7 (by decide) ?_
  refine qr_istore (lv' := [(4, .int 0), (3, .int 0), (0, .ref 47), (1, .long w)]) (pc := 8) d_md_text_8 (Nat.le_of_ble_eq_true rfl) rfl ?_
  have loop10 : ∀ (j k : Nat), 8 - k < j → k ≤ 8 → m_anyb w k = false → qR (l, y_md_text.cls, b_md_text, 6, (some .int), false, x, 2, 0, 0, 77, q0) (qD (some (.int (if m_anyb w 8 = true then 0 else if 60 < (n + m_cN w 8) then 0 else nI (n + m_cN w 8)))) 77 (fm (if m_anyb w 8 = true then wI I 47 0 1 else if 60 < (n + m_cN w 8) then wI I 47 0 2 else m_ap (wI I 47 0 0) w n 8) L)) (fun _ _ _ => False) 10 [(4, .int (nI k)), (3, .int (nI (m_cN w k))), (0, .ref 47), (1, .long w)] [] 77 0 0 (fm (wI I 47 0 0) L) := by
    intro j
    induction j with
    | zero => intro k hj; omega
    | succ j ih =>
    intro k hjj hk hu
    refine qr_iload (pc := 10) d_md_text_10 rfl ?_
    refine qr_bipush (v := 8) (pc := 12) d_md_text_12 (by decide) ?_
    refine qr_icmp_ge (tgt := 71) (pc := 14) d_md_text_14 (by decide) (fun h14 => ?_) (fun h14 => ?_)
    · skip
      have hkz : 8 = k := by
        have := (nI_leI (a := 8) (b := k) (by omega) (by omega)).mp h14
        omega
      subst hkz
      refine qr_aload_n (pc := 71) d_md_text_71 rfl rfl ?_
      refine qr_get (v := .int (nI n)) (pc := 72) d_md_text_72 fl_md_114 (by decide) (by decide) (c_47 _ _) (congrArg (fun t => some (Value.int t)) hn) ?_
      refine qr_iload_n (pc := 75) d_md_text_75 rfl rfl ?_
      refine qr_iadd (pc := 76) d_md_text_76 ?_
      refine qr_bipush (v := 60) (pc := 77) d_md_text_77 (by decide) ?_
      refine qr_icmp_le (tgt := 88) (pc := 79) d_md_text_79 (by decide) (fun h79 => ?_) (fun h79 => ?_)
      · skip
        have hle : ¬ 60 < n + m_cN w 8 := by
          have h9 := m_cN_le w 8
          rw [nI_add] at h79
          have := (nI_leI (a := n + m_cN w 8) (b := 60) (by omega) (by omega)).mp h79
          omega
        have hl8 := m_ln_8 w n
        refine qr_bipush (v := 7) (pc := 88) d_md_text_88 (by decide) ?_
        refine qr_istore (lv' := [(4, .int 7), (3, .int (nI (m_cN w 8))), (0, .ref 47), (1, .long w)]) (pc := 90) d_md_text_90 (Nat.le_of_ble_eq_true rfl) rfl ?_
        have loop92 : ∀ (j2 i : Nat), 8 - i < j2 → i ≤ 8 → qR (l, y_md_text.cls, b_md_text, 6, (some .int), false, x, 2, 0, 0, 77, q0) (qD (some (.int (if m_anyb w 8 = true then 0 else if 60 < (n + m_cN w 8) then 0 else nI (n + m_cN w 8)))) 77 (fm (if m_anyb w 8 = true then wI I 47 0 1 else if 60 < (n + m_cN w 8) then wI I 47 0 2 else m_ap (wI I 47 0 0) w n 8) L)) (fun _ _ _ => False) 92 [(4, .int (m_sh i)), (0, .ref 47), (1, .long w)] [] 77 0 0 (fm (m_ap (wI I 47 0 0) w n i) L) := by
          intro j2
          induction j2 with
          | zero => intro i hj; omega
          | succ j2 ih2 =>
          intro i hj2 hi
          have hlen : m_ap (wI I 47 0 0) w n i 47 4 = nI (m_ln w n i) := m_ap_4 (I := wI I 47 0 0) hn i
          have hmo := m_ln_mono w n i 8 hi
          refine qr_iload (pc := 92) d_md_text_92 rfl ?_
          refine qr_if_lt (tgt := 146) (pc := 94) d_md_text_94 (by decide) (fun h94 => ?_) (fun h94 => ?_)
          · skip
            have hi8 : 8 = i := by
              rcases Nat.lt_or_ge i 8 with q | q
              · exact absurd h94 (by rw [m_sh_nI i q]; exact nI_pos (by omega))
              · omega
            subst hi8
            refine qr_aload_n (pc := 146) d_md_text_146 rfl rfl ?_
            refine qr_get (v := .int ((m_ap (wI I 47 0 0) w n 8) 47 4)) (pc := 147) d_md_text_147 fl_md_114 (by decide) (by decide) (c_47 _ _) rfl ?_
            exact qr_iret (pc := 150) d_md_text_150 rfl rfl ⟨(by simp [m_ln_8, *]), rfl, (by simp [wI_wI9, *])⟩ (Nat.zero_le _) (Nat.zero_le _)
          · skip
            have hi8 : i < 8 := by
              rcases Nat.lt_or_ge i 8 with q | q
              · exact q
              · exact absurd (by rw [show i = 8 by omega]; decide) h94
            refine qr_lload_n (pc := 97) d_md_text_97 rfl rfl ?_
            refine qr_bipush (v := 8) (pc := 98) d_md_text_98 (by decide) ?_
            refine qr_iload (pc := 100) d_md_text_100 rfl ?_
            refine qr_imul (pc := 102) d_md_text_102 ?_
            refine qr_lushr (pc := 103) d_md_text_103 ?_
            refine qr_l2i (pc := 104) d_md_text_104 ?_
            refine qr_sipush (v := 255) (pc := 105) d_md_text_105 (by decide) ?_
            refine qr_iand (pc := 108) d_md_text_108 ?_
            refine qR_st (st' := [.int (mb2 w i)]) rfl rfl rfl ?_
            refine qr_istore (lv' := [(5, .int (mb2 w i)), (4, .int (m_sh i)), (0, .ref 47), (1, .long w)]) (pc := 109) d_md_text_109 (Nat.le_of_ble_eq_true rfl) rfl ?_
            refine qr_iload (pc := 111) d_md_text_111 rfl ?_
            refine qr_if_ne (tgt := 119) (pc := 113) d_md_text_113 (by decide) (fun h113 => ?_) (fun h113 => ?_)
            · skip
              have hl9 : m_ln w n (i + 1) = m_ln w n i + 1 := by simp [m_ln, ib, h113]
              have hm9 := m_ln_mono w n (i + 1) 8 (by omega)
              refine qr_aload_n (pc := 119) d_md_text_119 rfl rfl ?_
              refine qr_get (v := .ref 48) (pc := 120) d_md_text_120 fl_md_13 (by decide) (by decide) (c_47 _ _) rfl ?_
              refine qr_aload_n (pc := 123) d_md_text_123 rfl rfl ?_
              refine qr_get (v := .int (nI (m_ln w n i))) (pc := 124) d_md_text_124 fl_md_114 (by decide) (by decide) (c_47 _ _) (congrArg (fun t => some (Value.int t)) hlen) ?_
              refine qr_iload (pc := 127) d_md_text_127 rfl ?_
              refine qr_iastMN (j := (m_ln w n i)) (pc := 129) d_md_text_129 (by decide) (by decide) (c_48 _ _) (by omega) (by decide) (fun w => rfl) ?_
              refine qr_aload_n (pc := 130) d_md_text_130 rfl rfl ?_
              refine qr_dup (pc := 131) d_md_text_131 rfl ?_
              refine qr_get (v := .int (nI (m_ln w n i))) (pc := 132) d_md_text_132 fl_md_114 (by decide) (by decide) (c_47 _ _) (congrArg (fun t => some (Value.int t)) hlen) ?_
              refine qr_iconst (v := 1) (pc := 135) d_md_text_135 (by decide) ?_
              refine qr_iadd (pc := 136) d_md_text_136 ?_
              refine qr_putI (pc := 137) d_md_text_137 fl_md_114 (by decide) (by decide) (c_47 _ _) (Nat.le_of_ble_eq_true rfl) (qFit_i _) (fun w => rfl) ?_
              refine qr_iinc (v := (m_sh i) + (-1)) (lv' := [(4, .int ((m_sh i) + (-1))), (5, .int (mb2 w i)), (0, .ref 47), (1, .long w)]) (pc := 140) d_md_text_140 rfl rfl (Nat.le_of_ble_eq_true rfl) rfl ?_
              refine qr_goto (tgt := 92) (pc := 143) d_md_text_143 (by decide) ?_
              refine qR_sub (lv' := [(4, .int ((m_sh i) + (-1))), (0, .ref 47), (1, .long w)]) [0, 2, 3] rfl ?_
              exact qR_st rfl rfl (by simp [m_ap, nI_1, *]) (ih2 (i + 1) (by omega) (by omega))
            · skip
              refine qr_goto (tgt := 140) (pc := 116) d_md_text_116 (by decide) ?_
              refine qr_iinc (v := (m_sh i) + (-1)) (lv' := [(4, .int ((m_sh i) + (-1))), (5, .int (mb2 w i)), (0, .ref 47), (1, .long w)]) (pc := 140) d_md_text_140 rfl rfl (Nat.le_of_ble_eq_true rfl) rfl ?_
              refine qr_goto (tgt := 92) (pc := 143) d_md_text_143 (by decide) ?_
              refine qR_sub (lv' := [(4, .int ((m_sh i) + (-1))), (0, .ref 47), (1, .long w)]) [0, 2, 3] rfl ?_
              exact qR_st rfl rfl (by simp [m_ap, nI_1, *]) (ih2 (i + 1) (by omega) (by omega))
        refine qR_sub (lv' := [(4, .int 7), (0, .ref 47), (1, .long w)]) [0, 2, 3] rfl ?_
        exact loop92 (8 + 1) 0 (by omega) (by omega)
      · skip
        have hgt : 60 < n + m_cN w 8 := by
          have h9 := m_cN_le w 8
          rw [nI_add] at h79
          exact Nat.not_le.mp (fun q => h79 (nI_le (b := 60) q (by omega)))
        refine qr_aload_n (pc := 82) d_md_text_82 rfl rfl ?_
        refine qr_iconst (v := 2) (pc := 83) d_md_text_83 (by decide) ?_
        refine qr_callV (q := 47) (As := [.int 2]) (pc := 84) d_md_text_84 lk_md_110 im_md_refuse se_md_refuse rfl (by decide) (by decide) (c_47 _ _) (s_md_refuse _ x (wI I 47 0 0) L 2) rfl rfl (Nat.le_of_ble_eq_true rfl) (Nat.le_of_ble_eq_true rfl) (Nat.le_of_ble_eq_true rfl) (Nat.zero_le _) (Nat.zero_le _) (fun h => ⟨h, rfl, Or.inl rfl⟩) (fun v n9 f9 hE84 => ?_)
        obtain ⟨rfl, rfl, rfl⟩ := hE84
        exact qr_iret (pc := 87) d_md_text_87 rfl rfl ⟨(by simp [*]), rfl, (by simp [wI_wI9, *])⟩ (Nat.zero_le _) (Nat.zero_le _)
    · skip
      have hkz : k < 8 := by
        have := mt (nI_leI (a := 8) (b := k) (by omega) (by omega)).mpr h14
        omega
      refine qr_lload_n (pc := 17) d_md_text_17 rfl rfl ?_
      refine qr_bipush (v := 8) (pc := 18) d_md_text_18 (by decide) ?_
      refine qr_iload (pc := 20) d_md_text_20 rfl ?_
      refine qr_imul (pc := 22) d_md_text_22 ?_
      refine qr_lushr (pc := 23) d_md_text_23 ?_
      refine qr_l2i (pc := 24) d_md_text_24 ?_
      refine qr_sipush (v := 255) (pc := 25) d_md_text_25 (by decide) ?_
      refine qr_iand (pc := 28) d_md_text_28 ?_
      refine qR_st (st' := [.int (mb w k)]) rfl rfl rfl ?_
      refine qr_istore (lv' := [(5, .int (mb w k)), (4, .int (nI k)), (3, .int (nI (m_cN w k))), (0, .ref 47), (1, .long w)]) (pc := 29) d_md_text_29 (Nat.le_of_ble_eq_true rfl) rfl ?_
      refine qr_iload (pc := 31) d_md_text_31 rfl ?_
      refine qr_if_eq (tgt := 57) (pc := 33) d_md_text_33 (by decide) (fun h33 => ?_) (fun h33 => ?_)
      · skip
        refine qr_iload (pc := 57) d_md_text_57 rfl ?_
        refine qr_if_eq (tgt := 65) (pc := 59) d_md_text_59 (by decide) (fun h59 => ?_) (fun h59 => ?_)
        · skip
          refine qr_iinc (v := nI (k + 1)) (lv' := [(4, .int (nI (k + 1))), (5, .int (mb w k)), (3, .int (nI (m_cN w k))), (0, .ref 47), (1, .long w)]) (pc := 65) d_md_text_65 rfl (nI_1 k) (Nat.le_of_ble_eq_true rfl) rfl ?_
          refine qr_goto (tgt := 10) (pc := 68) d_md_text_68 (by decide) ?_
          refine qR_sub (lv' := [(4, .int (nI (k + 1))), (3, .int (nI (m_cN w k))), (0, .ref 47), (1, .long w)]) [0, 2, 3, 4] rfl ?_
          exact qR_st (by first | exact absurd h33 h59 | simp [m_cN, ib, *]) rfl rfl (ih (k + 1) (by omega) (by omega) (m_anyb_ok hu (by first | exact Or.inl (by assumption) | exact Or.inr (by assumption))))
        · skip
          refine qr_iinc (v := nI ((m_cN w k) + 1)) (lv' := [(3, .int (nI ((m_cN w k) + 1))), (5, .int (mb w k)), (4, .int (nI k)), (0, .ref 47), (1, .long w)]) (pc := 62) d_md_text_62 rfl (nI_1 (m_cN w k)) (Nat.le_of_ble_eq_true rfl) rfl ?_
          refine qr_iinc (v := nI (k + 1)) (lv' := [(4, .int (nI (k + 1))), (3, .int (nI ((m_cN w k) + 1))), (5, .int (mb w k)), (0, .ref 47), (1, .long w)]) (pc := 65) d_md_text_65 rfl (nI_1 k) (Nat.le_of_ble_eq_true rfl) rfl ?_
          refine qr_goto (tgt := 10) (pc := 68) d_md_text_68 (by decide) ?_
          refine qR_sub (lv' := [(4, .int (nI (k + 1))), (3, .int (nI ((m_cN w k) + 1))), (0, .ref 47), (1, .long w)]) [0, 1, 3, 4] rfl ?_
          exact qR_st (by first | exact absurd h33 h59 | simp [m_cN, ib, *]) rfl rfl (ih (k + 1) (by omega) (by omega) (m_anyb_ok hu (by first | exact Or.inl (by assumption) | exact Or.inr (by assumption))))
      · skip
        refine qr_iload (pc := 36) d_md_text_36 rfl ?_
        refine qr_i2l (pc := 38) d_md_text_38 ?_
        refine qr_ldc2 (v := 32) (pc := 39) d_md_text_39 kl_md_102 ?_
        refine qr_ldc2 (v := 126) (pc := 42) d_md_text_42 kl_md_104 ?_
        refine qr_callS (As := [.long (Int32.toInt64 (mb w k)), .long 32, .long 126]) (pc := 45) d_md_text_45 lk_md_106 sm_md_in (s_md_in _ x _ _ (Int32.toInt64 (mb w k)) 32 126) rfl rfl (Nat.le_of_ble_eq_true rfl) (Nat.le_of_ble_eq_true rfl) (Nat.le_of_ble_eq_true rfl) (Nat.zero_le _) (Nat.zero_le _) (fun h => ⟨h, rfl, Or.inl rfl⟩) (fun v n9 f9 hE45 => ?_)
        obtain ⟨rfl, rfl, rfl⟩ := hE45
        refine qr_if_ne (tgt := 57) (pc := 48) d_md_text_48 (by decide) (fun h48 => ?_) (fun h48 => ?_)
        · skip
          simp only [b01, Decidable.not_not] at h48
          refine qr_iload (pc := 57) d_md_text_57 rfl ?_
          refine qr_if_eq (tgt := 65) (pc := 59) d_md_text_59 (by decide) (fun h59 => ?_) (fun h59 => ?_)
          · skip
            refine qr_iinc (v := nI (k + 1)) (lv' := [(4, .int (nI (k + 1))), (5, .int (mb w k)), (3, .int (nI (m_cN w k))), (0, .ref 47), (1, .long w)]) (pc := 65) d_md_text_65 rfl (nI_1 k) (Nat.le_of_ble_eq_true rfl) rfl ?_
            refine qr_goto (tgt := 10) (pc := 68) d_md_text_68 (by decide) ?_
            refine qR_sub (lv' := [(4, .int (nI (k + 1))), (3, .int (nI (m_cN w k))), (0, .ref 47), (1, .long w)]) [0, 2, 3, 4] rfl ?_
            exact qR_st (by first | exact absurd h33 h59 | simp [m_cN, ib, *]) rfl rfl (ih (k + 1) (by omega) (by omega) (m_anyb_ok hu (by first | exact Or.inl (by assumption) | exact Or.inr (by assumption))))
          · skip
            refine qr_iinc (v := nI ((m_cN w k) + 1)) (lv' := [(3, .int (nI ((m_cN w k) + 1))), (5, .int (mb w k)), (4, .int (nI k)), (0, .ref 47), (1, .long w)]) (pc := 62) d_md_text_62 rfl (nI_1 (m_cN w k)) (Nat.le_of_ble_eq_true rfl) rfl ?_
            refine qr_iinc (v := nI (k + 1)) (lv' := [(4, .int (nI (k + 1))), (3, .int (nI ((m_cN w k) + 1))), (5, .int (mb w k)), (0, .ref 47), (1, .long w)]) (pc := 65) d_md_text_65 rfl (nI_1 k) (Nat.le_of_ble_eq_true rfl) rfl ?_
            refine qr_goto (tgt := 10) (pc := 68) d_md_text_68 (by decide) ?_
            refine qR_sub (lv' := [(4, .int (nI (k + 1))), (3, .int (nI ((m_cN w k) + 1))), (0, .ref 47), (1, .long w)]) [0, 1, 3, 4] rfl ?_
            exact qR_st (by first | exact absurd h33 h59 | simp [m_cN, ib, *]) rfl rfl (ih (k + 1) (by omega) (by omega) (m_anyb_ok hu (by first | exact Or.inl (by assumption) | exact Or.inr (by assumption))))
        · skip
          simp only [b01, Decidable.not_not] at h48
          have hb := m_anyb_hit h33 h48 8 hkz
          refine qr_aload_n (pc := 51) d_md_text_51 rfl rfl ?_
          refine qr_iconst (v := 1) (pc := 52) d_md_text_52 (by decide) ?_
          refine qr_callV (q := 47) (As := [.int 1]) (pc := 53) d_md_text_53 lk_md_110 im_md_refuse se_md_refuse rfl (by decide) (by decide) (c_47 _ _) (s_md_refuse _ x (wI I 47 0 0) L 1) rfl rfl (Nat.le_of_ble_eq_true rfl) (Nat.le_of_ble_eq_true rfl) (Nat.le_of_ble_eq_true rfl) (Nat.zero_le _) (Nat.zero_le _) (fun h => ⟨h, rfl, Or.inl rfl⟩) (fun v n9 f9 hE53 => ?_)
          obtain ⟨rfl, rfl, rfl⟩ := hE53
          exact qr_iret (pc := 56) d_md_text_56 rfl rfl ⟨(by simp [*]), rfl, (by simp [wI_wI9, *])⟩ (Nat.zero_le _) (Nat.zero_le _)
  exact loop10 (8 + 1) 0 (by omega) (by omega) rfl
