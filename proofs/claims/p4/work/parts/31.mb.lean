theorem i_pos {x : Int32} (h : ¬ x ≤ 0) : 1 ≤ x := by
  rw [Int32.le_iff_toInt_le] at h ⊢
  have h3 : (1 : Int32).toInt = 1 := by decide
  have h4 : (0 : Int32).toInt = 0 := by decide
  omega
/-- an int between 0 and a literal, as longs say it -/
theorem in_nI {c : Int32} {b : Int64} {n : Nat} (hb : b.toInt = n) (h : 0 ≤ Int32.toInt64 c ∧ Int32.toInt64 c ≤ b) : ∃ k : Nat, k ≤ n ∧ c = nI k := by
  obtain ⟨h1, h2⟩ := h
  rw [Int64.le_iff_toInt_le, Int32.toInt_toInt64] at h1 h2
  have h4 : (0 : Int64).toInt = 0 := by decide
  have h0 : ¬ c < 0 := fun q => by
    rw [Int32.lt_iff_toInt_lt] at q
    have h5 : (0 : Int32).toInt = 0 := by decide
    omega
  obtain ⟨k, hk, rfl⟩ := nI_of h0
  rw [nI_toInt hk] at h2
  exact ⟨k, by omega, rfl⟩
set_option maxRecDepth 10000 in
theorem s_md_priced (l : Launch) (x : Bool) (I : Nat → Nat → Int32) (L : Nat → Nat → Int64) (t z : Nat) (ht : t < 4) (hz : I 54 t = nI z) (hz2 : z ≤ 4) (u fr le : Int64) : qSp l y_md_priced b_md_priced 17 (some .long) x 1 0 0 [.ref 47, .int (nI t), .long u, .long fr, .long le] 77 (fm I L) (qD (some (.long (m_priced I t z u fr le))) 77 (fm I L)) := by
  refine qSp_of (ini := false) (by decide +kernel) (fun h => nomatch h) (Nat.le_of_ble_eq_true rfl) ?_
  show qR _ _ _ 0 [(0, .ref 47), (1, .int (nI t)), (2, .long u), (4, .long fr), (6, .long le)] [] _ _ _ _
  have join17 : ∀ v : Int64, m_v u fr = v → qR (l, y_md_priced.cls, b_md_priced, 17, (some .long), false, x, 1, 0, 0, 77, q0) (qD (some (.long (m_priced I t z u fr le))) 77 (fm I L)) (fun _ _ _ => False) 17 [(8, .long v), (0, .ref 47), (1, .int (nI t)), (2, .long u), (4, .long fr), (6, .long le)] [] 77 0 0 (fm I L) := by
    intro v hv
    refine qr_lconst (v := 0) (pc := 17) d_md_priced_17 (by decide) ?_
    refine qr_lstore (lv' := [(10, .long 0), (8, .long v), (0, .ref 47), (1, .int (nI t)), (2, .long u), (4, .long fr), (6, .long le)]) (pc := 18) d_md_priced_18 (Nat.le_of_ble_eq_true rfl) rfl ?_
    refine qr_lconst (v := 0) (pc := 20) d_md_priced_20 (by decide) ?_
    refine qr_lstore (lv' := [(12, .long 0), (10, .long 0), (8, .long v), (0, .ref 47), (1, .int (nI t)), (2, .long u), (4, .long fr), (6, .long le)]) (pc := 21) d_md_priced_21 (Nat.le_of_ble_eq_true rfl) rfl ?_
    refine qr_aload_n (pc := 23) d_md_priced_23 rfl rfl ?_
    refine qr_get (v := .ref 52) (pc := 24) d_md_priced_24 fl_md_26 (by decide) (by decide) (c_47 _ _) rfl ?_
    refine qr_iload_n (pc := 27) d_md_priced_27 rfl rfl ?_
    refine qr_ialdN (j := t) (pc := 28) d_md_priced_28 (by decide) (by decide) (c_52 _ _) (by omega) (by decide) ?_
    refine qr_if_le (tgt := 65) (pc := 29) d_md_priced_29 (by decide) (fun h29 => ?_) (fun h29 => ?_)
    · skip
      refine qr_iconst (v := 0) (pc := 65) d_md_priced_65 (by decide) ?_
      refine qr_istore (lv' := [(14, .int 0), (12, .long 0), (10, .long 0), (8, .long v), (0, .ref 47), (1, .int (nI t)), (2, .long u), (4, .long fr), (6, .long le)]) (pc := 66) d_md_priced_66 (Nat.le_of_ble_eq_true rfl) rfl ?_
      have loop68 : ∀ (j k : Nat), z - k < j → k ≤ z → qR (l, y_md_priced.cls, b_md_priced, 17, (some .long), false, x, 1, 0, 0, 77, q0) (qD (some (.long (m_priced I t z u fr le))) 77 (fm I L)) (fun _ _ _ => False) 68 [(14, .int (nI k)), (12, .long ((m_pt (fun k => I 56 (4 * t + k)) (fun k => I 57 (4 * t + k)) v k).2)), (10, .long ((m_pt (fun k => I 56 (4 * t + k)) (fun k => I 57 (4 * t + k)) v k).1)), (8, .long v), (0, .ref 47), (1, .int (nI t)), (2, .long u), (4, .long fr), (6, .long le)] [] 77 0 0 (fm I L) := by
        intro j
        induction j with
        | zero => intro k hj; omega
        | succ j ih =>
        intro k hjj hk
        refine qr_iload (pc := 68) d_md_priced_68 rfl ?_
        refine qr_aload_n (pc := 70) d_md_priced_70 rfl rfl ?_
        refine qr_get (v := .ref 54) (pc := 71) d_md_priced_71 fl_md_32 (by decide) (by decide) (c_47 _ _) rfl ?_
        refine qr_iload_n (pc := 74) d_md_priced_74 rfl rfl ?_
        refine qr_ialdN (j := t) (pc := 75) d_md_priced_75 (by decide) (by decide) (c_54 _ _) (by omega) (by decide) ?_
        refine qR_st (st' := [.int (nI z), .int (nI k)]) rfl (by rw [hz] <;> rfl) rfl ?_
        refine qr_icmp_ge (tgt := 157) (pc := 76) d_md_priced_76 (by decide) (fun h76 => ?_) (fun h76 => ?_)
        · skip
          have hkz : z = k := by
            have := (nI_leI (a := z) (b := k) (by omega) (by omega)).mp h76
            omega
          subst hkz
          refine qr_lload (pc := 157) d_md_priced_157 rfl ?_
          refine qr_lload (pc := 159) d_md_priced_159 rfl ?_
          refine qr_lload (pc := 161) d_md_priced_161 rfl ?_
          refine qr_lsub (pc := 163) d_md_priced_163 ?_
          refine qr_aload_n (pc := 164) d_md_priced_164 rfl rfl ?_
          refine qr_get (v := .ref 55) (pc := 165) d_md_priced_165 fl_md_35 (by decide) (by decide) (c_47 _ _) rfl ?_
          refine qr_iload_n (pc := 168) d_md_priced_168 rfl rfl ?_
          refine qr_ialdN (j := t) (pc := 169) d_md_priced_169 (by decide) (by decide) (c_55 _ _) (by omega) (by decide) ?_
          refine qr_i2l (pc := 170) d_md_priced_170 ?_
          refine qr_lmul (pc := 171) d_md_priced_171 ?_
          refine qr_ladd (pc := 172) d_md_priced_172 ?_
          refine qr_lstore (lv' := [(10, .long (((m_pt (fun z => I 56 (4 * t + z)) (fun z => I 57 (4 * t + z)) v z).1) + ((v - ((m_pt (fun z => I 56 (4 * t + z)) (fun z => I 57 (4 * t + z)) v z).2)) * (Int32.toInt64 (I 55 t))))), (14, .int (nI z)), (12, .long ((m_pt (fun z => I 56 (4 * t + z)) (fun z => I 57 (4 * t + z)) v z).2)), (8, .long v), (0, .ref 47), (1, .int (nI t)), (2, .long u), (4, .long fr), (6, .long le)]) (pc := 173) d_md_priced_173 (Nat.le_of_ble_eq_true rfl) rfl ?_
          refine qr_lload (pc := 175) d_md_priced_175 rfl ?_
          refine qr_lload (pc := 177) d_md_priced_177 rfl ?_
          refine qr_lcmp (pc := 179) d_md_priced_179 ?_
          refine qr_if_ge (tgt := 188) (pc := 180) d_md_priced_180 (by decide) (fun h180 => ?_) (fun h180 => ?_)
          · skip
            rw [lgc_ge] at h180
            have g180 := Int64.not_lt.mpr h180
            refine qr_lload (pc := 188) d_md_priced_188 rfl ?_
            exact qr_lret (pc := 190) d_md_priced_190 rfl ⟨(by simp [m_priced, m_sum, *]), rfl, rfl⟩ (Nat.zero_le _) (Nat.zero_le _)
          · skip
            rw [lgc_ge] at h180
            have g180 := Int64.not_le.mp h180
            refine qr_lload (pc := 183) d_md_priced_183 rfl ?_
            refine qr_goto (tgt := 190) (pc := 185) d_md_priced_185 (by decide) ?_
            exact qr_lret (pc := 190) d_md_priced_190 rfl ⟨(by simp [m_priced, m_sum, *]), rfl, rfl⟩ (Nat.zero_le _) (Nat.zero_le _)
        · skip
          have hkz : k < z := by
            have := mt (nI_leI (a := z) (b := k) (by omega) (by omega)).mpr h76
            omega
          refine qr_lload (pc := 79) d_md_priced_79 rfl ?_
          refine qr_aload_n (pc := 81) d_md_priced_81 rfl rfl ?_
          refine qr_get (v := .ref 56) (pc := 82) d_md_priced_82 fl_md_38 (by decide) (by decide) (c_47 _ _) rfl ?_
          refine qr_iconst (v := 4) (pc := 85) d_md_priced_85 (by decide) ?_
          refine qr_iload_n (pc := 86) d_md_priced_86 rfl rfl ?_
          refine qr_imul (pc := 87) d_md_priced_87 ?_
          refine qr_iload (pc := 88) d_md_priced_88 rfl ?_
          refine qr_iadd (pc := 90) d_md_priced_90 ?_
          refine qR_st (st' := [.int (nI (4 * t + k)), .ref 56, .long v]) rfl (by rw [ix4] <;> rfl) rfl ?_
          refine qr_ialdN (j := (4 * t + k)) (pc := 91) d_md_priced_91 (by decide) (by decide) (c_56 _ _) (by omega) (by decide) ?_
          refine qr_i2l (pc := 92) d_md_priced_92 ?_
          refine qr_lcmp (pc := 93) d_md_priced_93 ?_
          refine qr_if_ge (tgt := 102) (pc := 94) d_md_priced_94 (by decide) (fun h94 => ?_) (fun h94 => ?_)
          · skip
            rw [lgc_ge] at h94
            have g94 := Int64.not_lt.mpr h94
            refine qr_aload_n (pc := 102) d_md_priced_102 rfl rfl ?_
            refine qr_get (v := .ref 56) (pc := 103) d_md_priced_103 fl_md_38 (by decide) (by decide) (c_47 _ _) rfl ?_
            refine qr_iconst (v := 4) (pc := 106) d_md_priced_106 (by decide) ?_
            refine qr_iload_n (pc := 107) d_md_priced_107 rfl rfl ?_
            refine qr_imul (pc := 108) d_md_priced_108 ?_
            refine qr_iload (pc := 109) d_md_priced_109 rfl ?_
            refine qr_iadd (pc := 111) d_md_priced_111 ?_
            refine qR_st (st' := [.int (nI (4 * t + k)), .ref 56]) rfl (by rw [ix4] <;> rfl) rfl ?_
            refine qr_ialdN (j := (4 * t + k)) (pc := 112) d_md_priced_112 (by decide) (by decide) (c_56 _ _) (by omega) (by decide) ?_
            refine qr_i2l (pc := 113) d_md_priced_113 ?_
            refine qr_lstore (lv' := [(15, .long (Int32.toInt64 (I 56 (4 * t + k)))), (14, .int (nI k)), (12, .long ((m_pt (fun k => I 56 (4 * t + k)) (fun k => I 57 (4 * t + k)) v k).2)), (10, .long ((m_pt (fun k => I 56 (4 * t + k)) (fun k => I 57 (4 * t + k)) v k).1)), (8, .long v), (0, .ref 47), (1, .int (nI t)), (2, .long u), (4, .long fr), (6, .long le)]) (pc := 114) d_md_priced_114 (Nat.le_of_ble_eq_true rfl) rfl ?_
            refine qr_lload (pc := 116) d_md_priced_116 rfl ?_
            refine qr_lload (pc := 118) d_md_priced_118 rfl ?_
            refine qr_lcmp (pc := 120) d_md_priced_120 ?_
            refine qr_if_le (tgt := 151) (pc := 121) d_md_priced_121 (by decide) (fun h121 => ?_) (fun h121 => ?_)
            · skip
              rw [lgc_le] at h121
              have g121 := Int64.not_lt.mpr h121
              refine qr_iinc (v := nI (k + 1)) (lv' := [(14, .int (nI (k + 1))), (15, .long (Int32.toInt64 (I 56 (4 * t + k)))), (12, .long ((m_pt (fun k => I 56 (4 * t + k)) (fun k => I 57 (4 * t + k)) v k).2)), (10, .long ((m_pt (fun k => I 56 (4 * t + k)) (fun k => I 57 (4 * t + k)) v k).1)), (8, .long v), (0, .ref 47), (1, .int (nI t)), (2, .long u), (4, .long fr), (6, .long le)]) (pc := 151) d_md_priced_151 rfl (nI_1 k) (Nat.le_of_ble_eq_true rfl) rfl ?_
              refine qr_goto (tgt := 68) (pc := 154) d_md_priced_154 (by decide) ?_
              refine qR_sub (lv' := [(14, .int (nI (k + 1))), (12, .long ((m_pt (fun k => I 56 (4 * t + k)) (fun k => I 57 (4 * t + k)) v k).2)), (10, .long ((m_pt (fun k => I 56 (4 * t + k)) (fun k => I 57 (4 * t + k)) v k).1)), (8, .long v), (0, .ref 47), (1, .int (nI t)), (2, .long u), (4, .long fr), (6, .long le)]) [0, 2, 3, 4, 5, 6, 7, 8, 9] rfl ?_
              exact qR_st (by simp [m_pt, *]) rfl (rfl) (ih (k + 1) (by omega) (by omega))
            · skip
              rw [lgc_le] at h121
              have g121 := Int64.not_le.mp h121
              refine qr_lload (pc := 124) d_md_priced_124 rfl ?_
              refine qr_lload (pc := 126) d_md_priced_126 rfl ?_
              refine qr_lload (pc := 128) d_md_priced_128 rfl ?_
              refine qr_lsub (pc := 130) d_md_priced_130 ?_
              refine qr_aload_n (pc := 131) d_md_priced_131 rfl rfl ?_
              refine qr_get (v := .ref 57) (pc := 132) d_md_priced_132 fl_md_41 (by decide) (by decide) (c_47 _ _) rfl ?_
              refine qr_iconst (v := 4) (pc := 135) d_md_priced_135 (by decide) ?_
              refine qr_iload_n (pc := 136) d_md_priced_136 rfl rfl ?_
              refine qr_imul (pc := 137) d_md_priced_137 ?_
              refine qr_iload (pc := 138) d_md_priced_138 rfl ?_
              refine qr_iadd (pc := 140) d_md_priced_140 ?_
              refine qR_st (st' := [.int (nI (4 * t + k)), .ref 57, .long ((Int32.toInt64 (I 56 (4 * t + k))) - ((m_pt (fun k => I 56 (4 * t + k)) (fun k => I 57 (4 * t + k)) v k).2)), .long ((m_pt (fun k => I 56 (4 * t + k)) (fun k => I 57 (4 * t + k)) v k).1)]) rfl (by rw [ix4] <;> rfl) rfl ?_
              refine qr_ialdN (j := (4 * t + k)) (pc := 141) d_md_priced_141 (by decide) (by decide) (c_57 _ _) (by omega) (by decide) ?_
              refine qr_i2l (pc := 142) d_md_priced_142 ?_
              refine qr_lmul (pc := 143) d_md_priced_143 ?_
              refine qr_ladd (pc := 144) d_md_priced_144 ?_
              refine qr_lstore (lv' := [(10, .long (((m_pt (fun k => I 56 (4 * t + k)) (fun k => I 57 (4 * t + k)) v k).1) + (((Int32.toInt64 (I 56 (4 * t + k))) - ((m_pt (fun k => I 56 (4 * t + k)) (fun k => I 57 (4 * t + k)) v k).2)) * (Int32.toInt64 (I 57 (4 * t + k)))))), (15, .long (Int32.toInt64 (I 56 (4 * t + k)))), (14, .int (nI k)), (12, .long ((m_pt (fun k => I 56 (4 * t + k)) (fun k => I 57 (4 * t + k)) v k).2)), (8, .long v), (0, .ref 47), (1, .int (nI t)), (2, .long u), (4, .long fr), (6, .long le)]) (pc := 145) d_md_priced_145 (Nat.le_of_ble_eq_true rfl) rfl ?_
              refine qr_lload (pc := 147) d_md_priced_147 rfl ?_
              refine qr_lstore (lv' := [(12, .long (Int32.toInt64 (I 56 (4 * t + k)))), (10, .long (((m_pt (fun k => I 56 (4 * t + k)) (fun k => I 57 (4 * t + k)) v k).1) + (((Int32.toInt64 (I 56 (4 * t + k))) - ((m_pt (fun k => I 56 (4 * t + k)) (fun k => I 57 (4 * t + k)) v k).2)) * (Int32.toInt64 (I 57 (4 * t + k)))))), (15, .long (Int32.toInt64 (I 56 (4 * t + k)))), (14, .int (nI k)), (8, .long v), (0, .ref 47), (1, .int (nI t)), (2, .long u), (4, .long fr), (6, .long le)]) (pc := 149) d_md_priced_149 (Nat.le_of_ble_eq_true rfl) rfl ?_
              refine qr_iinc (v := nI (k + 1)) (lv' := [(14, .int (nI (k + 1))), (12, .long (Int32.toInt64 (I 56 (4 * t + k)))), (10, .long (((m_pt (fun k => I 56 (4 * t + k)) (fun k => I 57 (4 * t + k)) v k).1) + (((Int32.toInt64 (I 56 (4 * t + k))) - ((m_pt (fun k => I 56 (4 * t + k)) (fun k => I 57 (4 * t + k)) v k).2)) * (Int32.toInt64 (I 57 (4 * t + k)))))), (15, .long (Int32.toInt64 (I 56 (4 * t + k)))), (8, .long v), (0, .ref 47), (1, .int (nI t)), (2, .long u), (4, .long fr), (6, .long le)]) (pc := 151) d_md_priced_151 rfl (nI_1 k) (Nat.le_of_ble_eq_true rfl) rfl ?_
              refine qr_goto (tgt := 68) (pc := 154) d_md_priced_154 (by decide) ?_
              refine qR_sub (lv' := [(14, .int (nI (k + 1))), (12, .long (Int32.toInt64 (I 56 (4 * t + k)))), (10, .long (((m_pt (fun k => I 56 (4 * t + k)) (fun k => I 57 (4 * t + k)) v k).1) + (((Int32.toInt64 (I 56 (4 * t + k))) - ((m_pt (fun k => I 56 (4 * t + k)) (fun k => I 57 (4 * t + k)) v k).2)) * (Int32.toInt64 (I 57 (4 * t + k)))))), (8, .long v), (0, .ref 47), (1, .int (nI t)), (2, .long u), (4, .long fr), (6, .long le)]) [0, 1, 2, 4, 5, 6, 7, 8, 9] rfl ?_
              exact qR_st (by simp [m_pt, *]) rfl (rfl) (ih (k + 1) (by omega) (by omega))
          · skip
            rw [lgc_ge] at h94
            have g94 := Int64.not_le.mp h94
            refine qr_lload (pc := 97) d_md_priced_97 rfl ?_
            refine qr_goto (tgt := 114) (pc := 99) d_md_priced_99 (by decide) ?_
            refine qr_lstore (lv' := [(15, .long v), (14, .int (nI k)), (12, .long ((m_pt (fun k => I 56 (4 * t + k)) (fun k => I 57 (4 * t + k)) v k).2)), (10, .long ((m_pt (fun k => I 56 (4 * t + k)) (fun k => I 57 (4 * t + k)) v k).1)), (8, .long v), (0, .ref 47), (1, .int (nI t)), (2, .long u), (4, .long fr), (6, .long le)]) (pc := 114) d_md_priced_114 (Nat.le_of_ble_eq_true rfl) rfl ?_
            refine qr_lload (pc := 116) d_md_priced_116 rfl ?_
            refine qr_lload (pc := 118) d_md_priced_118 rfl ?_
            refine qr_lcmp (pc := 120) d_md_priced_120 ?_
            refine qr_if_le (tgt := 151) (pc := 121) d_md_priced_121 (by decide) (fun h121 => ?_) (fun h121 => ?_)
            · skip
              rw [lgc_le] at h121
              have g121 := Int64.not_lt.mpr h121
              refine qr_iinc (v := nI (k + 1)) (lv' := [(14, .int (nI (k + 1))), (15, .long v), (12, .long ((m_pt (fun k => I 56 (4 * t + k)) (fun k => I 57 (4 * t + k)) v k).2)), (10, .long ((m_pt (fun k => I 56 (4 * t + k)) (fun k => I 57 (4 * t + k)) v k).1)), (8, .long v), (0, .ref 47), (1, .int (nI t)), (2, .long u), (4, .long fr), (6, .long le)]) (pc := 151) d_md_priced_151 rfl (nI_1 k) (Nat.le_of_ble_eq_true rfl) rfl ?_
              refine qr_goto (tgt := 68) (pc := 154) d_md_priced_154 (by decide) ?_
              refine qR_sub (lv' := [(14, .int (nI (k + 1))), (12, .long ((m_pt (fun k => I 56 (4 * t + k)) (fun k => I 57 (4 * t + k)) v k).2)), (10, .long ((m_pt (fun k => I 56 (4 * t + k)) (fun k => I 57 (4 * t + k)) v k).1)), (8, .long v), (0, .ref 47), (1, .int (nI t)), (2, .long u), (4, .long fr), (6, .long le)]) [0, 2, 3, 4, 5, 6, 7, 8, 9] rfl ?_
              exact qR_st (by simp [m_pt, *]) rfl (rfl) (ih (k + 1) (by omega) (by omega))
            · skip
              rw [lgc_le] at h121
              have g121 := Int64.not_le.mp h121
              refine qr_lload (pc := 124) d_md_priced_124 rfl ?_
              refine qr_lload (pc := 126) d_md_priced_126 rfl ?_
              refine qr_lload (pc := 128) d_md_priced_128 rfl ?_
              refine qr_lsub (pc := 130) d_md_priced_130 ?_
              refine qr_aload_n (pc := 131) d_md_priced_131 rfl rfl ?_
              refine qr_get (v := .ref 57) (pc := 132) d_md_priced_132 fl_md_41 (by decide) (by decide) (c_47 _ _) rfl ?_
              refine qr_iconst (v := 4) (pc := 135) d_md_priced_135 (by decide) ?_
              refine qr_iload_n (pc := 136) d_md_priced_136 rfl rfl ?_
              refine qr_imul (pc := 137) d_md_priced_137 ?_
              refine qr_iload (pc := 138) d_md_priced_138 rfl ?_
              refine qr_iadd (pc := 140) d_md_priced_140 ?_
              refine qR_st (st' := [.int (nI (4 * t + k)), .ref 57, .long (v - ((m_pt (fun k => I 56 (4 * t + k)) (fun k => I 57 (4 * t + k)) v k).2)), .long ((m_pt (fun k => I 56 (4 * t + k)) (fun k => I 57 (4 * t + k)) v k).1)]) rfl (by rw [ix4] <;> rfl) rfl ?_
              refine qr_ialdN (j := (4 * t + k)) (pc := 141) d_md_priced_141 (by decide) (by decide) (c_57 _ _) (by omega) (by decide) ?_
              refine qr_i2l (pc := 142) d_md_priced_142 ?_
              refine qr_lmul (pc := 143) d_md_priced_143 ?_
              refine qr_ladd (pc := 144) d_md_priced_144 ?_
              refine qr_lstore (lv' := [(10, .long (((m_pt (fun k => I 56 (4 * t + k)) (fun k => I 57 (4 * t + k)) v k).1) + ((v - ((m_pt (fun k => I 56 (4 * t + k)) (fun k => I 57 (4 * t + k)) v k).2)) * (Int32.toInt64 (I 57 (4 * t + k)))))), (15, .long v), (14, .int (nI k)), (12, .long ((m_pt (fun k => I 56 (4 * t + k)) (fun k => I 57 (4 * t + k)) v k).2)), (8, .long v), (0, .ref 47), (1, .int (nI t)), (2, .long u), (4, .long fr), (6, .long le)]) (pc := 145) d_md_priced_145 (Nat.le_of_ble_eq_true rfl) rfl ?_
              refine qr_lload (pc := 147) d_md_priced_147 rfl ?_
              refine qr_lstore (lv' := [(12, .long v), (10, .long (((m_pt (fun k => I 56 (4 * t + k)) (fun k => I 57 (4 * t + k)) v k).1) + ((v - ((m_pt (fun k => I 56 (4 * t + k)) (fun k => I 57 (4 * t + k)) v k).2)) * (Int32.toInt64 (I 57 (4 * t + k)))))), (15, .long v), (14, .int (nI k)), (8, .long v), (0, .ref 47), (1, .int (nI t)), (2, .long u), (4, .long fr), (6, .long le)]) (pc := 149) d_md_priced_149 (Nat.le_of_ble_eq_true rfl) rfl ?_
              refine qr_iinc (v := nI (k + 1)) (lv' := [(14, .int (nI (k + 1))), (12, .long v), (10, .long (((m_pt (fun k => I 56 (4 * t + k)) (fun k => I 57 (4 * t + k)) v k).1) + ((v - ((m_pt (fun k => I 56 (4 * t + k)) (fun k => I 57 (4 * t + k)) v k).2)) * (Int32.toInt64 (I 57 (4 * t + k)))))), (15, .long v), (8, .long v), (0, .ref 47), (1, .int (nI t)), (2, .long u), (4, .long fr), (6, .long le)]) (pc := 151) d_md_priced_151 rfl (nI_1 k) (Nat.le_of_ble_eq_true rfl) rfl ?_
              refine qr_goto (tgt := 68) (pc := 154) d_md_priced_154 (by decide) ?_
              refine qR_sub (lv' := [(14, .int (nI (k + 1))), (12, .long v), (10, .long (((m_pt (fun k => I 56 (4 * t + k)) (fun k => I 57 (4 * t + k)) v k).1) + ((v - ((m_pt (fun k => I 56 (4 * t + k)) (fun k => I 57 (4 * t + k)) v k).2)) * (Int32.toInt64 (I 57 (4 * t + k)))))), (8, .long v), (0, .ref 47), (1, .int (nI t)), (2, .long u), (4, .long fr), (6, .long le)]) [0, 1, 2, 4, 5, 6, 7, 8, 9] rfl ?_
              exact qR_st (by simp [m_pt, *]) rfl (rfl) (ih (k + 1) (by omega) (by omega))
      exact loop68 (z + 1) 0 (by omega) (by omega)
    · skip
      have h1 : 1 ≤ I 52 t := i_pos h29
      refine qr_lload (pc := 32) d_md_priced_32 rfl ?_
      refine qr_aload_n (pc := 34) d_md_priced_34 rfl rfl ?_
      refine qr_get (v := .ref 52) (pc := 35) d_md_priced_35 fl_md_26 (by decide) (by decide) (c_47 _ _) rfl ?_
      refine qr_iload_n (pc := 38) d_md_priced_38 rfl rfl ?_
      refine qr_ialdN (j := t) (pc := 39) d_md_priced_39 (by decide) (by decide) (c_52 _ _) (by omega) (by decide) ?_
      refine qr_i2l (pc := 40) d_md_priced_40 ?_
      refine qr_ladd (pc := 41) d_md_priced_41 ?_
      refine qr_lconst (v := 1) (pc := 42) d_md_priced_42 (by decide) ?_
      refine qr_lsub (pc := 43) d_md_priced_43 ?_
      refine qr_aload_n (pc := 44) d_md_priced_44 rfl rfl ?_
      refine qr_get (v := .ref 52) (pc := 45) d_md_priced_45 fl_md_26 (by decide) (by decide) (c_47 _ _) rfl ?_
      refine qr_iload_n (pc := 48) d_md_priced_48 rfl rfl ?_
      refine qr_ialdN (j := t) (pc := 49) d_md_priced_49 (by decide) (by decide) (c_52 _ _) (by omega) (by decide) ?_
      refine qr_i2l (pc := 50) d_md_priced_50 ?_
      refine qr_ldiv (pc := 51) d_md_priced_51 (i2l_ne h1) ?_
      refine qr_aload_n (pc := 52) d_md_priced_52 rfl rfl ?_
      refine qr_get (v := .ref 53) (pc := 53) d_md_priced_53 fl_md_29 (by decide) (by decide) (c_47 _ _) rfl ?_
      refine qr_iload_n (pc := 56) d_md_priced_56 rfl rfl ?_
      refine qr_ialdN (j := t) (pc := 57) d_md_priced_57 (by decide) (by decide) (c_53 _ _) (by omega) (by decide) ?_
      refine qr_i2l (pc := 58) d_md_priced_58 ?_
      refine qr_lmul (pc := 59) d_md_priced_59 ?_
      refine qr_lstore (lv' := [(10, .long ((((v + (Int32.toInt64 (I 52 t))) - 1) / (Int32.toInt64 (I 52 t))) * (Int32.toInt64 (I 53 t)))), (12, .long 0), (8, .long v), (0, .ref 47), (1, .int (nI t)), (2, .long u), (4, .long fr), (6, .long le)]) (pc := 60) d_md_priced_60 (Nat.le_of_ble_eq_true rfl) rfl ?_
      refine qr_goto (tgt := 175) (pc := 62) d_md_priced_62 (by decide) ?_
      refine qr_lload (pc := 175) d_md_priced_175 rfl ?_
      refine qr_lload (pc := 177) d_md_priced_177 rfl ?_
      refine qr_lcmp (pc := 179) d_md_priced_179 ?_
      refine qr_if_ge (tgt := 188) (pc := 180) d_md_priced_180 (by decide) (fun h180 => ?_) (fun h180 => ?_)
      · skip
        rw [lgc_ge] at h180
        have g180 := Int64.not_lt.mpr h180
        refine qr_lload (pc := 188) d_md_priced_188 rfl ?_
        exact qr_lret (pc := 190) d_md_priced_190 rfl ⟨(by simp [m_priced, m_sum, *]), rfl, rfl⟩ (Nat.zero_le _) (Nat.zero_le _)
      · skip
        rw [lgc_ge] at h180
        have g180 := Int64.not_le.mp h180
        refine qr_lload (pc := 183) d_md_priced_183 rfl ?_
        refine qr_goto (tgt := 190) (pc := 185) d_md_priced_185 (by decide) ?_
        exact qr_lret (pc := 190) d_md_priced_190 rfl ⟨(by simp [m_priced, m_sum, *]), rfl, rfl⟩ (Nat.zero_le _) (Nat.zero_le _)
  refine qr_lload_n (pc := 0) d_md_priced_0 rfl rfl ?_
  refine qr_lload (pc := 1) d_md_priced_1 rfl ?_
  refine qr_lcmp (pc := 3) d_md_priced_3 ?_
  refine qr_if_le (tgt := 14) (pc := 4) d_md_priced_4 (by decide) (fun h4 => ?_) (fun h4 => ?_)
  · skip
    rw [lgc_le] at h4
    refine qr_lconst (v := 0) (pc := 14) d_md_priced_14 (by decide) ?_
    refine qr_lstore (lv' := [(8, .long 0), (0, .ref 47), (1, .int (nI t)), (2, .long u), (4, .long fr), (6, .long le)]) (pc := 15) d_md_priced_15 (Nat.le_of_ble_eq_true rfl) rfl ?_
    exact join17 _ (by simp [m_v, *])
  · skip
    rw [lgc_le] at h4
    refine qr_lload_n (pc := 7) d_md_priced_7 rfl rfl ?_
    refine qr_lload (pc := 8) d_md_priced_8 rfl ?_
    refine qr_lsub (pc := 10) d_md_priced_10 ?_
    refine qr_goto (tgt := 15) (pc := 11) d_md_priced_11 (by decide) ?_
    refine qr_lstore (lv' := [(8, .long (u - fr)), (0, .ref 47), (1, .int (nI t)), (2, .long u), (4, .long fr), (6, .long le)]) (pc := 15) d_md_priced_15 (Nat.le_of_ble_eq_true rfl) rfl ?_
    exact join17 _ (by simp [m_v, *])
