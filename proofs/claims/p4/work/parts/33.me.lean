def m_most (I : Nat → Nat → Int32) (L : Nat → Nat → Int64) (c : Int32) : Nat → Int32
  | 0 => 0
  | k + 1 => if I 67 k = c then (if m_most I L c k < m_over I L k then m_over I L k else m_most I L c k) else m_most I L c k
def m_st (d : Int32) : Int32 := if d = 0 then 0 else if 10 < d then (if 20 < d then 3 else 2) else 1
def m_next (I : Nat → Nat → Int32) (c : Nat) (d : Int32) : Int32 := if 0 < d ∧ m_st d < I 60 c then I 60 c else m_st d
def m_look1 (I : Nat → Nat → Int32) (c : Nat) (x : Int32) : Nat → Nat → Int32 := if x = 3 ∧ I 60 c < 3 then wI I 59 c 1 else I
def m_look2 (I : Nat → Nat → Int32) (c : Nat) (x : Int32) : Nat → Nat → Int32 := if x = 0 ∧ I 60 c = 3 then wI (m_look1 I c x) 59 c 0 else m_look1 I c x
def m_lk (I : Nat → Nat → Int32) (c : Nat) (d : Int32) : Nat → Nat → Int32 := wI (m_look2 I c (m_next I c d)) 60 c (m_next I c d)
def m_look (I : Nat → Nat → Int32) (L : Nat → Nat → Int64) (c z : Nat) : Nat → Nat → Int32 := m_lk I c (m_most I L (nI c) z)
set_option maxRecDepth 10000 in
theorem s_md_look2 (l : Launch) (x : Bool) (I : Nat → Nat → Int32) (L : Nat → Nat → Int64) (z c : Nat) (hz : I 47 29 = nI z) (hz2 : z ≤ 50) (hc : c < 5) : qSp l y_md_look2 b_md_look2 4 none x 2 0 0 [.ref 47, .int (nI c)] 77 (fm I L) (qD none 77 (fm (m_look I L c z) L)) := by
  refine qSp_of (ini := false) (by decide +kernel) (fun h => nomatch h) (Nat.le_of_ble_eq_true rfl) ?_
  show qR _ _ _ 0 [(0, .ref 47), (1, .int (nI c))] [] _ _ _ _
  have join94 : ∀ y : Int32, m_next I c (m_most I L (nI c) z) = y → qR (l, y_md_look2.cls, b_md_look2, 4, none, false, x, 2, 0, 0, 77, q0) (qD none 77 (fm (m_look I L c z) L)) (fun _ _ _ => False) 94 [(3, .int y), (0, .ref 47), (1, .int (nI c))] [] 77 0 0 (fm I L) := by
    intro y hy
    refine qr_iload_n (pc := 94) d_md_look2_94 rfl rfl ?_
    refine qr_iconst (v := 3) (pc := 95) d_md_look2_95 (by decide) ?_
    refine qr_icmp_ne (tgt := 116) (pc := 96) d_md_look2_96 (by decide) (fun h96 => ?_) (fun h96 => ?_)
    · skip
      refine qr_iload_n (pc := 116) d_md_look2_116 rfl rfl ?_
      refine qr_if_ne (tgt := 137) (pc := 117) d_md_look2_117 (by decide) (fun h117 => ?_) (fun h117 => ?_)
      · skip
        refine qr_aload_n (pc := 137) d_md_look2_137 rfl rfl ?_
        refine qr_get (v := .ref 60) (pc := 138) d_md_look2_138 fl_md_50 (by decide) (by decide) (c_47 _ _) rfl ?_
        refine qr_iload_n (pc := 141) d_md_look2_141 rfl rfl ?_
        refine qr_iload_n (pc := 142) d_md_look2_142 rfl rfl ?_
        refine qr_iastMN (j := c) (pc := 143) d_md_look2_143 (by decide) (by decide) (c_60 _ _) (by omega) (by decide) (fun w => rfl) ?_
        exact qr_vret (pc := 144) d_md_look2_144 rfl ⟨rfl, rfl, (by first | (simp [m_look, m_lk, m_look1, m_look2, *]; done) | (exfalso; have h9 := h96.symm.trans h117; exact absurd h9 (by decide)))⟩ (Nat.zero_le _) (Nat.zero_le _)
      · skip
        refine qr_aload_n (pc := 120) d_md_look2_120 rfl rfl ?_
        refine qr_get (v := .ref 60) (pc := 121) d_md_look2_121 fl_md_50 (by decide) (by decide) (c_47 _ _) rfl ?_
        refine qr_iload_n (pc := 124) d_md_look2_124 rfl rfl ?_
        refine qr_ialdN (j := c) (pc := 125) d_md_look2_125 (by decide) (by decide) (c_60 _ _) (by omega) (by decide) ?_
        refine qr_iconst (v := 3) (pc := 126) d_md_look2_126 (by decide) ?_
        refine qr_icmp_ne (tgt := 137) (pc := 127) d_md_look2_127 (by decide) (fun h127 => ?_) (fun h127 => ?_)
        · skip
          refine qr_aload_n (pc := 137) d_md_look2_137 rfl rfl ?_
          refine qr_get (v := .ref 60) (pc := 138) d_md_look2_138 fl_md_50 (by decide) (by decide) (c_47 _ _) rfl ?_
          refine qr_iload_n (pc := 141) d_md_look2_141 rfl rfl ?_
          refine qr_iload_n (pc := 142) d_md_look2_142 rfl rfl ?_
          refine qr_iastMN (j := c) (pc := 143) d_md_look2_143 (by decide) (by decide) (c_60 _ _) (by omega) (by decide) (fun w => rfl) ?_
          exact qr_vret (pc := 144) d_md_look2_144 rfl ⟨rfl, rfl, (by first | (simp [m_look, m_lk, m_look1, m_look2, *]; done) | (exfalso; have h9 := h96.symm.trans h117; exact absurd h9 (by decide)))⟩ (Nat.zero_le _) (Nat.zero_le _)
        · skip
          refine qr_aload_n (pc := 130) d_md_look2_130 rfl rfl ?_
          refine qr_get (v := .ref 59) (pc := 131) d_md_look2_131 fl_md_47 (by decide) (by decide) (c_47 _ _) rfl ?_
          refine qr_iload_n (pc := 134) d_md_look2_134 rfl rfl ?_
          refine qr_iconst (v := 0) (pc := 135) d_md_look2_135 (by decide) ?_
          refine qr_iastMN (j := c) (pc := 136) d_md_look2_136 (by decide) (by decide) (c_59 _ _) (by omega) (by decide) (fun w => rfl) ?_
          refine qr_aload_n (pc := 137) d_md_look2_137 rfl rfl ?_
          refine qr_get (v := .ref 60) (pc := 138) d_md_look2_138 fl_md_50 (by decide) (by decide) (c_47 _ _) rfl ?_
          refine qr_iload_n (pc := 141) d_md_look2_141 rfl rfl ?_
          refine qr_iload_n (pc := 142) d_md_look2_142 rfl rfl ?_
          refine qr_iastMN (j := c) (pc := 143) d_md_look2_143 (by decide) (by decide) (c_60 _ _) (by omega) (by decide) (fun w => rfl) ?_
          exact qr_vret (pc := 144) d_md_look2_144 rfl ⟨rfl, rfl, (by first | (simp [m_look, m_lk, m_look1, m_look2, *]; done) | (exfalso; have h9 := h96.symm.trans h117; exact absurd h9 (by decide)))⟩ (Nat.zero_le _) (Nat.zero_le _)
    · skip
      refine qr_aload_n (pc := 99) d_md_look2_99 rfl rfl ?_
      refine qr_get (v := .ref 60) (pc := 100) d_md_look2_100 fl_md_50 (by decide) (by decide) (c_47 _ _) rfl ?_
      refine qr_iload_n (pc := 103) d_md_look2_103 rfl rfl ?_
      refine qr_ialdN (j := c) (pc := 104) d_md_look2_104 (by decide) (by decide) (c_60 _ _) (by omega) (by decide) ?_
      refine qr_iconst (v := 3) (pc := 105) d_md_look2_105 (by decide) ?_
      refine qr_icmp_ge (tgt := 116) (pc := 106) d_md_look2_106 (by decide) (fun h106 => ?_) (fun h106 => ?_)
      · skip
        have g106 := Int32.not_lt.mpr h106
        refine qr_iload_n (pc := 116) d_md_look2_116 rfl rfl ?_
        refine qr_if_ne (tgt := 137) (pc := 117) d_md_look2_117 (by decide) (fun h117 => ?_) (fun h117 => ?_)
        · skip
          refine qr_aload_n (pc := 137) d_md_look2_137 rfl rfl ?_
          refine qr_get (v := .ref 60) (pc := 138) d_md_look2_138 fl_md_50 (by decide) (by decide) (c_47 _ _) rfl ?_
          refine qr_iload_n (pc := 141) d_md_look2_141 rfl rfl ?_
          refine qr_iload_n (pc := 142) d_md_look2_142 rfl rfl ?_
          refine qr_iastMN (j := c) (pc := 143) d_md_look2_143 (by decide) (by decide) (c_60 _ _) (by omega) (by decide) (fun w => rfl) ?_
          exact qr_vret (pc := 144) d_md_look2_144 rfl ⟨rfl, rfl, (by first | (simp [m_look, m_lk, m_look1, m_look2, *]; done) | (exfalso; have h9 := h96.symm.trans h117; exact absurd h9 (by decide)))⟩ (Nat.zero_le _) (Nat.zero_le _)
        · skip
          refine qr_aload_n (pc := 120) d_md_look2_120 rfl rfl ?_
          refine qr_get (v := .ref 60) (pc := 121) d_md_look2_121 fl_md_50 (by decide) (by decide) (c_47 _ _) rfl ?_
          refine qr_iload_n (pc := 124) d_md_look2_124 rfl rfl ?_
          refine qr_ialdN (j := c) (pc := 125) d_md_look2_125 (by decide) (by decide) (c_60 _ _) (by omega) (by decide) ?_
          refine qr_iconst (v := 3) (pc := 126) d_md_look2_126 (by decide) ?_
          refine qr_icmp_ne (tgt := 137) (pc := 127) d_md_look2_127 (by decide) (fun h127 => ?_) (fun h127 => ?_)
          · skip
            refine qr_aload_n (pc := 137) d_md_look2_137 rfl rfl ?_
            refine qr_get (v := .ref 60) (pc := 138) d_md_look2_138 fl_md_50 (by decide) (by decide) (c_47 _ _) rfl ?_
            refine qr_iload_n (pc := 141) d_md_look2_141 rfl rfl ?_
            refine qr_iload_n (pc := 142) d_md_look2_142 rfl rfl ?_
            refine qr_iastMN (j := c) (pc := 143) d_md_look2_143 (by decide) (by decide) (c_60 _ _) (by omega) (by decide) (fun w => rfl) ?_
            exact qr_vret (pc := 144) d_md_look2_144 rfl ⟨rfl, rfl, (by first | (simp [m_look, m_lk, m_look1, m_look2, *]; done) | (exfalso; have h9 := h96.symm.trans h117; exact absurd h9 (by decide)))⟩ (Nat.zero_le _) (Nat.zero_le _)
          · skip
            refine qr_aload_n (pc := 130) d_md_look2_130 rfl rfl ?_
            refine qr_get (v := .ref 59) (pc := 131) d_md_look2_131 fl_md_47 (by decide) (by decide) (c_47 _ _) rfl ?_
            refine qr_iload_n (pc := 134) d_md_look2_134 rfl rfl ?_
            refine qr_iconst (v := 0) (pc := 135) d_md_look2_135 (by decide) ?_
            refine qr_iastMN (j := c) (pc := 136) d_md_look2_136 (by decide) (by decide) (c_59 _ _) (by omega) (by decide) (fun w => rfl) ?_
            refine qr_aload_n (pc := 137) d_md_look2_137 rfl rfl ?_
            refine qr_get (v := .ref 60) (pc := 138) d_md_look2_138 fl_md_50 (by decide) (by decide) (c_47 _ _) rfl ?_
            refine qr_iload_n (pc := 141) d_md_look2_141 rfl rfl ?_
            refine qr_iload_n (pc := 142) d_md_look2_142 rfl rfl ?_
            refine qr_iastMN (j := c) (pc := 143) d_md_look2_143 (by decide) (by decide) (c_60 _ _) (by omega) (by decide) (fun w => rfl) ?_
            exact qr_vret (pc := 144) d_md_look2_144 rfl ⟨rfl, rfl, (by first | (simp [m_look, m_lk, m_look1, m_look2, *]; done) | (exfalso; have h9 := h96.symm.trans h117; exact absurd h9 (by decide)))⟩ (Nat.zero_le _) (Nat.zero_le _)
      · skip
        have g106 := Int32.not_le.mp h106
        refine qr_aload_n (pc := 109) d_md_look2_109 rfl rfl ?_
        refine qr_get (v := .ref 59) (pc := 110) d_md_look2_110 fl_md_47 (by decide) (by decide) (c_47 _ _) rfl ?_
        refine qr_iload_n (pc := 113) d_md_look2_113 rfl rfl ?_
        refine qr_iconst (v := 1) (pc := 114) d_md_look2_114 (by decide) ?_
        refine qr_iastMN (j := c) (pc := 115) d_md_look2_115 (by decide) (by decide) (c_59 _ _) (by omega) (by decide) (fun w => rfl) ?_
        refine qr_iload_n (pc := 116) d_md_look2_116 rfl rfl ?_
        refine qr_if_ne (tgt := 137) (pc := 117) d_md_look2_117 (by decide) (fun h117 => ?_) (fun h117 => ?_)
        · skip
          refine qr_aload_n (pc := 137) d_md_look2_137 rfl rfl ?_
          refine qr_get (v := .ref 60) (pc := 138) d_md_look2_138 fl_md_50 (by decide) (by decide) (c_47 _ _) rfl ?_
          refine qr_iload_n (pc := 141) d_md_look2_141 rfl rfl ?_
          refine qr_iload_n (pc := 142) d_md_look2_142 rfl rfl ?_
          refine qr_iastMN (j := c) (pc := 143) d_md_look2_143 (by decide) (by decide) (c_60 _ _) (by omega) (by decide) (fun w => rfl) ?_
          exact qr_vret (pc := 144) d_md_look2_144 rfl ⟨rfl, rfl, (by first | (simp [m_look, m_lk, m_look1, m_look2, *]; done) | (exfalso; have h9 := h96.symm.trans h117; exact absurd h9 (by decide)))⟩ (Nat.zero_le _) (Nat.zero_le _)
        · skip
          refine qr_aload_n (pc := 120) d_md_look2_120 rfl rfl ?_
          refine qr_get (v := .ref 60) (pc := 121) d_md_look2_121 fl_md_50 (by decide) (by decide) (c_47 _ _) rfl ?_
          refine qr_iload_n (pc := 124) d_md_look2_124 rfl rfl ?_
          refine qr_ialdN (j := c) (pc := 125) d_md_look2_125 (by decide) (by decide) (c_60 _ _) (by omega) (by decide) ?_
          refine qR_st (st' := [.int (I 60 c)]) rfl rfl rfl ?_
          refine qr_iconst (v := 3) (pc := 126) d_md_look2_126 (by decide) ?_
          refine qr_icmp_ne (tgt := 137) (pc := 127) d_md_look2_127 (by decide) (fun h127 => ?_) (fun h127 => ?_)
          · skip
            refine qr_aload_n (pc := 137) d_md_look2_137 rfl rfl ?_
            refine qr_get (v := .ref 60) (pc := 138) d_md_look2_138 fl_md_50 (by decide) (by decide) (c_47 _ _) rfl ?_
            refine qr_iload_n (pc := 141) d_md_look2_141 rfl rfl ?_
            refine qr_iload_n (pc := 142) d_md_look2_142 rfl rfl ?_
            refine qr_iastMN (j := c) (pc := 143) d_md_look2_143 (by decide) (by decide) (c_60 _ _) (by omega) (by decide) (fun w => rfl) ?_
            exact qr_vret (pc := 144) d_md_look2_144 rfl ⟨rfl, rfl, (by first | (simp [m_look, m_lk, m_look1, m_look2, *]; done) | (exfalso; have h9 := h96.symm.trans h117; exact absurd h9 (by decide)))⟩ (Nat.zero_le _) (Nat.zero_le _)
          · skip
            refine qr_aload_n (pc := 130) d_md_look2_130 rfl rfl ?_
            refine qr_get (v := .ref 59) (pc := 131) d_md_look2_131 fl_md_47 (by decide) (by decide) (c_47 _ _) rfl ?_
            refine qr_iload_n (pc := 134) d_md_look2_134 rfl rfl ?_
            refine qr_iconst (v := 0) (pc := 135) d_md_look2_135 (by decide) ?_
            refine qr_iastMN (j := c) (pc := 136) d_md_look2_136 (by decide) (by decide) (c_59 _ _) (by omega) (by decide) (fun w => rfl) ?_
            refine qr_aload_n (pc := 137) d_md_look2_137 rfl rfl ?_
            refine qr_get (v := .ref 60) (pc := 138) d_md_look2_138 fl_md_50 (by decide) (by decide) (c_47 _ _) rfl ?_
            refine qr_iload_n (pc := 141) d_md_look2_141 rfl rfl ?_
            refine qr_iload_n (pc := 142) d_md_look2_142 rfl rfl ?_
            refine qr_iastMN (j := c) (pc := 143) d_md_look2_143 (by decide) (by decide) (c_60 _ _) (by omega) (by decide) (fun w => rfl) ?_
            exact qr_vret (pc := 144) d_md_look2_144 rfl ⟨rfl, rfl, (by first | (simp [m_look, m_lk, m_look1, m_look2, *]; done) | (exfalso; have h9 := h96.symm.trans h117; exact absurd h9 (by decide)))⟩ (Nat.zero_le _) (Nat.zero_le _)
  have join73 : ∀ s9 d : Int32, m_most I L (nI c) z = d → m_st d = s9 → qR (l, y_md_look2.cls, b_md_look2, 4, none, false, x, 2, 0, 0, 77, q0) (qD none 77 (fm (m_look I L c z) L)) (fun _ _ _ => False) 73 [(3, .int s9), (2, .int d), (0, .ref 47), (1, .int (nI c))] [] 77 0 0 (fm I L) := by
    intro s9 d hd hs
    refine qr_iload_n (pc := 73) d_md_look2_73 rfl rfl ?_
    refine qr_if_le (tgt := 94) (pc := 74) d_md_look2_74 (by decide) (fun h74 => ?_) (fun h74 => ?_)
    · skip
      have g74 := Int32.not_lt.mpr h74
      refine qR_sub (lv' := [(3, .int s9), (0, .ref 47), (1, .int (nI c))]) [0, 2, 3] rfl ?_
      exact join94 _ (by simp [m_next, *])
    · skip
      have g74 := Int32.not_le.mp h74
      refine qr_iload_n (pc := 77) d_md_look2_77 rfl rfl ?_
      refine qr_aload_n (pc := 78) d_md_look2_78 rfl rfl ?_
      refine qr_get (v := .ref 60) (pc := 79) d_md_look2_79 fl_md_50 (by decide) (by decide) (c_47 _ _) rfl ?_
      refine qr_iload_n (pc := 82) d_md_look2_82 rfl rfl ?_
      refine qr_ialdN (j := c) (pc := 83) d_md_look2_83 (by decide) (by decide) (c_60 _ _) (by omega) (by decide) ?_
      refine qr_icmp_ge (tgt := 94) (pc := 84) d_md_look2_84 (by decide) (fun h84 => ?_) (fun h84 => ?_)
      · skip
        have g84 := Int32.not_lt.mpr h84
        refine qR_sub (lv' := [(3, .int s9), (0, .ref 47), (1, .int (nI c))]) [0, 2, 3] rfl ?_
        exact join94 _ (by simp [m_next, *])
      · skip
        have g84 := Int32.not_le.mp h84
        refine qr_aload_n (pc := 87) d_md_look2_87 rfl rfl ?_
        refine qr_get (v := .ref 60) (pc := 88) d_md_look2_88 fl_md_50 (by decide) (by decide) (c_47 _ _) rfl ?_
        refine qr_iload_n (pc := 91) d_md_look2_91 rfl rfl ?_
        refine qr_ialdN (j := c) (pc := 92) d_md_look2_92 (by decide) (by decide) (c_60 _ _) (by omega) (by decide) ?_
        refine qr_istore_n (lv' := [(3, .int (I 60 c)), (2, .int d), (0, .ref 47), (1, .int (nI c))]) (pc := 93) d_md_look2_93 rfl (Nat.le_of_ble_eq_true rfl) rfl ?_
        refine qR_sub (lv' := [(3, .int (I 60 c)), (0, .ref 47), (1, .int (nI c))]) [0, 2, 3] rfl ?_
        exact join94 _ (by simp [m_next, *])
  have join43 : ∀ d : Int32, m_most I L (nI c) z = d → qR (l, y_md_look2.cls, b_md_look2, 4, none, false, x, 2, 0, 0, 77, q0) (qD none 77 (fm (m_look I L c z) L)) (fun _ _ _ => False) 43 [(2, .int d), (0, .ref 47), (1, .int (nI c))] [] 77 0 0 (fm I L) := by
    intro d hd
    refine qr_iload_n (pc := 43) d_md_look2_43 rfl rfl ?_
    refine qr_if_ne (tgt := 51) (pc := 44) d_md_look2_44 (by decide) (fun h44 => ?_) (fun h44 => ?_)
    · skip
      refine qr_iload_n (pc := 51) d_md_look2_51 rfl rfl ?_
      refine qr_bipush (v := 10) (pc := 52) d_md_look2_52 (by decide) ?_
      refine qr_icmp_gt (tgt := 61) (pc := 54) d_md_look2_54 (by decide) (fun h54 => ?_) (fun h54 => ?_)
      · skip
        refine qr_iload_n (pc := 61) d_md_look2_61 rfl rfl ?_
        refine qr_bipush (v := 20) (pc := 62) d_md_look2_62 (by decide) ?_
        refine qr_icmp_gt (tgt := 71) (pc := 64) d_md_look2_64 (by decide) (fun h64 => ?_) (fun h64 => ?_)
        · skip
          refine qr_iconst (v := 3) (pc := 71) d_md_look2_71 (by decide) ?_
          refine qr_istore_n (lv' := [(3, .int 3), (2, .int d), (0, .ref 47), (1, .int (nI c))]) (pc := 72) d_md_look2_72 rfl (Nat.le_of_ble_eq_true rfl) rfl ?_
          exact join73 _ _ hd (by simp [m_st, *])
        · skip
          refine qr_iconst (v := 2) (pc := 67) d_md_look2_67 (by decide) ?_
          refine qr_goto (tgt := 72) (pc := 68) d_md_look2_68 (by decide) ?_
          refine qr_istore_n (lv' := [(3, .int 2), (2, .int d), (0, .ref 47), (1, .int (nI c))]) (pc := 72) d_md_look2_72 rfl (Nat.le_of_ble_eq_true rfl) rfl ?_
          exact join73 _ _ hd (by simp [m_st, *])
      · skip
        refine qr_iconst (v := 1) (pc := 57) d_md_look2_57 (by decide) ?_
        refine qr_goto (tgt := 72) (pc := 58) d_md_look2_58 (by decide) ?_
        refine qr_istore_n (lv' := [(3, .int 1), (2, .int d), (0, .ref 47), (1, .int (nI c))]) (pc := 72) d_md_look2_72 rfl (Nat.le_of_ble_eq_true rfl) rfl ?_
        exact join73 _ _ hd (by simp [m_st, *])
    · skip
      refine qr_iconst (v := 0) (pc := 47) d_md_look2_47 (by decide) ?_
      refine qr_goto (tgt := 72) (pc := 48) d_md_look2_48 (by decide) ?_
      refine qr_istore_n (lv' := [(3, .int 0), (2, .int d), (0, .ref 47), (1, .int (nI c))]) (pc := 72) d_md_look2_72 rfl (Nat.le_of_ble_eq_true rfl) rfl ?_
      exact join73 _ _ hd (by simp [m_st, *])
  refine qr_iconst (v := 0) (pc := 0) d_md_look2_0 (by decide) ?_
  refine qr_istore_n (lv' := [(2, .int 0), (0, .ref 47), (1, .int (nI c))]) (pc := 1) d_md_look2_1 rfl (Nat.le_of_ble_eq_true rfl) rfl ?_
  refine qr_iconst (v := 0) (pc := 2) d_md_look2_2 (by decide) ?_
  refine qr_istore_n (lv' := [(3, .int 0), (2, .int 0), (0, .ref 47), (1, .int (nI c))]) (pc := 3) d_md_look2_3 rfl (Nat.le_of_ble_eq_true rfl) rfl ?_
  have loop4 : ∀ (j k : Nat), z - k < j → k ≤ z → qR (l, y_md_look2.cls, b_md_look2, 4, none, false, x, 2, 0, 0, 77, q0) (qD none 77 (fm (m_look I L c z) L)) (fun _ _ _ => False) 4 [(3, .int (nI k)), (2, .int (m_most I L (nI c) k)), (0, .ref 47), (1, .int (nI c))] [] 77 0 0 (fm I L) := by
    intro j
    induction j with
    | zero => intro k hj; omega
    | succ j ih =>
    intro k hjj hk
    refine qr_iload_n (pc := 4) d_md_look2_4 rfl rfl ?_
    refine qr_aload_n (pc := 5) d_md_look2_5 rfl rfl ?_
    refine qr_get (v := .int (nI z)) (pc := 6) d_md_look2_6 fl_md_213 (by decide) (by decide) (c_47 _ _) (congrArg (fun t => some (Value.int t)) hz) ?_
    refine qr_icmp_ge (tgt := 43) (pc := 9) d_md_look2_9 (by decide) (fun h9 => ?_) (fun h9 => ?_)
    · skip
      have hkz : z = k := by
        have := (nI_leI (a := z) (b := k) (by omega) (by omega)).mp h9
        omega
      subst hkz
      refine qR_sub (lv' := [(2, .int (m_most I L (nI c) z)), (0, .ref 47), (1, .int (nI c))]) [1, 2, 3] rfl ?_
      exact join43 _ rfl
    · skip
      have hkz : k < z := by
        have := mt (nI_leI (a := z) (b := k) (by omega) (by omega)).mpr h9
        omega
      refine qr_aload_n (pc := 12) d_md_look2_12 rfl rfl ?_
      refine qr_get (v := .ref 67) (pc := 13) d_md_look2_13 fl_md_72 (by decide) (by decide) (c_47 _ _) rfl ?_
      refine qr_iload_n (pc := 16) d_md_look2_16 rfl rfl ?_
      refine qr_ialdN (j := k) (pc := 17) d_md_look2_17 (by decide) (by decide) (c_67 _ _) (by omega) (by decide) ?_
      refine qr_iload_n (pc := 18) d_md_look2_18 rfl rfl ?_
      refine qr_icmp_ne (tgt := 37) (pc := 19) d_md_look2_19 (by decide) (fun h19 => ?_) (fun h19 => ?_)
      · skip
        refine qr_iinc (v := nI (k + 1)) (lv' := [(3, .int (nI (k + 1))), (2, .int (m_most I L (nI c) k)), (0, .ref 47), (1, .int (nI c))]) (pc := 37) d_md_look2_37 rfl (nI_1 k) (Nat.le_of_ble_eq_true rfl) rfl ?_
        refine qr_goto (tgt := 4) (pc := 40) d_md_look2_40 (by decide) ?_
        exact qR_st (by simp [m_most, *]) rfl (rfl) (ih (k + 1) (by omega) (by omega))
      · skip
        refine qr_aload_n (pc := 22) d_md_look2_22 rfl rfl ?_
        refine qr_iload_n (pc := 23) d_md_look2_23 rfl rfl ?_
        refine qr_callV (q := 47) (As := [.int (nI k)]) (pc := 24) d_md_look2_24 lk_md_216 im_md_overdue se_md_overdue rfl (by decide) (by decide) (c_47 _ _) (s_md_overdue _ x I L k (by omega)) rfl rfl (Nat.le_of_ble_eq_true rfl) (Nat.le_of_ble_eq_true rfl) (Nat.le_of_ble_eq_true rfl) (Nat.zero_le _) (Nat.zero_le _) (fun h => ⟨h, rfl, Or.inl rfl⟩) (fun v n9 f9 hE24 => ?_)
        obtain ⟨rfl, rfl, rfl⟩ := hE24
        refine qr_iload_n (pc := 27) d_md_look2_27 rfl rfl ?_
        refine qr_icmp_le (tgt := 37) (pc := 28) d_md_look2_28 (by decide) (fun h28 => ?_) (fun h28 => ?_)
        · skip
          have g28 := Int32.not_lt.mpr h28
          refine qr_iinc (v := nI (k + 1)) (lv' := [(3, .int (nI (k + 1))), (2, .int (m_most I L (nI c) k)), (0, .ref 47), (1, .int (nI c))]) (pc := 37) d_md_look2_37 rfl (nI_1 k) (Nat.le_of_ble_eq_true rfl) rfl ?_
          refine qr_goto (tgt := 4) (pc := 40) d_md_look2_40 (by decide) ?_
          exact qR_st (by simp [m_most, *]) rfl (rfl) (ih (k + 1) (by omega) (by omega))
        · skip
          have g28 := Int32.not_le.mp h28
          refine qr_aload_n (pc := 31) d_md_look2_31 rfl rfl ?_
          refine qr_iload_n (pc := 32) d_md_look2_32 rfl rfl ?_
          refine qr_callV (q := 47) (As := [.int (nI k)]) (pc := 33) d_md_look2_33 lk_md_216 im_md_overdue se_md_overdue rfl (by decide) (by decide) (c_47 _ _) (s_md_overdue _ x I L k (by omega)) rfl rfl (Nat.le_of_ble_eq_true rfl) (Nat.le_of_ble_eq_true rfl) (Nat.le_of_ble_eq_true rfl) (Nat.zero_le _) (Nat.zero_le _) (fun h => ⟨h, rfl, Or.inl rfl⟩) (fun v n9 f9 hE33 => ?_)
          obtain ⟨rfl, rfl, rfl⟩ := hE33
          refine qr_istore_n (lv' := [(2, .int (m_over I L k)), (3, .int (nI k)), (0, .ref 47), (1, .int (nI c))]) (pc := 36) d_md_look2_36 rfl (Nat.le_of_ble_eq_true rfl) rfl ?_
          refine qr_iinc (v := nI (k + 1)) (lv' := [(3, .int (nI (k + 1))), (2, .int (m_over I L k)), (0, .ref 47), (1, .int (nI c))]) (pc := 37) d_md_look2_37 rfl (nI_1 k) (Nat.le_of_ble_eq_true rfl) rfl ?_
          refine qr_goto (tgt := 4) (pc := 40) d_md_look2_40 (by decide) ?_
          exact qR_st (by simp [m_most, *]) rfl (rfl) (ih (k + 1) (by omega) (by omega))
  exact loop4 (z + 1) 0 (by omega) (by omega)
