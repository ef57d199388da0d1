theorem m_open_cg {I J : Nat → Nat → Int32} {L : Nat → Nat → Int64} {c : Int32} (h : I 67 = J 67) : ∀ k, m_open I L c k = m_open J L c k
  | 0 => rfl
  | k + 1 => by simp only [m_open, h, m_open_cg h k]
def mP (I : Nat → Nat → Int32) (zp : Nat) : Prop := ∀ i, i < zp → 1 ≤ I 73 i
def m_tp (I : Nat → Nat → Int32) (L : Nat → Nat → Int64) (c w : Int32) : Nat → Int64
  | 0 => 0
  | k + 1 => if I 72 k = c then m_tp I L c w k + (if w = 6 then m_earn1 I L k else L 75 k - m_earn1 I L k) else m_tp I L c w k
def m_told (I : Nat → Nat → Int32) (L : Nat → Nat → Int64) (c : Nat) (w : Int32) (z zp : Nat) : Int64 := if 5 ≤ w then m_tp I L (nI c) w zp else if w = 0 then Int32.toInt64 (I 58 c) else if w = 1 then Int32.toInt64 (I 59 c) else if w = 2 then Int32.toInt64 (I 60 c) else if w = 3 then L 61 c else m_open I L (nI c) z
def m_b1 (I : Nat → Nat → Int32) (L : Nat → Nat → Int64) (w : Int32) (z : Nat) : Nat → Int64
  | 0 => if w = 0 then L 47 35 else 0
  | c + 1 => m_b1 I L w z c + (if w = 1 then m_open I L (nI c) z else if w = 2 then L 61 c else 0)
def m_b2 (I : Nat → Nat → Int32) (L : Nat → Nat → Int64) (w : Int32) (z : Nat) : Nat → Int64
  | 0 => m_b1 I L w z 5
  | k + 1 => m_b2 I L w z k + L 70 k
def m_b3 (I : Nat → Nat → Int32) (L : Nat → Nat → Int64) (w : Int32) (z : Nat) : Nat → Int64
  | 0 => if w = 3 then m_b2 I L w z z else m_b1 I L w z 5
  | k + 1 => m_b3 I L w z k + (if w = 3 then m_earn1 I L k else if w = 4 then L 75 k - m_earn1 I L k else 0)
set_option maxRecDepth 10000 in
theorem s_md_pause (l : Launch) (x : Bool) (I : Nat → Nat → Int32) (L : Nat → Nat → Int64) (c on : Int32) : qSp l y_md_pause b_md_pause 4 (some .boolean) x 2 0 0 [.ref 47, .int c, .int on] 77 (fm I L) (qD (some (.int (if 0 ≤ Int32.toInt64 c ∧ Int32.toInt64 c ≤ 4 then (if (I 58 c.toNatClampNeg < 0 ∨ (on = 0 ∧ I 60 c.toNatClampNeg = 3)) then 0 else if (if I 59 c.toNatClampNeg = 1 then 1 else 0) = on then 0 else 1) else 0))) 77 (fm (if 0 ≤ Int32.toInt64 c ∧ Int32.toInt64 c ≤ 4 then (if (I 58 c.toNatClampNeg < 0 ∨ (on = 0 ∧ I 60 c.toNatClampNeg = 3)) then wI I 47 0 2 else wI (wI I 47 0 0) 59 c.toNatClampNeg (if on = 0 then 0 else 1)) else wI I 47 0 1) L)) := by
  refine qSp_of (ini := false) (by decide +kernel) (fun h => nomatch h) (Nat.le_of_ble_eq_true rfl) ?_
  show qR _ _ _ 0 [(0, .ref 47), (1, .int c), (2, .int on)] [] _ _ _ _
  refine qr_aload_n (pc := 0) d_md_pause_0 rfl rfl ?_
  refine qr_iload_n (pc := 1) d_md_pause_1 rfl rfl ?_
  refine qr_i2l (pc := 2) d_md_pause_2 ?_
  refine qr_lconst (v := 0) (pc := 3) d_md_pause_3 (by decide) ?_
  refine qr_ldc2 (v := 4) (pc := 4) d_md_pause_4 kl_md_201 ?_
  refine qr_callS (As := [.long (Int32.toInt64 c), .long 0, .long 4]) (pc := 7) d_md_pause_7 lk_md_106 sm_md_in (s_md_in _ x _ _ (Int32.toInt64 c) 0 4) rfl rfl (Nat.le_of_ble_eq_true rfl) (Nat.le_of_ble_eq_true rfl) (Nat.le_of_ble_eq_true rfl) (Nat.zero_le _) (Nat.zero_le _) (fun h => ⟨h, rfl, Or.inl rfl⟩) (fun v n9 f9 hE7 => ?_)
  obtain ⟨rfl, rfl, rfl⟩ := hE7
  refine qr_if_ne (tgt := 17) (pc := 10) d_md_pause_10 (by decide) (fun h10 => ?_) (fun h10 => ?_)
  · skip
    simp only [b01, Decidable.not_not] at h10
    obtain ⟨c9, hc9, rfl⟩ := in_nI (n := 4) (by decide) h10
    have ccl : (nI c9).toNatClampNeg = c9 := nI_clamp (by omega)
    refine qr_aload_n (pc := 17) d_md_pause_17 rfl rfl ?_
    refine qr_get (v := .ref 58) (pc := 18) d_md_pause_18 fl_md_44 (by decide) (by decide) (c_47 _ _) rfl ?_
    refine qr_iload_n (pc := 21) d_md_pause_21 rfl rfl ?_
    refine qr_ialdN (j := c9) (pc := 22) d_md_pause_22 (by decide) (by decide) (c_58 _ _) (by omega) (by decide) ?_
    refine qr_if_lt (tgt := 40) (pc := 23) d_md_pause_23 (by decide) (fun h23 => ?_) (fun h23 => ?_)
    · skip
      refine qr_iconst (v := 2) (pc := 40) d_md_pause_40 (by decide) ?_
      refine qr_goto (tgt := 45) (pc := 41) d_md_pause_41 (by decide) ?_
      refine qr_putI (pc := 45) d_md_pause_45 fl_md_99 (by decide) (by decide) (c_47 _ _) (Nat.le_of_ble_eq_true rfl) (qFit_i _) (fun w => rfl) ?_
      refine qr_aload_n (pc := 48) d_md_pause_48 rfl rfl ?_
      refine qr_get (v := .int 2) (pc := 49) d_md_pause_49 fl_md_99 (by decide) (by decide) (c_47 _ _) rfl ?_
      refine qr_if_le (tgt := 57) (pc := 52) d_md_pause_52 (by decide) (fun h52 => absurd h52 (by decide)) (fun _ => ?_)
      refine qr_iconst (v := 0) (pc := 55) d_md_pause_55 (by decide) ?_
      exact qr_iret (pc := 56) d_md_pause_56 rfl rfl ⟨(by grind), rfl, (by grind)⟩ (Nat.zero_le _) (Nat.zero_le _)
    · skip
      refine qr_iload_n (pc := 26) d_md_pause_26 rfl rfl ?_
      refine qr_if_ne (tgt := 44) (pc := 27) d_md_pause_27 (by decide) (fun h27 => ?_) (fun h27 => ?_)
      · skip
        refine qr_iconst (v := 0) (pc := 44) d_md_pause_44 (by decide) ?_
        refine qr_putI (pc := 45) d_md_pause_45 fl_md_99 (by decide) (by decide) (c_47 _ _) (Nat.le_of_ble_eq_true rfl) (qFit_i _) (fun w => rfl) ?_
        refine qr_aload_n (pc := 48) d_md_pause_48 rfl rfl ?_
        refine qr_get (v := .int 0) (pc := 49) d_md_pause_49 fl_md_99 (by decide) (by decide) (c_47 _ _) rfl ?_
        refine qr_if_le (tgt := 57) (pc := 52) d_md_pause_52 (by decide) (fun _ => ?_) (fun h52 => absurd h52 (by decide))
        refine qr_aload_n (pc := 57) d_md_pause_57 rfl rfl ?_
        refine qr_get (v := .ref 59) (pc := 58) d_md_pause_58 fl_md_47 (by decide) (by decide) (c_47 _ _) rfl ?_
        refine qr_iload_n (pc := 61) d_md_pause_61 rfl rfl ?_
        refine qr_ialdN (j := c9) (pc := 62) d_md_pause_62 (by decide) (by decide) (c_59 _ _) (by omega) (by decide) ?_
        refine qR_st (st' := [.int (I 59 c9)]) rfl rfl rfl ?_
        refine qr_iconst (v := 1) (pc := 63) d_md_pause_63 (by decide) ?_
        refine qr_icmp_ne (tgt := 71) (pc := 64) d_md_pause_64 (by decide) (fun h64 => ?_) (fun h64 => ?_)
        · skip
          refine qr_iconst (v := 0) (pc := 71) d_md_pause_71 (by decide) ?_
          refine qr_iload_n (pc := 72) d_md_pause_72 rfl rfl ?_
          refine qr_icmp_eq (tgt := 80) (pc := 73) d_md_pause_73 (by decide) (fun h73 => ?_) (fun h73 => ?_)
          · skip
            refine qr_iconst (v := 0) (pc := 80) d_md_pause_80 (by decide) ?_
            refine qr_istore_n (lv' := [(3, .int 0), (0, .ref 47), (1, .int (nI c9)), (2, .int on)]) (pc := 81) d_md_pause_81 rfl (Nat.le_of_ble_eq_true rfl) rfl ?_
            refine qr_aload_n (pc := 82) d_md_pause_82 rfl rfl ?_
            refine qr_get (v := .ref 59) (pc := 83) d_md_pause_83 fl_md_47 (by decide) (by decide) (c_47 _ _) rfl ?_
            refine qr_iload_n (pc := 86) d_md_pause_86 rfl rfl ?_
            refine qr_iload_n (pc := 87) d_md_pause_87 rfl rfl ?_
            refine qr_if_eq (tgt := 95) (pc := 88) d_md_pause_88 (by decide) (fun h88 => ?_) (fun h88 => ?_)
            · skip
              refine qr_iconst (v := 0) (pc := 95) d_md_pause_95 (by decide) ?_
              refine qr_iastMN (j := c9) (pc := 96) d_md_pause_96 (by decide) (by decide) (c_59 _ _) (by omega) (by decide) (fun w => rfl) ?_
              refine qr_iload_n (pc := 97) d_md_pause_97 rfl rfl ?_
              exact qr_iret (pc := 98) d_md_pause_98 rfl rfl ⟨(by grind), rfl, (by grind)⟩ (Nat.zero_le _) (Nat.zero_le _)
            · skip
              refine qr_iconst (v := 1) (pc := 91) d_md_pause_91 (by decide) ?_
              refine qr_goto (tgt := 96) (pc := 92) d_md_pause_92 (by decide) ?_
              refine qr_iastMN (j := c9) (pc := 96) d_md_pause_96 (by decide) (by decide) (c_59 _ _) (by omega) (by decide) (fun w => rfl) ?_
              refine qr_iload_n (pc := 97) d_md_pause_97 rfl rfl ?_
              exact qr_iret (pc := 98) d_md_pause_98 rfl rfl ⟨(by grind), rfl, (by grind)⟩ (Nat.zero_le _) (Nat.zero_le _)
          · skip
            refine qr_iconst (v := 1) (pc := 76) d_md_pause_76 (by decide) ?_
            refine qr_goto (tgt := 81) (pc := 77) d_md_pause_77 (by decide) ?_
            refine qr_istore_n (lv' := [(3, .int 1), (0, .ref 47), (1, .int (nI c9)), (2, .int on)]) (pc := 81) d_md_pause_81 rfl (Nat.le_of_ble_eq_true rfl) rfl ?_
            refine qr_aload_n (pc := 82) d_md_pause_82 rfl rfl ?_
            refine qr_get (v := .ref 59) (pc := 83) d_md_pause_83 fl_md_47 (by decide) (by decide) (c_47 _ _) rfl ?_
            refine qr_iload_n (pc := 86) d_md_pause_86 rfl rfl ?_
            refine qr_iload_n (pc := 87) d_md_pause_87 rfl rfl ?_
            refine qr_if_eq (tgt := 95) (pc := 88) d_md_pause_88 (by decide) (fun h88 => ?_) (fun h88 => ?_)
            · skip
              refine qr_iconst (v := 0) (pc := 95) d_md_pause_95 (by decide) ?_
              refine qr_iastMN (j := c9) (pc := 96) d_md_pause_96 (by decide) (by decide) (c_59 _ _) (by omega) (by decide) (fun w => rfl) ?_
              refine qr_iload_n (pc := 97) d_md_pause_97 rfl rfl ?_
              exact qr_iret (pc := 98) d_md_pause_98 rfl rfl ⟨(by grind), rfl, (by grind)⟩ (Nat.zero_le _) (Nat.zero_le _)
            · skip
              refine qr_iconst (v := 1) (pc := 91) d_md_pause_91 (by decide) ?_
              refine qr_goto (tgt := 96) (pc := 92) d_md_pause_92 (by decide) ?_
              refine qr_iastMN (j := c9) (pc := 96) d_md_pause_96 (by decide) (by decide) (c_59 _ _) (by omega) (by decide) (fun w => rfl) ?_
              refine qr_iload_n (pc := 97) d_md_pause_97 rfl rfl ?_
              exact qr_iret (pc := 98) d_md_pause_98 rfl rfl ⟨(by grind), rfl, (by grind)⟩ (Nat.zero_le _) (Nat.zero_le _)
        · skip
          refine qr_iconst (v := 1) (pc := 67) d_md_pause_67 (by decide) ?_
          refine qr_goto (tgt := 72) (pc := 68) d_md_pause_68 (by decide) ?_
          refine qr_iload_n (pc := 72) d_md_pause_72 rfl rfl ?_
          refine qr_icmp_eq (tgt := 80) (pc := 73) d_md_pause_73 (by decide) (fun h73 => ?_) (fun h73 => ?_)
          · skip
            refine qr_iconst (v := 0) (pc := 80) d_md_pause_80 (by decide) ?_
            refine qr_istore_n (lv' := [(3, .int 0), (0, .ref 47), (1, .int (nI c9)), (2, .int on)]) (pc := 81) d_md_pause_81 rfl (Nat.le_of_ble_eq_true rfl) rfl ?_
            refine qr_aload_n (pc := 82) d_md_pause_82 rfl rfl ?_
            refine qr_get (v := .ref 59) (pc := 83) d_md_pause_83 fl_md_47 (by decide) (by decide) (c_47 _ _) rfl ?_
            refine qr_iload_n (pc := 86) d_md_pause_86 rfl rfl ?_
            refine qr_iload_n (pc := 87) d_md_pause_87 rfl rfl ?_
            refine qr_if_eq (tgt := 95) (pc := 88) d_md_pause_88 (by decide) (fun h88 => ?_) (fun h88 => ?_)
            · skip
              refine qr_iconst (v := 0) (pc := 95) d_md_pause_95 (by decide) ?_
              refine qr_iastMN (j := c9) (pc := 96) d_md_pause_96 (by decide) (by decide) (c_59 _ _) (by omega) (by decide) (fun w => rfl) ?_
              refine qr_iload_n (pc := 97) d_md_pause_97 rfl rfl ?_
              exact qr_iret (pc := 98) d_md_pause_98 rfl rfl ⟨(by grind), rfl, (by grind)⟩ (Nat.zero_le _) (Nat.zero_le _)
            · skip
              refine qr_iconst (v := 1) (pc := 91) d_md_pause_91 (by decide) ?_
              refine qr_goto (tgt := 96) (pc := 92) d_md_pause_92 (by decide) ?_
              refine qr_iastMN (j := c9) (pc := 96) d_md_pause_96 (by decide) (by decide) (c_59 _ _) (by omega) (by decide) (fun w => rfl) ?_
              refine qr_iload_n (pc := 97) d_md_pause_97 rfl rfl ?_
              exact qr_iret (pc := 98) d_md_pause_98 rfl rfl ⟨(by grind), rfl, (by grind)⟩ (Nat.zero_le _) (Nat.zero_le _)
          · skip
            refine qr_iconst (v := 1) (pc := 76) d_md_pause_76 (by decide) ?_
            refine qr_goto (tgt := 81) (pc := 77) d_md_pause_77 (by decide) ?_
            refine qr_istore_n (lv' := [(3, .int 1), (0, .ref 47), (1, .int (nI c9)), (2, .int on)]) (pc := 81) d_md_pause_81 rfl (Nat.le_of_ble_eq_true rfl) rfl ?_
            refine qr_aload_n (pc := 82) d_md_pause_82 rfl rfl ?_
            refine qr_get (v := .ref 59) (pc := 83) d_md_pause_83 fl_md_47 (by decide) (by decide) (c_47 _ _) rfl ?_
            refine qr_iload_n (pc := 86) d_md_pause_86 rfl rfl ?_
            refine qr_iload_n (pc := 87) d_md_pause_87 rfl rfl ?_
            refine qr_if_eq (tgt := 95) (pc := 88) d_md_pause_88 (by decide) (fun h88 => ?_) (fun h88 => ?_)
            · skip
              refine qr_iconst (v := 0) (pc := 95) d_md_pause_95 (by decide) ?_
              refine qr_iastMN (j := c9) (pc := 96) d_md_pause_96 (by decide) (by decide) (c_59 _ _) (by omega) (by decide) (fun w => rfl) ?_
              refine qr_iload_n (pc := 97) d_md_pause_97 rfl rfl ?_
              exact qr_iret (pc := 98) d_md_pause_98 rfl rfl ⟨(by grind), rfl, (by grind)⟩ (Nat.zero_le _) (Nat.zero_le _)
            · skip
              refine qr_iconst (v := 1) (pc := 91) d_md_pause_91 (by decide) ?_
              refine qr_goto (tgt := 96) (pc := 92) d_md_pause_92 (by decide) ?_
              refine qr_iastMN (j := c9) (pc := 96) d_md_pause_96 (by decide) (by decide) (c_59 _ _) (by omega) (by decide) (fun w => rfl) ?_
              refine qr_iload_n (pc := 97) d_md_pause_97 rfl rfl ?_
              exact qr_iret (pc := 98) d_md_pause_98 rfl rfl ⟨(by grind), rfl, (by grind)⟩ (Nat.zero_le _) (Nat.zero_le _)
      · skip
        refine qr_aload_n (pc := 30) d_md_pause_30 rfl rfl ?_
        refine qr_get (v := .ref 60) (pc := 31) d_md_pause_31 fl_md_50 (by decide) (by decide) (c_47 _ _) rfl ?_
        refine qr_iload_n (pc := 34) d_md_pause_34 rfl rfl ?_
        refine qr_ialdN (j := c9) (pc := 35) d_md_pause_35 (by decide) (by decide) (c_60 _ _) (by omega) (by decide) ?_
        refine qr_iconst (v := 3) (pc := 36) d_md_pause_36 (by decide) ?_
        refine qr_icmp_ne (tgt := 44) (pc := 37) d_md_pause_37 (by decide) (fun h37 => ?_) (fun h37 => ?_)
        · skip
          refine qr_iconst (v := 0) (pc := 44) d_md_pause_44 (by decide) ?_
          refine qr_putI (pc := 45) d_md_pause_45 fl_md_99 (by decide) (by decide) (c_47 _ _) (Nat.le_of_ble_eq_true rfl) (qFit_i _) (fun w => rfl) ?_
          refine qr_aload_n (pc := 48) d_md_pause_48 rfl rfl ?_
          refine qr_get (v := .int 0) (pc := 49) d_md_pause_49 fl_md_99 (by decide) (by decide) (c_47 _ _) rfl ?_
          refine qr_if_le (tgt := 57) (pc := 52) d_md_pause_52 (by decide) (fun _ => ?_) (fun h52 => absurd h52 (by decide))
          refine qr_aload_n (pc := 57) d_md_pause_57 rfl rfl ?_
          refine qr_get (v := .ref 59) (pc := 58) d_md_pause_58 fl_md_47 (by decide) (by decide) (c_47 _ _) rfl ?_
          refine qr_iload_n (pc := 61) d_md_pause_61 rfl rfl ?_
          refine qr_ialdN (j := c9) (pc := 62) d_md_pause_62 (by decide) (by decide) (c_59 _ _) (by omega) (by decide) ?_
          refine qR_st (st' := [.int (I 59 c9)]) rfl rfl rfl ?_
          refine qr_iconst (v := 1) (pc := 63) d_md_pause_63 (by decide) ?_
          refine qr_icmp_ne (tgt := 71) (pc := 64) d_md_pause_64 (by decide) (fun h64 => ?_) (fun h64 => ?_)
          · skip
            refine qr_iconst (v := 0) (pc := 71) d_md_pause_71 (by decide) ?_
            refine qr_iload_n (pc := 72) d_md_pause_72 rfl rfl ?_
            refine qr_icmp_eq (tgt := 80) (pc := 73) d_md_pause_73 (by decide) (fun h73 => ?_) (fun h73 => ?_)
            · skip
              refine qr_iconst (v := 0) (pc := 80) d_md_pause_80 (by decide) ?_
              refine qr_istore_n (lv' := [(3, .int 0), (0, .ref 47), (1, .int (nI c9)), (2, .int on)]) (pc := 81) d_md_pause_81 rfl (Nat.le_of_ble_eq_true rfl) rfl ?_
              refine qr_aload_n (pc := 82) d_md_pause_82 rfl rfl ?_
              refine qr_get (v := .ref 59) (pc := 83) d_md_pause_83 fl_md_47 (by decide) (by decide) (c_47 _ _) rfl ?_
              refine qr_iload_n (pc := 86) d_md_pause_86 rfl rfl ?_
              refine qr_iload_n (pc := 87) d_md_pause_87 rfl rfl ?_
              refine qr_if_eq (tgt := 95) (pc := 88) d_md_pause_88 (by decide) (fun h88 => ?_) (fun h88 => ?_)
              · skip
                refine qr_iconst (v := 0) (pc := 95) d_md_pause_95 (by decide) ?_
                refine qr_iastMN (j := c9) (pc := 96) d_md_pause_96 (by decide) (by decide) (c_59 _ _) (by omega) (by decide) (fun w => rfl) ?_
                refine qr_iload_n (pc := 97) d_md_pause_97 rfl rfl ?_
                exact qr_iret (pc := 98) d_md_pause_98 rfl rfl ⟨(by grind), rfl, (by grind)⟩ (Nat.zero_le _) (Nat.zero_le _)
              · skip
                refine qr_iconst (v := 1) (pc := 91) d_md_pause_91 (by decide) ?_
                refine qr_goto (tgt := 96) (pc := 92) d_md_pause_92 (by decide) ?_
                refine qr_iastMN (j := c9) (pc := 96) d_md_pause_96 (by decide) (by decide) (c_59 _ _) (by omega) (by decide) (fun w => rfl) ?_
                refine qr_iload_n (pc := 97) d_md_pause_97 rfl rfl ?_
                exact qr_iret (pc := 98) d_md_pause_98 rfl rfl ⟨(by grind), rfl, (by grind)⟩ (Nat.zero_le _) (Nat.zero_le _)
            · skip
              refine qr_iconst (v := 1) (pc := 76) d_md_pause_76 (by decide) ?_
              refine qr_goto (tgt := 81) (pc := 77) d_md_pause_77 (by decide) ?_
              refine qr_istore_n (lv' := [(3, .int 1), (0, .ref 47), (1, .int (nI c9)), (2, .int on)]) (pc := 81) d_md_pause_81 rfl (Nat.le_of_ble_eq_true rfl) rfl ?_
              refine qr_aload_n (pc := 82) d_md_pause_82 rfl rfl ?_
              refine qr_get (v := .ref 59) (pc := 83) d_md_pause_83 fl_md_47 (by decide) (by decide) (c_47 _ _) rfl ?_
              refine qr_iload_n (pc := 86) d_md_pause_86 rfl rfl ?_
              refine qr_iload_n (pc := 87) d_md_pause_87 rfl rfl ?_
              refine qr_if_eq (tgt := 95) (pc := 88) d_md_pause_88 (by decide) (fun h88 => ?_) (fun h88 => ?_)
              · skip
                refine qr_iconst (v := 0) (pc := 95) d_md_pause_95 (by decide) ?_
                refine qr_iastMN (j := c9) (pc := 96) d_md_pause_96 (by decide) (by decide) (c_59 _ _) (by omega) (by decide) (fun w => rfl) ?_
                refine qr_iload_n (pc := 97) d_md_pause_97 rfl rfl ?_
                exact qr_iret (pc := 98) d_md_pause_98 rfl rfl ⟨(by grind), rfl, (by grind)⟩ (Nat.zero_le _) (Nat.zero_le _)
              · skip
                refine qr_iconst (v := 1) (pc := 91) d_md_pause_91 (by decide) ?_
                refine qr_goto (tgt := 96) (pc := 92) d_md_pause_92 (by decide) ?_
                refine qr_iastMN (j := c9) (pc := 96) d_md_pause_96 (by decide) (by decide) (c_59 _ _) (by omega) (by decide) (fun w => rfl) ?_
                refine qr_iload_n (pc := 97) d_md_pause_97 rfl rfl ?_
                exact qr_iret (pc := 98) d_md_pause_98 rfl rfl ⟨(by grind), rfl, (by grind)⟩ (Nat.zero_le _) (Nat.zero_le _)
          · skip
            refine qr_iconst (v := 1) (pc := 67) d_md_pause_67 (by decide) ?_
            refine qr_goto (tgt := 72) (pc := 68) d_md_pause_68 (by decide) ?_
            refine qr_iload_n (pc := 72) d_md_pause_72 rfl rfl ?_
            refine qr_icmp_eq (tgt := 80) (pc := 73) d_md_pause_73 (by decide) (fun h73 => ?_) (fun h73 => ?_)
            · skip
              refine qr_iconst (v := 0) (pc := 80) d_md_pause_80 (by decide) ?_
              refine qr_istore_n (lv' := [(3, .int 0), (0, .ref 47), (1, .int (nI c9)), (2, .int on)]) (pc := 81) d_md_pause_81 rfl (Nat.le_of_ble_eq_true rfl) rfl ?_
              refine qr_aload_n (pc := 82) d_md_pause_82 rfl rfl ?_
              refine qr_get (v := .ref 59) (pc := 83) d_md_pause_83 fl_md_47 (by decide) (by decide) (c_47 _ _) rfl ?_
              refine qr_iload_n (pc := 86) d_md_pause_86 rfl rfl ?_
              refine qr_iload_n (pc := 87) d_md_pause_87 rfl rfl ?_
              refine qr_if_eq (tgt := 95) (pc := 88) d_md_pause_88 (by decide) (fun h88 => ?_) (fun h88 => ?_)
              · skip
                refine qr_iconst (v := 0) (pc := 95) d_md_pause_95 (by decide) ?_
                refine qr_iastMN (j := c9) (pc := 96) d_md_pause_96 (by decide) (by decide) (c_59 _ _) (by omega) (by decide) (fun w => rfl) ?_
                refine qr_iload_n (pc := 97) d_md_pause_97 rfl rfl ?_
                exact qr_iret (pc := 98) d_md_pause_98 rfl rfl ⟨(by grind), rfl, (by grind)⟩ (Nat.zero_le _) (Nat.zero_le _)
              · skip
                refine qr_iconst (v := 1) (pc := 91) d_md_pause_91 (by decide) ?_
                refine qr_goto (tgt := 96) (pc := 92) d_md_pause_92 (by decide) ?_
                refine qr_iastMN (j := c9) (pc := 96) d_md_pause_96 (by decide) (by decide) (c_59 _ _) (by omega) (by decide) (fun w => rfl) ?_
                refine qr_iload_n (pc := 97) d_md_pause_97 rfl rfl ?_
                exact qr_iret (pc := 98) d_md_pause_98 rfl rfl ⟨(by grind), rfl, (by grind)⟩ (Nat.zero_le _) (Nat.zero_le _)
            · skip
              refine qr_iconst (v := 1) (pc := 76) d_md_pause_76 (by decide) ?_
              refine qr_goto (tgt := 81) (pc := 77) d_md_pause_77 (by decide) ?_
              refine qr_istore_n (lv' := [(3, .int 1), (0, .ref 47), (1, .int (nI c9)), (2, .int on)]) (pc := 81) d_md_pause_81 rfl (Nat.le_of_ble_eq_true rfl) rfl ?_
              refine qr_aload_n (pc := 82) d_md_pause_82 rfl rfl ?_
              refine qr_get (v := .ref 59) (pc := 83) d_md_pause_83 fl_md_47 (by decide) (by decide) (c_47 _ _) rfl ?_
              refine qr_iload_n (pc := 86) d_md_pause_86 rfl rfl ?_
              refine qr_iload_n (pc := 87) d_md_pause_87 rfl rfl ?_
              refine qr_if_eq (tgt := 95) (pc := 88) d_md_pause_88 (by decide) (fun h88 => ?_) (fun h88 => ?_)
              · skip
                refine qr_iconst (v := 0) (pc := 95) d_md_pause_95 (by decide) ?_
                refine qr_iastMN (j := c9) (pc := 96) d_md_pause_96 (by decide) (by decide) (c_59 _ _) (by omega) (by decide) (fun w => rfl) ?_
                refine qr_iload_n (pc := 97) d_md_pause_97 rfl rfl ?_
                exact qr_iret (pc := 98) d_md_pause_98 rfl rfl ⟨(by grind), rfl, (by grind)⟩ (Nat.zero_le _) (Nat.zero_le _)
              · skip
                refine qr_iconst (v := 1) (pc := 91) d_md_pause_91 (by decide) ?_
                refine qr_goto (tgt := 96) (pc := 92) d_md_pause_92 (by decide) ?_
                refine qr_iastMN (j := c9) (pc := 96) d_md_pause_96 (by decide) (by decide) (c_59 _ _) (by omega) (by decide) (fun w => rfl) ?_
                refine qr_iload_n (pc := 97) d_md_pause_97 rfl rfl ?_
                exact qr_iret (pc := 98) d_md_pause_98 rfl rfl ⟨(by grind), rfl, (by grind)⟩ (Nat.zero_le _) (Nat.zero_le _)
        · skip
          refine qr_iconst (v := 2) (pc := 40) d_md_pause_40 (by decide) ?_
          refine qr_goto (tgt := 45) (pc := 41) d_md_pause_41 (by decide) ?_
          refine qr_putI (pc := 45) d_md_pause_45 fl_md_99 (by decide) (by decide) (c_47 _ _) (Nat.le_of_ble_eq_true rfl) (qFit_i _) (fun w => rfl) ?_
          refine qr_aload_n (pc := 48) d_md_pause_48 rfl rfl ?_
          refine qr_get (v := .int 2) (pc := 49) d_md_pause_49 fl_md_99 (by decide) (by decide) (c_47 _ _) rfl ?_
          refine qr_if_le (tgt := 57) (pc := 52) d_md_pause_52 (by decide) (fun h52 => absurd h52 (by decide)) (fun _ => ?_)
          refine qr_iconst (v := 0) (pc := 55) d_md_pause_55 (by decide) ?_
          exact qr_iret (pc := 56) d_md_pause_56 rfl rfl ⟨(by grind), rfl, (by grind)⟩ (Nat.zero_le _) (Nat.zero_le _)
  · skip
    simp only [b01, Decidable.not_not] at h10
    refine qr_iconst (v := 1) (pc := 13) d_md_pause_13 (by decide) ?_
    refine qr_goto (tgt := 45) (pc := 14) d_md_pause_14 (by decide) ?_
    refine qr_putI (pc := 45) d_md_pause_45 fl_md_99 (by decide) (by decide) (c_47 _ _) (Nat.le_of_ble_eq_true rfl) (qFit_i _) (fun w => rfl) ?_
    refine qr_aload_n (pc := 48) d_md_pause_48 rfl rfl ?_
    refine qr_get (v := .int 1) (pc := 49) d_md_pause_49 fl_md_99 (by decide) (by decide) (c_47 _ _) rfl ?_
    refine qr_if_le (tgt := 57) (pc := 52) d_md_pause_52 (by decide) (fun h52 => absurd h52 (by decide)) (fun _ => ?_)
    refine qr_iconst (v := 0) (pc := 55) d_md_pause_55 (by decide) ?_
    exact qr_iret (pc := 56) d_md_pause_56 rfl rfl ⟨(by grind), rfl, (by grind)⟩ (Nat.zero_le _) (Nat.zero_le _)
set_option maxRecDepth 10000 in
theorem s_md_told (l : Launch) (x : Bool) (I : Nat → Nat → Int32) (L : Nat → Nat → Int64) (z zp : Nat) (hz : I 47 29 = nI z) (hz2 : z ≤ 50) (hzp : I 47 34 = nI zp) (hzp2 : zp ≤ 10) (hmp : mP I zp) (c w : Int32) : qSp l y_md_told b_md_told 6 (some .long) x 2 0 0 [.ref 47, .int c, .int w] 77 (fm I L) (qD (some (.long (if ((0 ≤ Int32.toInt64 c ∧ Int32.toInt64 c ≤ 4) ∧ (0 ≤ Int32.toInt64 w ∧ Int32.toInt64 w ≤ 6)) then m_told I L c.toNatClampNeg w z zp else 0))) 77 (fm (wI I 47 0 (if ((0 ≤ Int32.toInt64 c ∧ Int32.toInt64 c ≤ 4) ∧ (0 ≤ Int32.toInt64 w ∧ Int32.toInt64 w ≤ 6)) then 0 else 1)) L)) := by
  refine qSp_of (ini := false) (by decide +kernel) (fun h => nomatch h) (Nat.le_of_ble_eq_true rfl) ?_
  show qR _ _ _ 0 [(0, .ref 47), (1, .int c), (2, .int w)] [] _ _ _ _
  refine qr_iload_n (pc := 0) d_md_told_0 rfl rfl ?_
  refine qr_i2l (pc := 1) d_md_told_1 ?_
  refine qr_lconst (v := 0) (pc := 2) d_md_told_2 (by decide) ?_
  refine qr_ldc2 (v := 4) (pc := 3) d_md_told_3 kl_md_201 ?_
  refine qr_callS (As := [.long (Int32.toInt64 c), .long 0, .long 4]) (pc := 6) d_md_told_6 lk_md_106 sm_md_in (s_md_in _ x _ _ (Int32.toInt64 c) 0 4) rfl rfl (Nat.le_of_ble_eq_true rfl) (Nat.le_of_ble_eq_true rfl) (Nat.le_of_ble_eq_true rfl) (Nat.zero_le _) (Nat.zero_le _) (fun h => ⟨h, rfl, Or.inl rfl⟩) (fun v n9 f9 hE6 => ?_)
  obtain ⟨rfl, rfl, rfl⟩ := hE6
  refine qr_if_eq (tgt := 24) (pc := 9) d_md_told_9 (by decide) (fun h9 => ?_) (fun h9 => ?_)
  · skip
    simp only [b01, Decidable.not_not] at h9
    refine qr_aload_n (pc := 24) d_md_told_24 rfl rfl ?_
    refine qr_iconst (v := 1) (pc := 25) d_md_told_25 (by decide) ?_
    refine qr_callV (q := 47) (As := [.int 1]) (pc := 26) d_md_told_26 lk_md_110 im_md_refuse se_md_refuse rfl (by decide) (by decide) (c_47 _ _) (s_md_refuse _ x I L 1) rfl rfl (Nat.le_of_ble_eq_true rfl) (Nat.le_of_ble_eq_true rfl) (Nat.le_of_ble_eq_true rfl) (Nat.zero_le _) (Nat.zero_le _) (fun h => ⟨h, rfl, Or.inl rfl⟩) (fun v n9 f9 hE26 => ?_)
    obtain ⟨rfl, rfl, rfl⟩ := hE26
    refine qr_i2l (pc := 29) d_md_told_29 ?_
    exact qr_lret (pc := 30) d_md_told_30 rfl ⟨(by simp [i2l0, *]), rfl, (by simp [*])⟩ (Nat.zero_le _) (Nat.zero_le _)
  · skip
    simp only [b01, Decidable.not_not] at h9
    refine qr_iload_n (pc := 12) d_md_told_12 rfl rfl ?_
    refine qr_i2l (pc := 13) d_md_told_13 ?_
    refine qr_lconst (v := 0) (pc := 14) d_md_told_14 (by decide) ?_
    refine qr_ldc2 (v := 6) (pc := 15) d_md_told_15 kl_md_236 ?_
    refine qr_callS (As := [.long (Int32.toInt64 w), .long 0, .long 6]) (pc := 18) d_md_told_18 lk_md_106 sm_md_in (s_md_in _ x _ _ (Int32.toInt64 w) 0 6) rfl rfl (Nat.le_of_ble_eq_true rfl) (Nat.le_of_ble_eq_true rfl) (Nat.le_of_ble_eq_true rfl) (Nat.zero_le _) (Nat.zero_le _) (fun h => ⟨h, rfl, Or.inl rfl⟩) (fun v n9 f9 hE18 => ?_)
    obtain ⟨rfl, rfl, rfl⟩ := hE18
    refine qr_if_ne (tgt := 31) (pc := 21) d_md_told_21 (by decide) (fun h21 => ?_) (fun h21 => ?_)
    · skip
      simp only [b01, Decidable.not_not] at h21
      obtain ⟨c9, hc9, rfl⟩ := in_nI (n := 4) (by decide) h9
      have ccl : (nI c9).toNatClampNeg = c9 := nI_clamp (by omega)
      refine qr_aload_n (pc := 31) d_md_told_31 rfl rfl ?_
      refine qr_iconst (v := 0) (pc := 32) d_md_told_32 (by decide) ?_
      refine qr_putI (pc := 33) d_md_told_33 fl_md_99 (by decide) (by decide) (c_47 _ _) (Nat.le_of_ble_eq_true rfl) (qFit_i _) (fun w => rfl) ?_
      refine qr_iload_n (pc := 36) d_md_told_36 rfl rfl ?_
      refine qr_iconst (v := 5) (pc := 37) d_md_told_37 (by decide) ?_
      refine qr_icmp_ge (tgt := 105) (pc := 38) d_md_told_38 (by decide) (fun h38 => ?_) (fun h38 => ?_)
      · skip
        refine qr_lconst (v := 0) (pc := 105) d_md_told_105 (by decide) ?_
        refine qr_lstore_n (lv' := [(3, .long 0), (0, .ref 47), (1, .int (nI c9)), (2, .int w)]) (pc := 106) d_md_told_106 rfl (Nat.le_of_ble_eq_true rfl) rfl ?_
        refine qr_iconst (v := 0) (pc := 107) d_md_told_107 (by decide) ?_
        refine qr_istore (lv' := [(5, .int 0), (3, .long 0), (0, .ref 47), (1, .int (nI c9)), (2, .int w)]) (pc := 108) d_md_told_108 (Nat.le_of_ble_eq_true rfl) rfl ?_
        have loop110 : ∀ (j k : Nat), zp - k < j → k ≤ zp → qR (l, y_md_told.cls, b_md_told, 6, (some .long), false, x, 2, 0, 0, 77, q0) (qD (some (.long (if ((0 ≤ Int32.toInt64 (nI c9) ∧ Int32.toInt64 (nI c9) ≤ 4) ∧ (0 ≤ Int32.toInt64 w ∧ Int32.toInt64 w ≤ 6)) then m_told I L (nI c9).toNatClampNeg w z zp else 0))) 77 (fm (wI I 47 0 (if ((0 ≤ Int32.toInt64 (nI c9) ∧ Int32.toInt64 (nI c9) ≤ 4) ∧ (0 ≤ Int32.toInt64 w ∧ Int32.toInt64 w ≤ 6)) then 0 else 1)) L)) (fun _ _ _ => False) 110 [(5, .int (nI k)), (3, .long (m_tp I L (nI c9) w k)), (0, .ref 47), (1, .int (nI c9)), (2, .int w)] [] 77 0 0 (fm (wI I 47 0 0) L) := by
          intro j
          induction j with
          | zero => intro k hj; omega
          | succ j ih =>
          intro k hjj hk
          refine qr_iload (pc := 110) d_md_told_110 rfl ?_
          refine qr_aload_n (pc := 112) d_md_told_112 rfl rfl ?_
          refine qr_get (v := .int (nI zp)) (pc := 113) d_md_told_113 fl_md_233 (by decide) (by decide) (c_47 _ _) (congrArg (fun t => some (Value.int t)) hzp) ?_
          refine qr_icmp_ge (tgt := 168) (pc := 116) d_md_told_116 (by decide) (fun h116 => ?_) (fun h116 => ?_)
          · skip
            have hkz : zp = k := by
              have := (nI_leI (a := zp) (b := k) (by omega) (by omega)).mp h116
              omega
            subst hkz
            refine qr_lload_n (pc := 168) d_md_told_168 rfl rfl ?_
            exact qr_lret (pc := 169) d_md_told_169 rfl ⟨(by rw [if_pos ⟨h9, h21⟩]; simp [m_told, m_open_cg (I := wI I 47 0 0) (J := I) rfl, *]), rfl, (by simp [*])⟩ (Nat.zero_le _) (Nat.zero_le _)
          · skip
            have hkz : k < zp := by
              have := mt (nI_leI (a := zp) (b := k) (by omega) (by omega)).mpr h116
              omega
            refine qr_aload_n (pc := 119) d_md_told_119 rfl rfl ?_
            refine qr_get (v := .ref 72) (pc := 120) d_md_told_120 fl_md_87 (by decide) (by decide) (c_47 _ _) rfl ?_
            refine qr_iload (pc := 123) d_md_told_123 rfl ?_
            refine qr_ialdN (j := k) (pc := 125) d_md_told_125 (by decide) (by decide) (c_72 _ _) (by omega) (by decide) ?_
            refine qR_st (st' := [.int (I 72 k)]) rfl rfl rfl ?_
            refine qr_iload_n (pc := 126) d_md_told_126 rfl rfl ?_
            refine qr_icmp_ne (tgt := 162) (pc := 127) d_md_told_127 (by decide) (fun h127 => ?_) (fun h127 => ?_)
            · skip
              refine qr_iinc (v := nI (k + 1)) (lv' := [(5, .int (nI (k + 1))), (3, .long (m_tp I L (nI c9) w k)), (0, .ref 47), (1, .int (nI c9)), (2, .int w)]) (pc := 162) d_md_told_162 rfl (nI_1 k) (Nat.le_of_ble_eq_true rfl) rfl ?_
              refine qr_goto (tgt := 110) (pc := 165) d_md_told_165 (by decide) ?_
              exact qR_st (by simp [m_tp, *]) rfl (rfl) (ih (k + 1) (by omega) (by omega))
            · skip
              refine qr_lload_n (pc := 130) d_md_told_130 rfl rfl ?_
              refine qr_iload_n (pc := 131) d_md_told_131 rfl rfl ?_
              refine qr_bipush (v := 6) (pc := 132) d_md_told_132 (by decide) ?_
              refine qr_icmp_ne (tgt := 146) (pc := 134) d_md_told_134 (by decide) (fun h134 => ?_) (fun h134 => ?_)
              · skip
                refine qr_aload_n (pc := 146) d_md_told_146 rfl rfl ?_
                refine qr_get (v := .ref 75) (pc := 147) d_md_told_147 fl_md_96 (by decide) (by decide) (c_47 _ _) rfl ?_
                refine qr_iload (pc := 150) d_md_told_150 rfl ?_
                refine qr_laldN (j := k) (pc := 152) d_md_told_152 (by decide) (by decide) (c_75 _ _) (by omega) (by decide) ?_
                refine qr_aload_n (pc := 153) d_md_told_153 rfl rfl ?_
                refine qr_iload (pc := 154) d_md_told_154 rfl ?_
                refine qr_callV (q := 47) (As := [.int (nI k)]) (pc := 156) d_md_told_156 lk_md_242 im_md_earned se_md_earned rfl (by decide) (by decide) (c_47 _ _) (s_md_earned _ x (wI I 47 0 0) L k (by omega) (hmp k (by omega))) rfl rfl (Nat.le_of_ble_eq_true rfl) (Nat.le_of_ble_eq_true rfl) (Nat.le_of_ble_eq_true rfl) (Nat.zero_le _) (Nat.zero_le _) (fun h => ⟨h, rfl, Or.inl rfl⟩) (fun v n9 f9 hE156 => ?_)
                obtain ⟨rfl, rfl, rfl⟩ := hE156
                refine qr_lsub (pc := 159) d_md_told_159 ?_
                refine qr_ladd (pc := 160) d_md_told_160 ?_
                refine qr_lstore_n (lv' := [(3, .long ((m_tp I L (nI c9) w k) + ((L 75 k) - (m_earn1 I L k)))), (5, .int (nI k)), (0, .ref 47), (1, .int (nI c9)), (2, .int w)]) (pc := 161) d_md_told_161 rfl (Nat.le_of_ble_eq_true rfl) rfl ?_
                refine qr_iinc (v := nI (k + 1)) (lv' := [(5, .int (nI (k + 1))), (3, .long ((m_tp I L (nI c9) w k) + ((L 75 k) - (m_earn1 I L k)))), (0, .ref 47), (1, .int (nI c9)), (2, .int w)]) (pc := 162) d_md_told_162 rfl (nI_1 k) (Nat.le_of_ble_eq_true rfl) rfl ?_
                refine qr_goto (tgt := 110) (pc := 165) d_md_told_165 (by decide) ?_
                exact qR_st (by simp [m_tp, *]) rfl (rfl) (ih (k + 1) (by omega) (by omega))
              · skip
                refine qr_aload_n (pc := 137) d_md_told_137 rfl rfl ?_
                refine qr_iload (pc := 138) d_md_told_138 rfl ?_
                refine qr_callV (q := 47) (As := [.int (nI k)]) (pc := 140) d_md_told_140 lk_md_242 im_md_earned se_md_earned rfl (by decide) (by decide) (c_47 _ _) (s_md_earned _ x (wI I 47 0 0) L k (by omega) (hmp k (by omega))) rfl rfl (Nat.le_of_ble_eq_true rfl) (Nat.le_of_ble_eq_true rfl) (Nat.le_of_ble_eq_true rfl) (Nat.zero_le _) (Nat.zero_le _) (fun h => ⟨h, rfl, Or.inl rfl⟩) (fun v n9 f9 hE140 => ?_)
                obtain ⟨rfl, rfl, rfl⟩ := hE140
                refine qr_goto (tgt := 160) (pc := 143) d_md_told_143 (by decide) ?_
                refine qr_ladd (pc := 160) d_md_told_160 ?_
                refine qr_lstore_n (lv' := [(3, .long ((m_tp I L (nI c9) w k) + (m_earn1 I L k))), (5, .int (nI k)), (0, .ref 47), (1, .int (nI c9)), (2, .int w)]) (pc := 161) d_md_told_161 rfl (Nat.le_of_ble_eq_true rfl) rfl ?_
                refine qr_iinc (v := nI (k + 1)) (lv' := [(5, .int (nI (k + 1))), (3, .long ((m_tp I L (nI c9) w k) + (m_earn1 I L k))), (0, .ref 47), (1, .int (nI c9)), (2, .int w)]) (pc := 162) d_md_told_162 rfl (nI_1 k) (Nat.le_of_ble_eq_true rfl) rfl ?_
                refine qr_goto (tgt := 110) (pc := 165) d_md_told_165 (by decide) ?_
                exact qR_st (by simp [m_tp, *]) rfl (rfl) (ih (k + 1) (by omega) (by omega))
        exact loop110 (zp + 1) 0 (by omega) (by omega)
      · skip
        refine qr_iload_n (pc := 41) d_md_told_41 rfl rfl ?_
        refine qr_if_ne (tgt := 55) (pc := 42) d_md_told_42 (by decide) (fun h42 => ?_) (fun h42 => ?_)
        · skip
          refine qr_iload_n (pc := 55) d_md_told_55 rfl rfl ?_
          refine qr_iconst (v := 1) (pc := 56) d_md_told_56 (by decide) ?_
          refine qr_icmp_ne (tgt := 70) (pc := 57) d_md_told_57 (by decide) (fun h57 => ?_) (fun h57 => ?_)
          · skip
            refine qr_iload_n (pc := 70) d_md_told_70 rfl rfl ?_
            refine qr_iconst (v := 2) (pc := 71) d_md_told_71 (by decide) ?_
            refine qr_icmp_ne (tgt := 85) (pc := 72) d_md_told_72 (by decide) (fun h72 => ?_) (fun h72 => ?_)
            · skip
              refine qr_iload_n (pc := 85) d_md_told_85 rfl rfl ?_
              refine qr_iconst (v := 3) (pc := 86) d_md_told_86 (by decide) ?_
              refine qr_icmp_ne (tgt := 99) (pc := 87) d_md_told_87 (by decide) (fun h87 => ?_) (fun h87 => ?_)
              · skip
                refine qr_aload_n (pc := 99) d_md_told_99 rfl rfl ?_
                refine qr_iload_n (pc := 100) d_md_told_100 rfl rfl ?_
                refine qr_callV (q := 47) (As := [.int (nI c9)]) (pc := 101) d_md_told_101 lk_md_238 im_md_open se_md_open rfl (by decide) (by decide) (c_47 _ _) (s_md_open _ x (wI I 47 0 0) L z hz hz2 (nI c9)) rfl rfl (Nat.le_of_ble_eq_true rfl) (Nat.le_of_ble_eq_true rfl) (Nat.le_of_ble_eq_true rfl) (Nat.zero_le _) (Nat.zero_le _) (fun h => ⟨h, rfl, Or.inl rfl⟩) (fun v n9 f9 hE101 => ?_)
                obtain ⟨rfl, rfl, rfl⟩ := hE101
                exact qr_lret (pc := 104) d_md_told_104 rfl ⟨(by rw [if_pos ⟨h9, h21⟩]; simp [m_told, m_open_cg (I := wI I 47 0 0) (J := I) rfl, *]), rfl, (by simp [*])⟩ (Nat.zero_le _) (Nat.zero_le _)
              · skip
                refine qr_aload_n (pc := 90) d_md_told_90 rfl rfl ?_
                refine qr_get (v := .ref 61) (pc := 91) d_md_told_91 fl_md_53 (by decide) (by decide) (c_47 _ _) rfl ?_
                refine qr_iload_n (pc := 94) d_md_told_94 rfl rfl ?_
                refine qr_laldN (j := c9) (pc := 95) d_md_told_95 (by decide) (by decide) (c_61 _ _) (by omega) (by decide) ?_
                refine qr_goto (tgt := 104) (pc := 96) d_md_told_96 (by decide) ?_
                exact qr_lret (pc := 104) d_md_told_104 rfl ⟨(by rw [if_pos ⟨h9, h21⟩]; simp [m_told, m_open_cg (I := wI I 47 0 0) (J := I) rfl, *]), rfl, (by simp [*])⟩ (Nat.zero_le _) (Nat.zero_le _)
            · skip
              refine qr_aload_n (pc := 75) d_md_told_75 rfl rfl ?_
              refine qr_get (v := .ref 60) (pc := 76) d_md_told_76 fl_md_50 (by decide) (by decide) (c_47 _ _) rfl ?_
              refine qr_iload_n (pc := 79) d_md_told_79 rfl rfl ?_
              refine qr_ialdN (j := c9) (pc := 80) d_md_told_80 (by decide) (by decide) (c_60 _ _) (by omega) (by decide) ?_
              refine qR_st (st' := [.int (I 60 c9)]) rfl rfl rfl ?_
              refine qr_i2l (pc := 81) d_md_told_81 ?_
              refine qr_goto (tgt := 104) (pc := 82) d_md_told_82 (by decide) ?_
              exact qr_lret (pc := 104) d_md_told_104 rfl ⟨(by rw [if_pos ⟨h9, h21⟩]; simp [m_told, m_open_cg (I := wI I 47 0 0) (J := I) rfl, *]), rfl, (by simp [*])⟩ (Nat.zero_le _) (Nat.zero_le _)
          · skip
            refine qr_aload_n (pc := 60) d_md_told_60 rfl rfl ?_
            refine qr_get (v := .ref 59) (pc := 61) d_md_told_61 fl_md_47 (by decide) (by decide) (c_47 _ _) rfl ?_
            refine qr_iload_n (pc := 64) d_md_told_64 rfl rfl ?_
            refine qr_ialdN (j := c9) (pc := 65) d_md_told_65 (by decide) (by decide) (c_59 _ _) (by omega) (by decide) ?_
            refine qR_st (st' := [.int (I 59 c9)]) rfl rfl rfl ?_
            refine qr_i2l (pc := 66) d_md_told_66 ?_
            refine qr_goto (tgt := 104) (pc := 67) d_md_told_67 (by decide) ?_
            exact qr_lret (pc := 104) d_md_told_104 rfl ⟨(by rw [if_pos ⟨h9, h21⟩]; simp [m_told, m_open_cg (I := wI I 47 0 0) (J := I) rfl, *]), rfl, (by simp [*])⟩ (Nat.zero_le _) (Nat.zero_le _)
        · skip
          refine qr_aload_n (pc := 45) d_md_told_45 rfl rfl ?_
          refine qr_get (v := .ref 58) (pc := 46) d_md_told_46 fl_md_44 (by decide) (by decide) (c_47 _ _) rfl ?_
          refine qr_iload_n (pc := 49) d_md_told_49 rfl rfl ?_
          refine qr_ialdN (j := c9) (pc := 50) d_md_told_50 (by decide) (by decide) (c_58 _ _) (by omega) (by decide) ?_
          refine qR_st (st' := [.int (I 58 c9)]) rfl rfl rfl ?_
          refine qr_i2l (pc := 51) d_md_told_51 ?_
          refine qr_goto (tgt := 104) (pc := 52) d_md_told_52 (by decide) ?_
          exact qr_lret (pc := 104) d_md_told_104 rfl ⟨(by rw [if_pos ⟨h9, h21⟩]; simp [m_told, m_open_cg (I := wI I 47 0 0) (J := I) rfl, *]), rfl, (by simp [*])⟩ (Nat.zero_le _) (Nat.zero_le _)
    · skip
      simp only [b01, Decidable.not_not] at h21
      refine qr_aload_n (pc := 24) d_md_told_24 rfl rfl ?_
      refine qr_iconst (v := 1) (pc := 25) d_md_told_25 (by decide) ?_
      refine qr_callV (q := 47) (As := [.int 1]) (pc := 26) d_md_told_26 lk_md_110 im_md_refuse se_md_refuse rfl (by decide) (by decide) (c_47 _ _) (s_md_refuse _ x I L 1) rfl rfl (Nat.le_of_ble_eq_true rfl) (Nat.le_of_ble_eq_true rfl) (Nat.le_of_ble_eq_true rfl) (Nat.zero_le _) (Nat.zero_le _) (fun h => ⟨h, rfl, Or.inl rfl⟩) (fun v n9 f9 hE26 => ?_)
      obtain ⟨rfl, rfl, rfl⟩ := hE26
      refine qr_i2l (pc := 29) d_md_told_29 ?_
      exact qr_lret (pc := 30) d_md_told_30 rfl ⟨(by simp [i2l0, *]), rfl, (by simp [*])⟩ (Nat.zero_le _) (Nat.zero_le _)
set_option maxRecDepth 10000 in
theorem s_md_books (l : Launch) (x : Bool) (I : Nat → Nat → Int32) (L : Nat → Nat → Int64) (z zp : Nat) (hz : I 47 29 = nI z) (hz2 : z ≤ 50) (hzp : I 47 34 = nI zp) (hzp2 : zp ≤ 10) (hmp : mP I zp) (w : Int32) : qSp l y_md_books b_md_books 5 (some .long) x 2 0 0 [.ref 47, .int w] 77 (fm I L) (qD (some (.long (if 0 ≤ Int32.toInt64 w ∧ Int32.toInt64 w ≤ 4 then m_b3 I L w z zp else 0))) 77 (fm (wI I 47 0 (if 0 ≤ Int32.toInt64 w ∧ Int32.toInt64 w ≤ 4 then 0 else 1)) L)) := by
  refine qSp_of (ini := false) (by decide +kernel) (fun h => nomatch h) (Nat.le_of_ble_eq_true rfl) ?_
  show qR _ _ _ 0 [(0, .ref 47), (1, .int w)] [] _ _ _ _
  have join118 : ∀ s9 : Int64, m_b3 I L w z 0 = s9 → (0 ≤ Int32.toInt64 w ∧ Int32.toInt64 w ≤ 4) → qR (l, y_md_books.cls, b_md_books, 5, (some .long), false, x, 2, 0, 0, 77, q0) (qD (some (.long (if 0 ≤ Int32.toInt64 w ∧ Int32.toInt64 w ≤ 4 then m_b3 I L w z zp else 0))) 77 (fm (wI I 47 0 (if 0 ≤ Int32.toInt64 w ∧ Int32.toInt64 w ≤ 4 then 0 else 1)) L)) (fun _ _ _ => False) 118 [(2, .long s9), (0, .ref 47), (1, .int w)] [] 77 0 0 (fm (wI I 47 0 0) L) := by
    intro s9 hs9 h9
    refine qr_iconst (v := 0) (pc := 118) d_md_books_118 (by decide) ?_
    refine qr_istore (lv' := [(4, .int 0), (2, .long s9), (0, .ref 47), (1, .int w)]) (pc := 119) d_md_books_119 (Nat.le_of_ble_eq_true rfl) rfl ?_
    have loop121 : ∀ (j3 i : Nat), zp - i < j3 → i ≤ zp → qR (l, y_md_books.cls, b_md_books, 5, (some .long), false, x, 2, 0, 0, 77, q0) (qD (some (.long (if 0 ≤ Int32.toInt64 w ∧ Int32.toInt64 w ≤ 4 then m_b3 I L w z zp else 0))) 77 (fm (wI I 47 0 (if 0 ≤ Int32.toInt64 w ∧ Int32.toInt64 w ≤ 4 then 0 else 1)) L)) (fun _ _ _ => False) 121 [(4, .int (nI i)), (2, .long (m_b3 I L w z i)), (0, .ref 47), (1, .int w)] [] 77 0 0 (fm (wI I 47 0 0) L) := by
      intro j3
      induction j3 with
      | zero => intro i hj; omega
      | succ j3 ih3 =>
      intro i hjj3 hi
      refine qr_iload (pc := 121) d_md_books_121 rfl ?_
      refine qr_aload_n (pc := 123) d_md_books_123 rfl rfl ?_
      refine qr_get (v := .int (nI zp)) (pc := 124) d_md_books_124 fl_md_233 (by decide) (by decide) (c_47 _ _) (congrArg (fun t => some (Value.int t)) hzp) ?_
      refine qr_icmp_ge (tgt := 176) (pc := 127) d_md_books_127 (by decide) (fun h127 => ?_) (fun h127 => ?_)
      · skip
        have hiz : zp = i := by
          have := (nI_leI (a := zp) (b := i) (by omega) (by omega)).mp h127
          omega
        subst hiz
        refine qr_lload_n (pc := 176) d_md_books_176 rfl rfl ?_
        exact qr_lret (pc := 177) d_md_books_177 rfl ⟨(by simp [i2l0, *]), rfl, (by simp [*])⟩ (Nat.zero_le _) (Nat.zero_le _)
      · skip
        have hiz : i < zp := by
          have := mt (nI_leI (a := zp) (b := i) (by omega) (by omega)).mpr h127
          omega
        refine qr_lload_n (pc := 130) d_md_books_130 rfl rfl ?_
        refine qr_iload_n (pc := 131) d_md_books_131 rfl rfl ?_
        refine qr_iconst (v := 3) (pc := 132) d_md_books_132 (by decide) ?_
        refine qr_icmp_ne (tgt := 145) (pc := 133) d_md_books_133 (by decide) (fun h133 => ?_) (fun h133 => ?_)
        · skip
          refine qr_iload_n (pc := 145) d_md_books_145 rfl rfl ?_
          refine qr_iconst (v := 4) (pc := 146) d_md_books_146 (by decide) ?_
          refine qr_icmp_ne (tgt := 167) (pc := 147) d_md_books_147 (by decide) (fun h147 => ?_) (fun h147 => ?_)
          · skip
            refine qr_lconst (v := 0) (pc := 167) d_md_books_167 (by decide) ?_
            refine qr_ladd (pc := 168) d_md_books_168 ?_
            refine qr_lstore_n (lv' := [(2, .long ((m_b3 I L w z i) + 0)), (4, .int (nI i)), (0, .ref 47), (1, .int w)]) (pc := 169) d_md_books_169 rfl (Nat.le_of_ble_eq_true rfl) rfl ?_
            refine qr_iinc (v := nI (i + 1)) (lv' := [(4, .int (nI (i + 1))), (2, .long ((m_b3 I L w z i) + 0)), (0, .ref 47), (1, .int w)]) (pc := 170) d_md_books_170 rfl (nI_1 i) (Nat.le_of_ble_eq_true rfl) rfl ?_
            refine qr_goto (tgt := 121) (pc := 173) d_md_books_173 (by decide) ?_
            exact qR_st (by first | (simp [m_b3, *]; done) | (exfalso; grind)) rfl (rfl) (ih3 (i + 1) (by omega) (by omega))
          · skip
            refine qr_aload_n (pc := 150) d_md_books_150 rfl rfl ?_
            refine qr_get (v := .ref 75) (pc := 151) d_md_books_151 fl_md_96 (by decide) (by decide) (c_47 _ _) rfl ?_
            refine qr_iload (pc := 154) d_md_books_154 rfl ?_
            refine qr_laldN (j := i) (pc := 156) d_md_books_156 (by decide) (by decide) (c_75 _ _) (by omega) (by decide) ?_
            refine qr_aload_n (pc := 157) d_md_books_157 rfl rfl ?_
            refine qr_iload (pc := 158) d_md_books_158 rfl ?_
            refine qr_callV (q := 47) (As := [.int (nI i)]) (pc := 160) d_md_books_160 lk_md_242 im_md_earned se_md_earned rfl (by decide) (by decide) (c_47 _ _) (s_md_earned _ x (wI I 47 0 0) L i (by omega) (hmp i (by omega))) rfl rfl (Nat.le_of_ble_eq_true rfl) (Nat.le_of_ble_eq_true rfl) (Nat.le_of_ble_eq_true rfl) (Nat.zero_le _) (Nat.zero_le _) (fun h => ⟨h, rfl, Or.inl rfl⟩) (fun v n9 f9 hE160 => ?_)
            obtain ⟨rfl, rfl, rfl⟩ := hE160
            refine qr_lsub (pc := 163) d_md_books_163 ?_
            refine qr_goto (tgt := 168) (pc := 164) d_md_books_164 (by decide) ?_
            refine qr_ladd (pc := 168) d_md_books_168 ?_
            refine qr_lstore_n (lv' := [(2, .long ((m_b3 I L w z i) + ((L 75 i) - (m_earn1 I L i)))), (4, .int (nI i)), (0, .ref 47), (1, .int w)]) (pc := 169) d_md_books_169 rfl (Nat.le_of_ble_eq_true rfl) rfl ?_
            refine qr_iinc (v := nI (i + 1)) (lv' := [(4, .int (nI (i + 1))), (2, .long ((m_b3 I L w z i) + ((L 75 i) - (m_earn1 I L i)))), (0, .ref 47), (1, .int w)]) (pc := 170) d_md_books_170 rfl (nI_1 i) (Nat.le_of_ble_eq_true rfl) rfl ?_
            refine qr_goto (tgt := 121) (pc := 173) d_md_books_173 (by decide) ?_
            exact qR_st (by first | (simp [m_b3, *]; done) | (exfalso; grind)) rfl (rfl) (ih3 (i + 1) (by omega) (by omega))
        · skip
          refine qr_aload_n (pc := 136) d_md_books_136 rfl rfl ?_
          refine qr_iload (pc := 137) d_md_books_137 rfl ?_
          refine qr_callV (q := 47) (As := [.int (nI i)]) (pc := 139) d_md_books_139 lk_md_242 im_md_earned se_md_earned rfl (by decide) (by decide) (c_47 _ _) (s_md_earned _ x (wI I 47 0 0) L i (by omega) (hmp i (by omega))) rfl rfl (Nat.le_of_ble_eq_true rfl) (Nat.le_of_ble_eq_true rfl) (Nat.le_of_ble_eq_true rfl) (Nat.zero_le _) (Nat.zero_le _) (fun h => ⟨h, rfl, Or.inl rfl⟩) (fun v n9 f9 hE139 => ?_)
          obtain ⟨rfl, rfl, rfl⟩ := hE139
          refine qr_goto (tgt := 168) (pc := 142) d_md_books_142 (by decide) ?_
          refine qr_ladd (pc := 168) d_md_books_168 ?_
          refine qr_lstore_n (lv' := [(2, .long ((m_b3 I L w z i) + (m_earn1 I L i))), (4, .int (nI i)), (0, .ref 47), (1, .int w)]) (pc := 169) d_md_books_169 rfl (Nat.le_of_ble_eq_true rfl) rfl ?_
          refine qr_iinc (v := nI (i + 1)) (lv' := [(4, .int (nI (i + 1))), (2, .long ((m_b3 I L w z i) + (m_earn1 I L i))), (0, .ref 47), (1, .int w)]) (pc := 170) d_md_books_170 rfl (nI_1 i) (Nat.le_of_ble_eq_true rfl) rfl ?_
          refine qr_goto (tgt := 121) (pc := 173) d_md_books_173 (by decide) ?_
          exact qR_st (by first | (simp [m_b3, *]; done) | (exfalso; grind)) rfl (rfl) (ih3 (i + 1) (by omega) (by omega))
    exact qR_st (by rw [← hs9]; rfl) rfl rfl (loop121 (zp + 1) 0 (by omega) (by omega))
  refine qr_iload_n (pc := 0) d_md_books_0 rfl rfl ?_
  refine qr_i2l (pc := 1) d_md_books_1 ?_
  refine qr_lconst (v := 0) (pc := 2) d_md_books_2 (by decide) ?_
  refine qr_ldc2 (v := 4) (pc := 3) d_md_books_3 kl_md_201 ?_
  refine qr_callS (As := [.long (Int32.toInt64 w), .long 0, .long 4]) (pc := 6) d_md_books_6 lk_md_106 sm_md_in (s_md_in _ x _ _ (Int32.toInt64 w) 0 4) rfl rfl (Nat.le_of_ble_eq_true rfl) (Nat.le_of_ble_eq_true rfl) (Nat.le_of_ble_eq_true rfl) (Nat.zero_le _) (Nat.zero_le _) (fun h => ⟨h, rfl, Or.inl rfl⟩) (fun v n9 f9 hE6 => ?_)
  obtain ⟨rfl, rfl, rfl⟩ := hE6
  refine qr_if_ne (tgt := 19) (pc := 9) d_md_books_9 (by decide) (fun h9 => ?_) (fun h9 => ?_)
  · skip
    simp only [b01, Decidable.not_not] at h9
    refine qr_aload_n (pc := 19) d_md_books_19 rfl rfl ?_
    refine qr_iconst (v := 0) (pc := 20) d_md_books_20 (by decide) ?_
    refine qr_putI (pc := 21) d_md_books_21 fl_md_99 (by decide) (by decide) (c_47 _ _) (Nat.le_of_ble_eq_true rfl) (qFit_i _) (fun w => rfl) ?_
    refine qr_iload_n (pc := 24) d_md_books_24 rfl rfl ?_
    refine qr_if_ne (tgt := 35) (pc := 25) d_md_books_25 (by decide) (fun h25 => ?_) (fun h25 => ?_)
    · skip
      refine qr_lconst (v := 0) (pc := 35) d_md_books_35 (by decide) ?_
      refine qr_lstore_n (lv' := [(2, .long 0), (0, .ref 47), (1, .int w)]) (pc := 36) d_md_books_36 rfl (Nat.le_of_ble_eq_true rfl) rfl ?_
      refine qr_iconst (v := 0) (pc := 37) d_md_books_37 (by decide) ?_
      refine qr_istore (lv' := [(4, .int 0), (2, .long 0), (0, .ref 47), (1, .int w)]) (pc := 38) d_md_books_38 (Nat.le_of_ble_eq_true rfl) rfl ?_
      have loop40 : ∀ (j1 c : Nat), 5 - c < j1 → c ≤ 5 → qR (l, y_md_books.cls, b_md_books, 5, (some .long), false, x, 2, 0, 0, 77, q0) (qD (some (.long (if 0 ≤ Int32.toInt64 w ∧ Int32.toInt64 w ≤ 4 then m_b3 I L w z zp else 0))) 77 (fm (wI I 47 0 (if 0 ≤ Int32.toInt64 w ∧ Int32.toInt64 w ≤ 4 then 0 else 1)) L)) (fun _ _ _ => False) 40 [(4, .int (nI c)), (2, .long (m_b1 I L w z c)), (0, .ref 47), (1, .int w)] [] 77 0 0 (fm (wI I 47 0 0) L) := by
        intro j1
        induction j1 with
        | zero => intro c hj; omega
        | succ j1 ih1 =>
        intro c hjj1 hc
        refine qr_iload (pc := 40) d_md_books_40 rfl ?_
        refine qr_iconst (v := 5) (pc := 42) d_md_books_42 (by decide) ?_
        refine qr_icmp_ge (tgt := 85) (pc := 43) d_md_books_43 (by decide) (fun h43 => ?_) (fun h43 => ?_)
        · skip
          have hcz : 5 = c := by
            have := (nI_leI (a := 5) (b := c) (by omega) (by omega)).mp h43
            omega
          subst hcz
          refine qr_iconst (v := 0) (pc := 85) d_md_books_85 (by decide) ?_
          refine qr_istore (lv' := [(4, .int 0), (2, .long (m_b1 I L w z 5)), (0, .ref 47), (1, .int w)]) (pc := 86) d_md_books_86 (Nat.le_of_ble_eq_true rfl) rfl ?_
          have loop88 : ∀ (j2 k : Nat), z - k < j2 → k ≤ z → (k = 0 ∨ w = 3) → qR (l, y_md_books.cls, b_md_books, 5, (some .long), false, x, 2, 0, 0, 77, q0) (qD (some (.long (if 0 ≤ Int32.toInt64 w ∧ Int32.toInt64 w ≤ 4 then m_b3 I L w z zp else 0))) 77 (fm (wI I 47 0 (if 0 ≤ Int32.toInt64 w ∧ Int32.toInt64 w ≤ 4 then 0 else 1)) L)) (fun _ _ _ => False) 88 [(4, .int (nI k)), (2, .long (m_b2 I L w z k)), (0, .ref 47), (1, .int w)] [] 77 0 0 (fm (wI I 47 0 0) L) := by
            intro j2
            induction j2 with
            | zero => intro k hj; omega
            | succ j2 ih2 =>
            intro k hjj2 hk h03
            refine qr_iload (pc := 88) d_md_books_88 rfl ?_
            refine qr_aload_n (pc := 90) d_md_books_90 rfl rfl ?_
            refine qr_get (v := .int (nI z)) (pc := 91) d_md_books_91 fl_md_213 (by decide) (by decide) (c_47 _ _) (congrArg (fun t => some (Value.int t)) hz) ?_
            refine qr_icmp_ge (tgt := 118) (pc := 94) d_md_books_94 (by decide) (fun h94 => ?_) (fun h94 => ?_)
            · skip
              have hkz : z = k := by
                have := (nI_leI (a := z) (b := k) (by omega) (by omega)).mp h94
                omega
              subst hkz
              refine qR_sub (lv' := [(2, .long (m_b2 I L w z z)), (0, .ref 47), (1, .int w)]) [1, 2, 3] rfl ?_
              exact join118 _ (by first | (simp [m_b3, m_b2, *]; done) | (rcases h03 with h03 | h03 <;> simp_all [m_b3, m_b2]; done) | grind [m_b3, m_b2]) h9
            · skip
              have hkz : k < z := by
                have := mt (nI_leI (a := z) (b := k) (by omega) (by omega)).mpr h94
                omega
              refine qr_iload_n (pc := 97) d_md_books_97 rfl rfl ?_
              refine qr_iconst (v := 3) (pc := 98) d_md_books_98 (by decide) ?_
              refine qr_icmp_ne (tgt := 118) (pc := 99) d_md_books_99 (by decide) (fun h99 => ?_) (fun h99 => ?_)
              · skip
                refine qR_sub (lv' := [(2, .long (m_b2 I L w z k)), (0, .ref 47), (1, .int w)]) [1, 2, 3] rfl ?_
                exact join118 _ (by first | (simp [m_b3, m_b2, *]; done) | (rcases h03 with h03 | h03 <;> simp_all [m_b3, m_b2]; done) | grind [m_b3, m_b2]) h9
              · skip
                refine qr_lload_n (pc := 102) d_md_books_102 rfl rfl ?_
                refine qr_aload_n (pc := 103) d_md_books_103 rfl rfl ?_
                refine qr_get (v := .ref 70) (pc := 104) d_md_books_104 fl_md_81 (by decide) (by decide) (c_47 _ _) rfl ?_
                refine qr_iload (pc := 107) d_md_books_107 rfl ?_
                refine qr_laldN (j := k) (pc := 109) d_md_books_109 (by decide) (by decide) (c_70 _ _) (by omega) (by decide) ?_
                refine qr_ladd (pc := 110) d_md_books_110 ?_
                refine qr_lstore_n (lv' := [(2, .long ((m_b2 I L w z k) + (L 70 k))), (4, .int (nI k)), (0, .ref 47), (1, .int w)]) (pc := 111) d_md_books_111 rfl (Nat.le_of_ble_eq_true rfl) rfl ?_
                refine qr_iinc (v := nI (k + 1)) (lv' := [(4, .int (nI (k + 1))), (2, .long ((m_b2 I L w z k) + (L 70 k))), (0, .ref 47), (1, .int w)]) (pc := 112) d_md_books_112 rfl (nI_1 k) (Nat.le_of_ble_eq_true rfl) rfl ?_
                refine qr_goto (tgt := 88) (pc := 115) d_md_books_115 (by decide) ?_
                exact qR_st (by simp [m_b2, *]) rfl (rfl) (ih2 (k + 1) (by omega) (by omega) (Or.inr h99))
          exact loop88 (z + 1) 0 (by omega) (by omega) (Or.inl rfl)
        · skip
          have hcz : c < 5 := by
            have := mt (nI_leI (a := 5) (b := c) (by omega) (by omega)).mpr h43
            omega
          refine qr_lload_n (pc := 46) d_md_books_46 rfl rfl ?_
          refine qr_iload_n (pc := 47) d_md_books_47 rfl rfl ?_
          refine qr_iconst (v := 1) (pc := 48) d_md_books_48 (by decide) ?_
          refine qr_icmp_ne (tgt := 61) (pc := 49) d_md_books_49 (by decide) (fun h49 => ?_) (fun h49 => ?_)
          · skip
            refine qr_iload_n (pc := 61) d_md_books_61 rfl rfl ?_
            refine qr_iconst (v := 2) (pc := 62) d_md_books_62 (by decide) ?_
            refine qr_icmp_ne (tgt := 76) (pc := 63) d_md_books_63 (by decide) (fun h63 => ?_) (fun h63 => ?_)
            · skip
              refine qr_lconst (v := 0) (pc := 76) d_md_books_76 (by decide) ?_
              refine qr_ladd (pc := 77) d_md_books_77 ?_
              refine qr_lstore_n (lv' := [(2, .long ((m_b1 I L w z c) + 0)), (4, .int (nI c)), (0, .ref 47), (1, .int w)]) (pc := 78) d_md_books_78 rfl (Nat.le_of_ble_eq_true rfl) rfl ?_
              refine qr_iinc (v := nI (c + 1)) (lv' := [(4, .int (nI (c + 1))), (2, .long ((m_b1 I L w z c) + 0)), (0, .ref 47), (1, .int w)]) (pc := 79) d_md_books_79 rfl (nI_1 c) (Nat.le_of_ble_eq_true rfl) rfl ?_
              refine qr_goto (tgt := 40) (pc := 82) d_md_books_82 (by decide) ?_
              exact qR_st (by first | (simp [m_b1, m_open_cg (I := wI I 47 0 0) (J := I) rfl, *]; done) | (exfalso; grind)) rfl (rfl) (ih1 (c + 1) (by omega) (by omega))
            · skip
              refine qr_aload_n (pc := 66) d_md_books_66 rfl rfl ?_
              refine qr_get (v := .ref 61) (pc := 67) d_md_books_67 fl_md_53 (by decide) (by decide) (c_47 _ _) rfl ?_
              refine qr_iload (pc := 70) d_md_books_70 rfl ?_
              refine qr_laldN (j := c) (pc := 72) d_md_books_72 (by decide) (by decide) (c_61 _ _) (by omega) (by decide) ?_
              refine qr_goto (tgt := 77) (pc := 73) d_md_books_73 (by decide) ?_
              refine qr_ladd (pc := 77) d_md_books_77 ?_
              refine qr_lstore_n (lv' := [(2, .long ((m_b1 I L w z c) + (L 61 c))), (4, .int (nI c)), (0, .ref 47), (1, .int w)]) (pc := 78) d_md_books_78 rfl (Nat.le_of_ble_eq_true rfl) rfl ?_
              refine qr_iinc (v := nI (c + 1)) (lv' := [(4, .int (nI (c + 1))), (2, .long ((m_b1 I L w z c) + (L 61 c))), (0, .ref 47), (1, .int w)]) (pc := 79) d_md_books_79 rfl (nI_1 c) (Nat.le_of_ble_eq_true rfl) rfl ?_
              refine qr_goto (tgt := 40) (pc := 82) d_md_books_82 (by decide) ?_
              exact qR_st (by first | (simp [m_b1, m_open_cg (I := wI I 47 0 0) (J := I) rfl, *]; done) | (exfalso; grind)) rfl (rfl) (ih1 (c + 1) (by omega) (by omega))
          · skip
            refine qr_aload_n (pc := 52) d_md_books_52 rfl rfl ?_
            refine qr_iload (pc := 53) d_md_books_53 rfl ?_
            refine qr_callV (q := 47) (As := [.int (nI c)]) (pc := 55) d_md_books_55 lk_md_238 im_md_open se_md_open rfl (by decide) (by decide) (c_47 _ _) (s_md_open _ x (wI I 47 0 0) L z hz hz2 (nI c)) rfl rfl (Nat.le_of_ble_eq_true rfl) (Nat.le_of_ble_eq_true rfl) (Nat.le_of_ble_eq_true rfl) (Nat.zero_le _) (Nat.zero_le _) (fun h => ⟨h, rfl, Or.inl rfl⟩) (fun v n9 f9 hE55 => ?_)
            obtain ⟨rfl, rfl, rfl⟩ := hE55
            refine qr_goto (tgt := 77) (pc := 58) d_md_books_58 (by decide) ?_
            refine qr_ladd (pc := 77) d_md_books_77 ?_
            refine qr_lstore_n (lv' := [(2, .long ((m_b1 I L w z c) + (m_open (wI I 47 0 0) L (nI c) z))), (4, .int (nI c)), (0, .ref 47), (1, .int w)]) (pc := 78) d_md_books_78 rfl (Nat.le_of_ble_eq_true rfl) rfl ?_
            refine qr_iinc (v := nI (c + 1)) (lv' := [(4, .int (nI (c + 1))), (2, .long ((m_b1 I L w z c) + (m_open (wI I 47 0 0) L (nI c) z))), (0, .ref 47), (1, .int w)]) (pc := 79) d_md_books_79 rfl (nI_1 c) (Nat.le_of_ble_eq_true rfl) rfl ?_
            refine qr_goto (tgt := 40) (pc := 82) d_md_books_82 (by decide) ?_
            exact qR_st (by first | (simp [m_b1, m_open_cg (I := wI I 47 0 0) (J := I) rfl, *]; done) | (exfalso; grind)) rfl (rfl) (ih1 (c + 1) (by omega) (by omega))
      exact qR_st (by simp [m_b1, nI_0, *]) rfl rfl (loop40 (5 + 1) 0 (by omega) (by omega))
    · skip
      refine qr_aload_n (pc := 28) d_md_books_28 rfl rfl ?_
      refine qr_get (v := .long (L 47 35)) (pc := 29) d_md_books_29 fl_md_227 (by decide) (by decide) (c_47 _ _) rfl ?_
      refine qr_goto (tgt := 36) (pc := 32) d_md_books_32 (by decide) ?_
      refine qr_lstore_n (lv' := [(2, .long (L 47 35)), (0, .ref 47), (1, .int w)]) (pc := 36) d_md_books_36 rfl (Nat.le_of_ble_eq_true rfl) rfl ?_
      refine qr_iconst (v := 0) (pc := 37) d_md_books_37 (by decide) ?_
      refine qr_istore (lv' := [(4, .int 0), (2, .long (L 47 35)), (0, .ref 47), (1, .int w)]) (pc := 38) d_md_books_38 (Nat.le_of_ble_eq_true rfl) rfl ?_
      have loop40 : ∀ (j1 c : Nat), 5 - c < j1 → c ≤ 5 → qR (l, y_md_books.cls, b_md_books, 5, (some .long), false, x, 2, 0, 0, 77, q0) (qD (some (.long (if 0 ≤ Int32.toInt64 w ∧ Int32.toInt64 w ≤ 4 then m_b3 I L w z zp else 0))) 77 (fm (wI I 47 0 (if 0 ≤ Int32.toInt64 w ∧ Int32.toInt64 w ≤ 4 then 0 else 1)) L)) (fun _ _ _ => False) 40 [(4, .int (nI c)), (2, .long (m_b1 I L w z c)), (0, .ref 47), (1, .int w)] [] 77 0 0 (fm (wI I 47 0 0) L) := by
        intro j1
        induction j1 with
        | zero => intro c hj; omega
        | succ j1 ih1 =>
        intro c hjj1 hc
        refine qr_iload (pc := 40) d_md_books_40 rfl ?_
        refine qr_iconst (v := 5) (pc := 42) d_md_books_42 (by decide) ?_
        refine qr_icmp_ge (tgt := 85) (pc := 43) d_md_books_43 (by decide) (fun h43 => ?_) (fun h43 => ?_)
        · skip
          have hcz : 5 = c := by
            have := (nI_leI (a := 5) (b := c) (by omega) (by omega)).mp h43
            omega
          subst hcz
          refine qr_iconst (v := 0) (pc := 85) d_md_books_85 (by decide) ?_
          refine qr_istore (lv' := [(4, .int 0), (2, .long (m_b1 I L w z 5)), (0, .ref 47), (1, .int w)]) (pc := 86) d_md_books_86 (Nat.le_of_ble_eq_true rfl) rfl ?_
          have loop88 : ∀ (j2 k : Nat), z - k < j2 → k ≤ z → (k = 0 ∨ w = 3) → qR (l, y_md_books.cls, b_md_books, 5, (some .long), false, x, 2, 0, 0, 77, q0) (qD (some (.long (if 0 ≤ Int32.toInt64 w ∧ Int32.toInt64 w ≤ 4 then m_b3 I L w z zp else 0))) 77 (fm (wI I 47 0 (if 0 ≤ Int32.toInt64 w ∧ Int32.toInt64 w ≤ 4 then 0 else 1)) L)) (fun _ _ _ => False) 88 [(4, .int (nI k)), (2, .long (m_b2 I L w z k)), (0, .ref 47), (1, .int w)] [] 77 0 0 (fm (wI I 47 0 0) L) := by
            intro j2
            induction j2 with
            | zero => intro k hj; omega
            | succ j2 ih2 =>
            intro k hjj2 hk h03
            refine qr_iload (pc := 88) d_md_books_88 rfl ?_
            refine qr_aload_n (pc := 90) d_md_books_90 rfl rfl ?_
            refine qr_get (v := .int (nI z)) (pc := 91) d_md_books_91 fl_md_213 (by decide) (by decide) (c_47 _ _) (congrArg (fun t => some (Value.int t)) hz) ?_
            refine qr_icmp_ge (tgt := 118) (pc := 94) d_md_books_94 (by decide) (fun h94 => ?_) (fun h94 => ?_)
            · skip
              have hkz : z = k := by
                have := (nI_leI (a := z) (b := k) (by omega) (by omega)).mp h94
                omega
              subst hkz
              refine qR_sub (lv' := [(2, .long (m_b2 I L w z z)), (0, .ref 47), (1, .int w)]) [1, 2, 3] rfl ?_
              exact join118 _ (by first | (simp [m_b3, m_b2, *]; done) | (rcases h03 with h03 | h03 <;> simp_all [m_b3, m_b2]; done) | grind [m_b3, m_b2]) h9
            · skip
              have hkz : k < z := by
                have := mt (nI_leI (a := z) (b := k) (by omega) (by omega)).mpr h94
                omega
              refine qr_iload_n (pc := 97) d_md_books_97 rfl rfl ?_
              refine qr_iconst (v := 3) (pc := 98) d_md_books_98 (by decide) ?_
              refine qr_icmp_ne (tgt := 118) (pc := 99) d_md_books_99 (by decide) (fun h99 => ?_) (fun h99 => ?_)
              · skip
                refine qR_sub (lv' := [(2, .long (m_b2 I L w z k)), (0, .ref 47), (1, .int w)]) [1, 2, 3] rfl ?_
                exact join118 _ (by first | (simp [m_b3, m_b2, *]; done) | (rcases h03 with h03 | h03 <;> simp_all [m_b3, m_b2]; done) | grind [m_b3, m_b2]) h9
              · skip
                refine qr_lload_n (pc := 102) d_md_books_102 rfl rfl ?_
                refine qr_aload_n (pc := 103) d_md_books_103 rfl rfl ?_
                refine qr_get (v := .ref 70) (pc := 104) d_md_books_104 fl_md_81 (by decide) (by decide) (c_47 _ _) rfl ?_
                refine qr_iload (pc := 107) d_md_books_107 rfl ?_
                refine qr_laldN (j := k) (pc := 109) d_md_books_109 (by decide) (by decide) (c_70 _ _) (by omega) (by decide) ?_
                refine qr_ladd (pc := 110) d_md_books_110 ?_
                refine qr_lstore_n (lv' := [(2, .long ((m_b2 I L w z k) + (L 70 k))), (4, .int (nI k)), (0, .ref 47), (1, .int w)]) (pc := 111) d_md_books_111 rfl (Nat.le_of_ble_eq_true rfl) rfl ?_
                refine qr_iinc (v := nI (k + 1)) (lv' := [(4, .int (nI (k + 1))), (2, .long ((m_b2 I L w z k) + (L 70 k))), (0, .ref 47), (1, .int w)]) (pc := 112) d_md_books_112 rfl (nI_1 k) (Nat.le_of_ble_eq_true rfl) rfl ?_
                refine qr_goto (tgt := 88) (pc := 115) d_md_books_115 (by decide) ?_
                exact qR_st (by simp [m_b2, *]) rfl (rfl) (ih2 (k + 1) (by omega) (by omega) (Or.inr h99))
          exact loop88 (z + 1) 0 (by omega) (by omega) (Or.inl rfl)
        · skip
          have hcz : c < 5 := by
            have := mt (nI_leI (a := 5) (b := c) (by omega) (by omega)).mpr h43
            omega
          refine qr_lload_n (pc := 46) d_md_books_46 rfl rfl ?_
          refine qr_iload_n (pc := 47) d_md_books_47 rfl rfl ?_
          refine qr_iconst (v := 1) (pc := 48) d_md_books_48 (by decide) ?_
          refine qr_icmp_ne (tgt := 61) (pc := 49) d_md_books_49 (by decide) (fun h49 => ?_) (fun h49 => ?_)
          · skip
            refine qr_iload_n (pc := 61) d_md_books_61 rfl rfl ?_
            refine qr_iconst (v := 2) (pc := 62) d_md_books_62 (by decide) ?_
            refine qr_icmp_ne (tgt := 76) (pc := 63) d_md_books_63 (by decide) (fun h63 => ?_) (fun h63 => ?_)
            · skip
              refine qr_lconst (v := 0) (pc := 76) d_md_books_76 (by decide) ?_
              refine qr_ladd (pc := 77) d_md_books_77 ?_
              refine qr_lstore_n (lv' := [(2, .long ((m_b1 I L w z c) + 0)), (4, .int (nI c)), (0, .ref 47), (1, .int w)]) (pc := 78) d_md_books_78 rfl (Nat.le_of_ble_eq_true rfl) rfl ?_
              refine qr_iinc (v := nI (c + 1)) (lv' := [(4, .int (nI (c + 1))), (2, .long ((m_b1 I L w z c) + 0)), (0, .ref 47), (1, .int w)]) (pc := 79) d_md_books_79 rfl (nI_1 c) (Nat.le_of_ble_eq_true rfl) rfl ?_
              refine qr_goto (tgt := 40) (pc := 82) d_md_books_82 (by decide) ?_
              exact qR_st (by first | (simp [m_b1, m_open_cg (I := wI I 47 0 0) (J := I) rfl, *]; done) | (exfalso; grind)) rfl (rfl) (ih1 (c + 1) (by omega) (by omega))
            · skip
              refine qr_aload_n (pc := 66) d_md_books_66 rfl rfl ?_
              refine qr_get (v := .ref 61) (pc := 67) d_md_books_67 fl_md_53 (by decide) (by decide) (c_47 _ _) rfl ?_
              refine qr_iload (pc := 70) d_md_books_70 rfl ?_
              refine qr_laldN (j := c) (pc := 72) d_md_books_72 (by decide) (by decide) (c_61 _ _) (by omega) (by decide) ?_
              refine qr_goto (tgt := 77) (pc := 73) d_md_books_73 (by decide) ?_
              refine qr_ladd (pc := 77) d_md_books_77 ?_
              refine qr_lstore_n (lv' := [(2, .long ((m_b1 I L w z c) + (L 61 c))), (4, .int (nI c)), (0, .ref 47), (1, .int w)]) (pc := 78) d_md_books_78 rfl (Nat.le_of_ble_eq_true rfl) rfl ?_
              refine qr_iinc (v := nI (c + 1)) (lv' := [(4, .int (nI (c + 1))), (2, .long ((m_b1 I L w z c) + (L 61 c))), (0, .ref 47), (1, .int w)]) (pc := 79) d_md_books_79 rfl (nI_1 c) (Nat.le_of_ble_eq_true rfl) rfl ?_
              refine qr_goto (tgt := 40) (pc := 82) d_md_books_82 (by decide) ?_
              exact qR_st (by first | (simp [m_b1, m_open_cg (I := wI I 47 0 0) (J := I) rfl, *]; done) | (exfalso; grind)) rfl (rfl) (ih1 (c + 1) (by omega) (by omega))
          · skip
            refine qr_aload_n (pc := 52) d_md_books_52 rfl rfl ?_
            refine qr_iload (pc := 53) d_md_books_53 rfl ?_
            refine qr_callV (q := 47) (As := [.int (nI c)]) (pc := 55) d_md_books_55 lk_md_238 im_md_open se_md_open rfl (by decide) (by decide) (c_47 _ _) (s_md_open _ x (wI I 47 0 0) L z hz hz2 (nI c)) rfl rfl (Nat.le_of_ble_eq_true rfl) (Nat.le_of_ble_eq_true rfl) (Nat.le_of_ble_eq_true rfl) (Nat.zero_le _) (Nat.zero_le _) (fun h => ⟨h, rfl, Or.inl rfl⟩) (fun v n9 f9 hE55 => ?_)
            obtain ⟨rfl, rfl, rfl⟩ := hE55
            refine qr_goto (tgt := 77) (pc := 58) d_md_books_58 (by decide) ?_
            refine qr_ladd (pc := 77) d_md_books_77 ?_
            refine qr_lstore_n (lv' := [(2, .long ((m_b1 I L w z c) + (m_open (wI I 47 0 0) L (nI c) z))), (4, .int (nI c)), (0, .ref 47), (1, .int w)]) (pc := 78) d_md_books_78 rfl (Nat.le_of_ble_eq_true rfl) rfl ?_
            refine qr_iinc (v := nI (c + 1)) (lv' := [(4, .int (nI (c + 1))), (2, .long ((m_b1 I L w z c) + (m_open (wI I 47 0 0) L (nI c) z))), (0, .ref 47), (1, .int w)]) (pc := 79) d_md_books_79 rfl (nI_1 c) (Nat.le_of_ble_eq_true rfl) rfl ?_
            refine qr_goto (tgt := 40) (pc := 82) d_md_books_82 (by decide) ?_
            exact qR_st (by first | (simp [m_b1, m_open_cg (I := wI I 47 0 0) (J := I) rfl, *]; done) | (exfalso; grind)) rfl (rfl) (ih1 (c + 1) (by omega) (by omega))
      exact qR_st (by simp [m_b1, nI_0, *]) rfl rfl (loop40 (5 + 1) 0 (by omega) (by omega))
  · skip
    simp only [b01, Decidable.not_not] at h9
    refine qr_aload_n (pc := 12) d_md_books_12 rfl rfl ?_
    refine qr_iconst (v := 1) (pc := 13) d_md_books_13 (by decide) ?_
    refine qr_callV (q := 47) (As := [.int 1]) (pc := 14) d_md_books_14 lk_md_110 im_md_refuse se_md_refuse rfl (by decide) (by decide) (c_47 _ _) (s_md_refuse _ x I L 1) rfl rfl (Nat.le_of_ble_eq_true rfl) (Nat.le_of_ble_eq_true rfl) (Nat.le_of_ble_eq_true rfl) (Nat.zero_le _) (Nat.zero_le _) (fun h => ⟨h, rfl, Or.inl rfl⟩) (fun v n9 f9 hE14 => ?_)
    obtain ⟨rfl, rfl, rfl⟩ := hE14
    refine qr_i2l (pc := 17) d_md_books_17 ?_
    exact qr_lret (pc := 18) d_md_books_18 rfl ⟨(by simp [i2l0, *]), rfl, (by simp [*])⟩ (Nat.zero_le _) (Nat.zero_le _)
