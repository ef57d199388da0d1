/-! the reference's parser: word -/
/-- the letters from s on, as one number -/
def m_acc (I : Nat → Nat → Int32) (s : Nat) : Nat → Int64
  | 0 => 0
  | k + 1 => (m_acc I s k <<< ((Int32.toInt64 8) &&& 63)) ||| Int32.toInt64 (I 48 (s + k))
def m_wv (I : Nat → Nat → Int32) (s e : Nat) : Int64 := if e - s < 5 then m_acc I s (e - s) else 0
def m_wd (I : Nat → Nat → Int32) (s e : Nat) : Int32 := if m_wv I s e = 6710629 then 0 else if m_wv I s e = 1718773093 then 1 else if m_wv I s e = 7170414 then 2 else if m_wv I s e = 7366002 then 3 else if m_wv I s e = 1953064306 then 4 else if m_wv I s e = 1919251316 then 5 else -1
set_option maxRecDepth 10000 in
theorem s_md_word (l : Launch) (x : Bool) (I : Nat → Nat → Int32) (L : Nat → Nat → Int64) (s e : Nat) (hat : I 47 36 = nI e) (hs : s ≤ e) (he : e ≤ 60) : qSp l y_md_word b_md_word 6 (some .int) x 1 0 0 [.ref 47, .int (nI s)] 77 (fm I L) (qD (some (.int (m_wd I s e))) 77 (fm I L)) := by
  have tail : ∀ (q5 : Int32) (v : Int64), v = m_wv I s e → qR (l, y_md_word.cls, b_md_word, 6, (some .int), false, x, 1, 0, 0, 77, q0) (qD (some (.int (m_wd I s e))) 77 (fm I L)) (fun _ _ _ => False) 46 [(5, .int q5), (3, .long v), (2, .int (nI (e - s))), (0, .ref 47), (1, .int (nI s))] [] 77 0 0 (fm I L) := by
    intro q5 v hv
    refine qr_lload_n (pc := 46) d_md_word_46 rfl rfl ?_
    refine qr_ldc2 (v := 6710629) (pc := 47) d_md_word_47 kl_md_135 ?_
    refine qr_lcmp (pc := 50) d_md_word_50 ?_
    refine qr_if_ne (tgt := 56) (pc := 51) d_md_word_51 (by decide) (fun h0 => ?_) (fun h0 => ?_)
    rotate_left
    · rw [lgc_eq] at h0
      refine qr_iconst (v := 0) (pc := 54) d_md_word_54 (by decide) ?_
      exact qr_iret (pc := 55) d_md_word_55 rfl rfl ⟨by rw [m_wd, ← hv, if_pos h0], rfl, rfl⟩ (Nat.zero_le _) (Nat.zero_le _)
    rw [lgc_eq] at h0
    refine qr_lload_n (pc := 56) d_md_word_56 rfl rfl ?_
    refine qr_ldc2 (v := 1718773093) (pc := 57) d_md_word_57 kl_md_137 ?_
    refine qr_lcmp (pc := 60) d_md_word_60 ?_
    refine qr_if_ne (tgt := 66) (pc := 61) d_md_word_61 (by decide) (fun h1 => ?_) (fun h1 => ?_)
    rotate_left
    · rw [lgc_eq] at h1
      refine qr_iconst (v := 1) (pc := 64) d_md_word_64 (by decide) ?_
      exact qr_iret (pc := 65) d_md_word_65 rfl rfl ⟨by rw [m_wd, ← hv, if_neg h0, if_pos h1], rfl, rfl⟩ (Nat.zero_le _) (Nat.zero_le _)
    rw [lgc_eq] at h1
    refine qr_lload_n (pc := 66) d_md_word_66 rfl rfl ?_
    refine qr_ldc2 (v := 7170414) (pc := 67) d_md_word_67 kl_md_139 ?_
    refine qr_lcmp (pc := 70) d_md_word_70 ?_
    refine qr_if_ne (tgt := 76) (pc := 71) d_md_word_71 (by decide) (fun h2 => ?_) (fun h2 => ?_)
    rotate_left
    · rw [lgc_eq] at h2
      refine qr_iconst (v := 2) (pc := 74) d_md_word_74 (by decide) ?_
      exact qr_iret (pc := 75) d_md_word_75 rfl rfl ⟨by rw [m_wd, ← hv, if_neg h0, if_neg h1, if_pos h2], rfl, rfl⟩ (Nat.zero_le _) (Nat.zero_le _)
    rw [lgc_eq] at h2
    refine qr_lload_n (pc := 76) d_md_word_76 rfl rfl ?_
    refine qr_ldc2 (v := 7366002) (pc := 77) d_md_word_77 kl_md_141 ?_
    refine qr_lcmp (pc := 80) d_md_word_80 ?_
    refine qr_if_ne (tgt := 86) (pc := 81) d_md_word_81 (by decide) (fun h3 => ?_) (fun h3 => ?_)
    rotate_left
    · rw [lgc_eq] at h3
      refine qr_iconst (v := 3) (pc := 84) d_md_word_84 (by decide) ?_
      exact qr_iret (pc := 85) d_md_word_85 rfl rfl ⟨by rw [m_wd, ← hv, if_neg h0, if_neg h1, if_neg h2, if_pos h3], rfl, rfl⟩ (Nat.zero_le _) (Nat.zero_le _)
    rw [lgc_eq] at h3
    refine qr_lload_n (pc := 86) d_md_word_86 rfl rfl ?_
    refine qr_ldc2 (v := 1953064306) (pc := 87) d_md_word_87 kl_md_143 ?_
    refine qr_lcmp (pc := 90) d_md_word_90 ?_
    refine qr_if_ne (tgt := 96) (pc := 91) d_md_word_91 (by decide) (fun h4 => ?_) (fun h4 => ?_)
    rotate_left
    · rw [lgc_eq] at h4
      refine qr_iconst (v := 4) (pc := 94) d_md_word_94 (by decide) ?_
      exact qr_iret (pc := 95) d_md_word_95 rfl rfl ⟨by rw [m_wd, ← hv, if_neg h0, if_neg h1, if_neg h2, if_neg h3, if_pos h4], rfl, rfl⟩ (Nat.zero_le _) (Nat.zero_le _)
    rw [lgc_eq] at h4
    refine qr_lload_n (pc := 96) d_md_word_96 rfl rfl ?_
    refine qr_ldc2 (v := 1919251316) (pc := 97) d_md_word_97 kl_md_145 ?_
    refine qr_lcmp (pc := 100) d_md_word_100 ?_
    refine qr_if_ne (tgt := 108) (pc := 101) d_md_word_101 (by decide) (fun h5 => ?_) (fun h5 => ?_)
    rotate_left
    · rw [lgc_eq] at h5
      refine qr_iconst (v := 5) (pc := 104) d_md_word_104 (by decide) ?_
      refine qr_goto (tgt := 109) (pc := 105) d_md_word_105 (by decide) ?_
      exact qr_iret (pc := 109) d_md_word_109 rfl rfl ⟨by rw [m_wd, ← hv, if_neg h0, if_neg h1, if_neg h2, if_neg h3, if_neg h4, if_pos h5], rfl, rfl⟩ (Nat.zero_le _) (Nat.zero_le _)
    rw [lgc_eq] at h5
    refine qr_iconst (v := (-1)) (pc := 108) d_md_word_108 (by decide) ?_
    exact qr_iret (pc := 109) d_md_word_109 rfl rfl ⟨by rw [m_wd, ← hv, if_neg h0, if_neg h1, if_neg h2, if_neg h3, if_neg h4, if_neg h5], rfl, rfl⟩ (Nat.zero_le _) (Nat.zero_le _)
  have loop : ∀ (j k : Nat), (e - s) - k < j → k ≤ e - s → (e - s < 5 ∨ k = 0) → qR (l, y_md_word.cls, b_md_word, 6, (some .int), false, x, 1, 0, 0, 77, q0) (qD (some (.int (m_wd I s e))) 77 (fm I L)) (fun _ _ _ => False) 12 [(5, .int (nI (s + k))), (3, .long (m_acc I s k)), (2, .int (nI (e - s))), (0, .ref 47), (1, .int (nI s))] [] 77 0 0 (fm I L) := by
    intro j
    induction j with
    | zero => intro k hj; omega
    | succ j ih =>
      intro k hj hk h5
      refine qr_iload (pc := 12) d_md_word_12 rfl ?_
      refine qr_aload_n (pc := 14) d_md_word_14 rfl rfl ?_
      refine qr_get (v := .int (nI e)) (pc := 15) d_md_word_15 fl_md_117 (by decide) (by decide) (c_47 _ _) (congrArg (fun t => some (Value.int t)) hat) ?_
      refine qr_icmp_ge (tgt := 46) (pc := 18) d_md_word_18 (by decide) (fun h18 => ?_) (fun h18 => ?_)
      · have hk9 : k = e - s := by
          have := (nI_leI (a := e) (b := s + k) (by omega) (by omega)).mp h18
          omega
        refine tail _ _ ?_
        unfold m_wv
        rcases h5 with h5 | h5
        · rw [if_pos h5, hk9]
        · rw [if_pos (by omega), hk9]
      · have hk9 : k < e - s := by
          have := mt (nI_leI (a := e) (b := s + k) (by omega) (by omega)).mpr h18
          omega
        refine qr_iload_n (pc := 21) d_md_word_21 rfl rfl ?_
        refine qr_iconst (v := 5) (pc := 22) d_md_word_22 (by decide) ?_
        refine qr_icmp_ge (tgt := 46) (pc := 23) d_md_word_23 (by decide) (fun h23 => ?_) (fun h23 => ?_)
        · have h59 : ¬ e - s < 5 := by
            have := (nI_leI (a := 5) (b := e - s) (by decide) (by omega)).mp h23
            omega
          have hk0 : k = 0 := by omega
          subst hk0
          refine tail _ _ ?_
          unfold m_wv
          rw [if_neg h59]
          rfl
        · have h59 : e - s < 5 := by
            have := mt (nI_leI (a := 5) (b := e - s) (by decide) (by omega)).mpr h23
            omega
          refine qr_lload_n (pc := 26) d_md_word_26 rfl rfl ?_
          refine qr_bipush (v := 8) (pc := 27) d_md_word_27 (by decide) ?_
          refine qr_lshl (pc := 29) d_md_word_29 ?_
          refine qr_aload_n (pc := 30) d_md_word_30 rfl rfl ?_
          refine qr_get (v := .ref 48) (pc := 31) d_md_word_31 fl_md_13 (by decide) (by decide) (c_47 _ _) rfl ?_
          refine qr_iload (pc := 34) d_md_word_34 rfl ?_
          refine qr_ialdN (j := s + k) (pc := 36) d_md_word_36 (by decide) (by decide) (c_48 _ _) (by omega) (by decide) ?_
          refine qr_i2l (pc := 37) d_md_word_37 ?_
          refine qr_lor (pc := 38) d_md_word_38 ?_
          refine qr_lstore_n (lv' := [(3, .long (m_acc I s (k + 1))), (5, .int (nI (s + k))), (2, .int (nI (e - s))), (0, .ref 47), (1, .int (nI s))]) (pc := 39) d_md_word_39 rfl (Nat.le_of_ble_eq_true rfl) rfl ?_
          refine qr_iinc (v := nI (s + (k + 1))) (lv' := [(5, .int (nI (s + (k + 1)))), (3, .long (m_acc I s (k + 1))), (2, .int (nI (e - s))), (0, .ref 47), (1, .int (nI s))]) (pc := 40) d_md_word_40 rfl (nI_1 (s + k)) (Nat.le_of_ble_eq_true rfl) rfl ?_
          refine qr_goto (tgt := 12) (pc := 43) d_md_word_43 (by decide) ?_
          exact ih (k + 1) (by omega) (by omega) (Or.inl h59)
  refine qSp_of (ini := false) (by decide +kernel) (fun h => nomatch h) (Nat.le_of_ble_eq_true rfl) ?_
  refine qr_aload_n (pc := 0) d_md_word_0 rfl rfl ?_
  refine qr_get (v := .int (nI e)) (pc := 1) d_md_word_1 fl_md_117 (by decide) (by decide) (c_47 _ _) (congrArg (fun t => some (Value.int t)) hat) ?_
  refine qr_iload_n (pc := 4) d_md_word_4 rfl rfl ?_
  refine qr_isub (pc := 5) d_md_word_5 ?_
  refine qR_st (st' := [.int (nI (e - s))]) rfl (by rw [nI_sb hs] <;> rfl) rfl ?_
  refine qr_istore_n (lv' := [(2, .int (nI (e - s))), (0, .ref 47), (1, .int (nI s))]) (pc := 6) d_md_word_6 rfl (Nat.le_of_ble_eq_true rfl) rfl ?_
  refine qr_lconst (v := 0) (pc := 7) d_md_word_7 (by decide) ?_
  refine qr_lstore_n (lv' := [(3, .long 0), (2, .int (nI (e - s))), (0, .ref 47), (1, .int (nI s))]) (pc := 8) d_md_word_8 rfl (Nat.le_of_ble_eq_true rfl) rfl ?_
  refine qr_iload_n (pc := 9) d_md_word_9 rfl rfl ?_
  refine qr_istore (lv' := [(5, .int (nI s)), (3, .long 0), (2, .int (nI (e - s))), (0, .ref 47), (1, .int (nI s))]) (pc := 10) d_md_word_10 (Nat.le_of_ble_eq_true rfl) rfl ?_
  exact loop (e - s + 1) 0 (by omega) (by omega) (Or.inr rfl)
