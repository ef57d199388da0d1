/-! the class's parser: readPart, readAll -/
theorem u_can_in {I : Nat → Nat → Int32} {w : Int32} (h : ¬ u_can I w = 0) : vp_in w 6 := by
  unfold u_can at h
  by_cases hw : w < 0 ∨ 6 ≤ w
  · rw [if_pos hw] at h
    exact absurd rfl h
  · have h1 : ¬ w < 0 := fun q => hw (Or.inl q)
    obtain ⟨j, hj, rfl⟩ := nI_of h1
    have h2 : ¬ nI 6 ≤ nI j := fun q => hw (Or.inr q)
    rw [nI_leI (by decide) hj] at h2
    exact vp_in_nI (by omega) (by decide)
set_option maxRecDepth 10000 in
theorem s_tr_readPart (l : Launch) (x : Bool) (I : Nat → Nat → Int32) (L : Nat → Nat → Int64) (a n : Nat) (ha : I 1 4 = nI a) (hn : I 1 3 = nI n) (ha2 : a ≤ n) (hn2 : n ≤ 60) (z : Nat) (hz : I 4 5 = nI z) (hz2 : z ≤ 4) : qSp l y_tr_readPart b_tr_readPart 3 none x 7 0 0 [.ref 1] 77 (fm I L) (qD none 77 (fm (u_part I a n z) L)) := by
  have hb := u_bl_ok I ha2
  have hpe := u_pe_ok (I := I) ha2
  have hr2 := rok_p2 (n := n) ha ha2 hz hz2
  have hr4 := rok_p4 (n := n) ha ha2 hz hz2
  have h14 : u_p2 I a n 1 4 = nI (u_pe I a n) := wI_at _ _ _ _
  have h13 : u_p2 I a n 1 3 = nI n := hr2.2.1.trans hn
  refine qSp_of (ini := false) (by decide +kernel) (fun h => nomatch h) (Nat.le_of_ble_eq_true rfl) ?_
  refine qr_aload_n (pc := 0) d_tr_readPart_0 rfl rfl ?_
  refine qr_callV (q := 1) (As := []) (pc := 1) d_tr_readPart_1 lk_tr_45 im_tr_skipBlanks se_tr_skipBlanks rfl (by decide) (by decide) (c_1 _ _) (s_tr_skipBlanksF _ x I L a n ha hn ha2 hn2) rfl rfl (Nat.le_of_ble_eq_true rfl) (Nat.le_of_ble_eq_true rfl) (Nat.le_of_ble_eq_true rfl) (Nat.zero_le _) (Nat.zero_le _) (fun h => ⟨h, rfl, Or.inl rfl⟩) (fun v n9 f9 hE => ?_)
  obtain ⟨rfl, rfl, rfl⟩ := hE
  refine qr_aload_n (pc := 4) d_tr_readPart_4 rfl rfl ?_
  refine qr_get (v := .int (nI (u_bl I a n))) (pc := 5) d_tr_readPart_5 fl_tr_30 (by decide) (by decide) (c_1 _ _) (congrArg (fun t => some (Value.int t)) (wI_at I 1 4 _)) ?_
  refine qr_istore_n (lv' := [(1, .int (nI (u_bl I a n))), (0, .ref 1)]) (pc := 8) d_tr_readPart_8 rfl (Nat.le_of_ble_eq_true rfl) rfl ?_
  refine qr_aload_n (pc := 9) d_tr_readPart_9 rfl rfl ?_
  refine qr_callV (q := 1) (As := []) (pc := 10) d_tr_readPart_10 lk_tr_48 im_tr_skipLetters se_tr_skipLetters rfl (by decide) (by decide) (c_1 _ _) (s_tr_skipLettersF _ x (u_p1 I a n) L (u_bl I a n) n (wI_at I 1 4 _) ((wI_ne (Or.inr (by decide))).trans hn) hb.2.2.2 hn2) rfl rfl (Nat.le_of_ble_eq_true rfl) (Nat.le_of_ble_eq_true rfl) (Nat.le_of_ble_eq_true rfl) (Nat.zero_le _) (Nat.zero_le _) (fun h => ⟨h, rfl, Or.inl rfl⟩) (fun v n9 f9 hE => ?_)
  obtain ⟨rfl, rfl, rfl⟩ := hE
  refine qr_aload_n (pc := 13) d_tr_readPart_13 rfl rfl ?_
  refine qr_get (v := .int (nI (u_pe I a n))) (pc := 14) d_tr_readPart_14 fl_tr_30 (by decide) (by decide) (c_1 _ _) (congrArg (fun t => some (Value.int t)) h14) ?_
  refine qr_iload_n (pc := 17) d_tr_readPart_17 rfl rfl ?_
  refine qr_icmp_ne (tgt := 30) (pc := 18) d_tr_readPart_18 (by decide) (fun h18 => ?_) (fun h18 => ?_)
  rotate_left
  · have e18 : u_pe I a n = u_bl I a n := (nI_eq (by omega) (by omega)).mp (by first | exact h18 | exact Decidable.not_not.mp h18)
    refine qr_aload_n (pc := 21) d_tr_readPart_21 rfl rfl ?_
    refine qr_aload_n (pc := 22) d_tr_readPart_22 rfl rfl ?_
    refine qr_get (v := .int (nI (u_pe I a n))) (pc := 23) d_tr_readPart_23 fl_tr_30 (by decide) (by decide) (c_1 _ _) (congrArg (fun t => some (Value.int t)) h14) ?_
    refine qr_putI (pc := 26) d_tr_readPart_26 fl_tr_36 (by decide) (by decide) (c_1 _ _) (Nat.le_of_ble_eq_true rfl) (qFit_i _) (fun w => rfl) ?_
    exact qr_vret (pc := 29) d_tr_readPart_29 rfl ⟨rfl, rfl, by rw [u_part, if_pos e18]; rfl⟩ (Nat.zero_le _) (Nat.zero_le _)
  have e18 : ¬ u_pe I a n = u_bl I a n := fun q => h18 (by rw [q])
  refine qr_aload_n (pc := 30) d_tr_readPart_30 rfl rfl ?_
  refine qr_iload_n (pc := 31) d_tr_readPart_31 rfl rfl ?_
  refine qr_aload_n (pc := 32) d_tr_readPart_32 rfl rfl ?_
  refine qr_get (v := .int (nI (u_pe I a n))) (pc := 33) d_tr_readPart_33 fl_tr_30 (by decide) (by decide) (c_1 _ _) (congrArg (fun t => some (Value.int t)) h14) ?_
  refine qr_callV (q := 1) (As := [.int (nI (u_bl I a n)), .int (nI (u_pe I a n))]) (pc := 36) d_tr_readPart_36 lk_tr_51 im_tr_wordBetween se_tr_wordBetween rfl (by decide) (by decide) (c_1 _ _) (s_tr_wordBetween _ x (u_p2 I a n) L (u_bl I a n) (u_pe I a n) hpe.1 (Nat.le_trans hpe.2 hn2)) rfl rfl (Nat.le_of_ble_eq_true rfl) (Nat.le_of_ble_eq_true rfl) (Nat.le_of_ble_eq_true rfl) (Nat.zero_le _) (Nat.zero_le _) (fun h => ⟨h, rfl, Or.inl rfl⟩) (fun v n9 f9 hE => ?_)
  obtain ⟨rfl, rfl, rfl⟩ := hE
  refine qr_istore_n (lv' := [(2, .int (u_pw I a n)), (1, .int (nI (u_bl I a n))), (0, .ref 1)]) (pc := 39) d_tr_readPart_39 rfl (Nat.le_of_ble_eq_true rfl) rfl ?_
  refine qr_aload_n (pc := 40) d_tr_readPart_40 rfl rfl ?_
  refine qr_iload_n (pc := 41) d_tr_readPart_41 rfl rfl ?_
  refine qr_callV (q := 1) (As := [.int (u_pw I a n)]) (pc := 42) d_tr_readPart_42 lk_tr_55 im_tr_canStand se_tr_canStand rfl (by decide) (by decide) (c_1 _ _) (s_tr_canStand _ x (u_p2 I a n) L (u_pw I a n)) rfl rfl (Nat.le_of_ble_eq_true rfl) (Nat.le_of_ble_eq_true rfl) (Nat.le_of_ble_eq_true rfl) (Nat.zero_le _) (Nat.zero_le _) (fun h => ⟨h, rfl, Or.inl rfl⟩) (fun v n9 f9 hE => ?_)
  obtain ⟨rfl, rfl, rfl⟩ := hE
  refine qr_if_ne (tgt := 54) (pc := 45) d_tr_readPart_45 (by decide) (fun h45 => ?_) (fun h45 => ?_)
  rotate_left
  · refine qr_aload_n (pc := 48) d_tr_readPart_48 rfl rfl ?_
    refine qr_iload_n (pc := 49) d_tr_readPart_49 rfl rfl ?_
    refine qr_putI (pc := 50) d_tr_readPart_50 fl_tr_36 (by decide) (by decide) (c_1 _ _) (Nat.le_of_ble_eq_true rfl) (qFit_i _) (fun w => rfl) ?_
    exact qr_vret (pc := 53) d_tr_readPart_53 rfl ⟨rfl, rfl, by rw [u_part, if_neg e18, if_pos h45]⟩ (Nat.zero_le _) (Nat.zero_le _)
  have hin : vp_in (u_pw I a n) 6 := u_can_in h45
  refine qr_aload_n (pc := 54) d_tr_readPart_54 rfl rfl ?_
  refine qr_get (v := .ref 3) (pc := 55) d_tr_readPart_55 fl_tr_15 (by decide) (by decide) (c_1 _ _) rfl ?_
  refine qr_iload_n (pc := 58) d_tr_readPart_58 rfl rfl ?_
  refine qr_iconst (v := 1) (pc := 59) d_tr_readPart_59 (by decide) ?_
  refine qr_zastM (j := (u_pw I a n).toNatClampNeg) (pc := 60) d_tr_readPart_60 (by decide) (by decide) (c_3 _ _) hin rfl (fun w => rfl) ?_
  refine qr_aload_n (pc := 61) d_tr_readPart_61 rfl rfl ?_
  refine qr_iload_n (pc := 62) d_tr_readPart_62 rfl rfl ?_
  refine qr_callV (q := 1) (As := [.int (u_pw I a n)]) (pc := 63) d_tr_readPart_63 lk_tr_59 im_tr_readNumbers se_tr_readNumbers rfl (by decide) (by decide) (c_1 _ _) (s_tr_readNumbers _ x (u_p3 I a n) L (u_pe I a n) n ((wI_ne (Or.inl (by decide))).trans h14) ((wI_ne (Or.inl (by decide))).trans h13) hpe.2 hn2 z (by rw [u_p3, wI_ne (Or.inl (by decide)), u_p2, wI_ne (Or.inl (by decide)), u_p1, wI_ne (Or.inl (by decide))]; exact hz) hz2 (u_pw I a n)) rfl rfl (Nat.le_of_ble_eq_true rfl) (Nat.le_of_ble_eq_true rfl) (Nat.le_of_ble_eq_true rfl) (Nat.zero_le _) (Nat.zero_le _) (fun h => ⟨h, rfl, Or.inl rfl⟩) (fun v n9 f9 hE => ?_)
  obtain ⟨rfl, rfl, rfl⟩ := hE
  refine qr_aload_n (pc := 66) d_tr_readPart_66 rfl rfl ?_
  refine qr_get (v := .int (u_p4 I a n z 1 6)) (pc := 67) d_tr_readPart_67 fl_tr_36 (by decide) (by decide) (c_1 _ _) rfl ?_
  refine qr_bipush (v := (-2)) (pc := 70) d_tr_readPart_70 (by decide) ?_
  refine qr_icmp_ne (tgt := 80) (pc := 72) d_tr_readPart_72 (by decide) (fun h72 => ?_) (fun h72 => ?_)
  · exact qr_vret (pc := 80) d_tr_readPart_80 rfl ⟨rfl, rfl, by rw [u_part, if_neg e18, if_neg h45, if_pos h72]; rfl⟩ (Nat.zero_le _) (Nat.zero_le _)
  · refine qr_aload_n (pc := 75) d_tr_readPart_75 rfl rfl ?_
    refine qr_iload_n (pc := 76) d_tr_readPart_76 rfl rfl ?_
    refine qr_callV (q := 1) (As := [.int (u_pw I a n)]) (pc := 77) d_tr_readPart_77 lk_tr_63 im_tr_readEndOfPart se_tr_readEndOfPart rfl (by decide) (by decide) (c_1 _ _) (s_tr_readEndOfPartF _ x (u_p4 I a n z) L (aof (u_p4 I a n z)) n (aof_ok hn2 hr4).1 (hr4.2.1.trans hn) (aof_ok hn2 hr4).2 hn2 (u_pw I a n)) rfl rfl (Nat.le_of_ble_eq_true rfl) (Nat.le_of_ble_eq_true rfl) (Nat.le_of_ble_eq_true rfl) (Nat.zero_le _) (Nat.zero_le _) (fun h => ⟨h, rfl, Or.inl rfl⟩) (fun v n9 f9 hE => ?_)
    obtain ⟨rfl, rfl, rfl⟩ := hE
    exact qr_vret (pc := 80) d_tr_readPart_80 rfl ⟨rfl, rfl, by rw [u_part, if_neg e18, if_neg h45, if_neg (fun q => q (by first | exact h72 | exact Decidable.not_not.mp h72))]; rfl⟩ (Nat.zero_le _) (Nat.zero_le _)
/-- the loop of readAll: at most so many PARTS more -/
def u_stp (I : Nat → Nat → Int32) (n : Nat) : Nat → Nat → Int32 := wI (u_part I (aof I) n (tof I)) 1 5 (u_part I (aof I) n (tof I) 1 5 + 1)
def u_rl (n : Nat) : Nat → (Nat → Nat → Int32) → Nat → Nat → Int32
  | 0, I => I
  | j + 1, I => if I 1 6 = -2 ∧ I 3 5 = 0 ∧ ¬ 60 < I 1 5 then u_rl n j (u_stp I n) else I
def u_ri (I : Nat → Nat → Int32) : Nat → Nat → Int32 := wI (wI (wI (wI (wI (wI (wI (wI (wI (wI (wI (wI (wI (wI (wI (wI I 1 6 (-2)) 1 4 0) 1 5 0) 4 0 0) 4 1 0) 4 2 0) 4 3 0) 4 4 0) 4 5 0) 4 8 0) 3 0 (vp_nar .boolean 0)) 3 1 (vp_nar .boolean 0)) 3 2 (vp_nar .boolean 0)) 3 3 (vp_nar .boolean 0)) 3 4 (vp_nar .boolean 0)) 3 5 (vp_nar .boolean 0)
/-- readAll: the state behind it -/
def u_ra9 (I : Nat → Nat → Int32) (n : Nat) : Nat → Nat → Int32 := u_rl n 62 (u_ri I)
theorem rok_stp {n : Nat} {I : Nat → Nat → Int32} (hn2 : n ≤ 60) (h : rok n I I) : (∃ a, a ≤ n ∧ u_stp I n 1 4 = nI a) ∧ u_stp I n 1 3 = I 1 3 ∧ u_stp I n 1 5 = I 1 5 + 1 ∧ (∃ z, z ≤ 4 ∧ u_stp I n 4 5 = nI z) ∧ ∀ k, k ≠ 1 → k ≠ 3 → k ≠ 4 → k ≠ 5 → k ≠ 6 → u_stp I n k = I k := by
  have ha := aof_ok hn2 h
  have ht := tof_ok h
  obtain ⟨⟨a, h1, h2⟩, h3, h4, ⟨z, h5, h6⟩, h7⟩ := rok_part hn2 ha.1 ha.2 ht.1 ht.2
  unfold u_stp
  refine ⟨⟨a, h1, (wI_ne (by omega)).trans h2⟩, (wI_ne (by omega)).trans h3, (wI_at _ _ _ _).trans (by rw [h4]), ⟨z, h5, (wI_ne (by omega)).trans h6⟩, fun k k1 k3 k4 k5 k6 => ?_⟩
  rw [wI_c9 k1]
  exact h7 k k1 k3 k4 k5 k6
set_option maxRecDepth 10000 in
theorem s_tr_readAll (l : Launch) (x : Bool) (I : Nat → Nat → Int32) (L : Nat → Nat → Int64) (n : Nat) (hn : I 1 3 = nI n) (hn2 : n ≤ 60) : qSp l y_tr_readAll b_tr_readAll 2 (some .boolean) x 8 0 0 [.ref 1] 77 (fm I L) (qD (some (.int (if u_ra9 I n 1 6 = -2 then 1 else 0))) 77 (fm (u_ra9 I n) L)) := by
  have loop : ∀ (j k : Nat) (J : Nat → Nat → Int32), k + j = 62 → J 1 3 = nI n → J 1 5 = nI k → rok n J J → u_rl n j J = u_ra9 I n → qR (l, y_tr_readAll.cls, b_tr_readAll, 2, (some .boolean), false, x, 8, 0, 0, 77, q0) (qD (some (.int (if u_ra9 I n 1 6 = -2 then 1 else 0))) 77 (fm (u_ra9 I n) L)) (fun _ _ _ => False) 44 [(0, .ref 1)] [] 77 0 0 (fm J L) := by
    intro j
    induction j with
    | zero =>
      intro k J hk h13 h15 hr he
      have hk61 : (60 : Int32) < J 1 5 := by rw [h15]; exact nI_lt (a := 60) (by omega) (by omega)
      refine qr_aload_n (pc := 44) d_tr_readAll_44 rfl rfl ?_
      refine qr_get (v := .int (J 1 6)) (pc := 45) d_tr_readAll_45 fl_tr_36 (by decide) (by decide) (c_1 _ _) rfl ?_
      refine qr_bipush (v := (-2)) (pc := 48) d_tr_readAll_48 (by decide) ?_
      refine qr_icmp_ne (tgt := 88) (pc := 50) d_tr_readAll_50 (by decide) (fun h50 => ?_) (fun h50 => ?_)
      · skip
        have he2 : J = u_ra9 I n := by rw [← he, u_rl]
        refine qr_aload_n (pc := 88) d_tr_readAll_88 rfl rfl ?_
        refine qr_get (v := .int (J 1 6)) (pc := 89) d_tr_readAll_89 fl_tr_36 (by decide) (by decide) (c_1 _ _) rfl ?_
        refine qr_bipush (v := (-2)) (pc := 92) d_tr_readAll_92 (by decide) ?_
        refine qr_icmp_ne (tgt := 101) (pc := 94) d_tr_readAll_94 (by decide) (fun h94 => ?_) (fun h94 => ?_)
        · refine qr_iconst (v := 0) (pc := 101) d_tr_readAll_101 (by decide) ?_
          exact qr_iret (pc := 102) d_tr_readAll_102 rfl rfl ⟨by rw [← he2, if_neg h94], rfl, by rw [he2]⟩ (Nat.zero_le _) (Nat.zero_le _)
        · refine qr_iconst (v := 1) (pc := 97) d_tr_readAll_97 (by decide) ?_
          refine qr_goto (tgt := 102) (pc := 98) d_tr_readAll_98 (by decide) ?_
          exact qr_iret (pc := 102) d_tr_readAll_102 rfl rfl ⟨by rw [← he2, if_pos (by first | exact h94 | exact Decidable.not_not.mp h94)], rfl, by rw [he2]⟩ (Nat.zero_le _) (Nat.zero_le _)
      refine qr_aload_n (pc := 53) d_tr_readAll_53 rfl rfl ?_
      refine qr_get (v := .ref 3) (pc := 54) d_tr_readAll_54 fl_tr_15 (by decide) (by decide) (c_1 _ _) rfl ?_
      refine qr_iconst (v := 5) (pc := 57) d_tr_readAll_57 (by decide) ?_
      refine qr_zaldN (j := 5) (pc := 58) d_tr_readAll_58 (by decide) (by decide) (c_3 _ _) (by decide) (by decide) ?_
      refine qr_if_ne (tgt := 88) (pc := 59) d_tr_readAll_59 (by decide) (fun h59 => ?_) (fun h59 => ?_)
      · skip
        have he2 : J = u_ra9 I n := by rw [← he, u_rl]
        refine qr_aload_n (pc := 88) d_tr_readAll_88 rfl rfl ?_
        refine qr_get (v := .int (J 1 6)) (pc := 89) d_tr_readAll_89 fl_tr_36 (by decide) (by decide) (c_1 _ _) rfl ?_
        refine qr_bipush (v := (-2)) (pc := 92) d_tr_readAll_92 (by decide) ?_
        refine qr_icmp_ne (tgt := 101) (pc := 94) d_tr_readAll_94 (by decide) (fun h94 => ?_) (fun h94 => ?_)
        · refine qr_iconst (v := 0) (pc := 101) d_tr_readAll_101 (by decide) ?_
          exact qr_iret (pc := 102) d_tr_readAll_102 rfl rfl ⟨by rw [← he2, if_neg h94], rfl, by rw [he2]⟩ (Nat.zero_le _) (Nat.zero_le _)
        · refine qr_iconst (v := 1) (pc := 97) d_tr_readAll_97 (by decide) ?_
          refine qr_goto (tgt := 102) (pc := 98) d_tr_readAll_98 (by decide) ?_
          exact qr_iret (pc := 102) d_tr_readAll_102 rfl rfl ⟨by rw [← he2, if_pos (by first | exact h94 | exact Decidable.not_not.mp h94)], rfl, by rw [he2]⟩ (Nat.zero_le _) (Nat.zero_le _)
      refine qr_aload_n (pc := 62) d_tr_readAll_62 rfl rfl ?_
      refine qr_get (v := .int (J 1 5)) (pc := 63) d_tr_readAll_63 fl_tr_33 (by decide) (by decide) (c_1 _ _) rfl ?_
      refine qr_bipush (v := 60) (pc := 66) d_tr_readAll_66 (by decide) ?_
      refine qr_icmp_gt (tgt := 88) (pc := 68) d_tr_readAll_68 (by decide) (fun h68 => ?_) (fun h68 => ?_)
      · skip
        have he2 : J = u_ra9 I n := by rw [← he, u_rl]
        refine qr_aload_n (pc := 88) d_tr_readAll_88 rfl rfl ?_
        refine qr_get (v := .int (J 1 6)) (pc := 89) d_tr_readAll_89 fl_tr_36 (by decide) (by decide) (c_1 _ _) rfl ?_
        refine qr_bipush (v := (-2)) (pc := 92) d_tr_readAll_92 (by decide) ?_
        refine qr_icmp_ne (tgt := 101) (pc := 94) d_tr_readAll_94 (by decide) (fun h94 => ?_) (fun h94 => ?_)
        · refine qr_iconst (v := 0) (pc := 101) d_tr_readAll_101 (by decide) ?_
          exact qr_iret (pc := 102) d_tr_readAll_102 rfl rfl ⟨by rw [← he2, if_neg h94], rfl, by rw [he2]⟩ (Nat.zero_le _) (Nat.zero_le _)
        · refine qr_iconst (v := 1) (pc := 97) d_tr_readAll_97 (by decide) ?_
          refine qr_goto (tgt := 102) (pc := 98) d_tr_readAll_98 (by decide) ?_
          exact qr_iret (pc := 102) d_tr_readAll_102 rfl rfl ⟨by rw [← he2, if_pos (by first | exact h94 | exact Decidable.not_not.mp h94)], rfl, by rw [he2]⟩ (Nat.zero_le _) (Nat.zero_le _)
      exact absurd hk61 h68
    | succ j ih =>
      intro k J hk h13 h15 hr he
      refine qr_aload_n (pc := 44) d_tr_readAll_44 rfl rfl ?_
      refine qr_get (v := .int (J 1 6)) (pc := 45) d_tr_readAll_45 fl_tr_36 (by decide) (by decide) (c_1 _ _) rfl ?_
      refine qr_bipush (v := (-2)) (pc := 48) d_tr_readAll_48 (by decide) ?_
      refine qr_icmp_ne (tgt := 88) (pc := 50) d_tr_readAll_50 (by decide) (fun h50 => ?_) (fun h50 => ?_)
      · skip
        have he2 : J = u_ra9 I n := by rw [← he, u_rl, if_neg (fun q => h50 q.1)]
        refine qr_aload_n (pc := 88) d_tr_readAll_88 rfl rfl ?_
        refine qr_get (v := .int (J 1 6)) (pc := 89) d_tr_readAll_89 fl_tr_36 (by decide) (by decide) (c_1 _ _) rfl ?_
        refine qr_bipush (v := (-2)) (pc := 92) d_tr_readAll_92 (by decide) ?_
        refine qr_icmp_ne (tgt := 101) (pc := 94) d_tr_readAll_94 (by decide) (fun h94 => ?_) (fun h94 => ?_)
        · refine qr_iconst (v := 0) (pc := 101) d_tr_readAll_101 (by decide) ?_
          exact qr_iret (pc := 102) d_tr_readAll_102 rfl rfl ⟨by rw [← he2, if_neg h94], rfl, by rw [he2]⟩ (Nat.zero_le _) (Nat.zero_le _)
        · refine qr_iconst (v := 1) (pc := 97) d_tr_readAll_97 (by decide) ?_
          refine qr_goto (tgt := 102) (pc := 98) d_tr_readAll_98 (by decide) ?_
          exact qr_iret (pc := 102) d_tr_readAll_102 rfl rfl ⟨by rw [← he2, if_pos (by first | exact h94 | exact Decidable.not_not.mp h94)], rfl, by rw [he2]⟩ (Nat.zero_le _) (Nat.zero_le _)
      refine qr_aload_n (pc := 53) d_tr_readAll_53 rfl rfl ?_
      refine qr_get (v := .ref 3) (pc := 54) d_tr_readAll_54 fl_tr_15 (by decide) (by decide) (c_1 _ _) rfl ?_
      refine qr_iconst (v := 5) (pc := 57) d_tr_readAll_57 (by decide) ?_
      refine qr_zaldN (j := 5) (pc := 58) d_tr_readAll_58 (by decide) (by decide) (c_3 _ _) (by decide) (by decide) ?_
      refine qr_if_ne (tgt := 88) (pc := 59) d_tr_readAll_59 (by decide) (fun h59 => ?_) (fun h59 => ?_)
      · skip
        have he2 : J = u_ra9 I n := by rw [← he, u_rl, if_neg (fun q => h59 q.2.1)]
        refine qr_aload_n (pc := 88) d_tr_readAll_88 rfl rfl ?_
        refine qr_get (v := .int (J 1 6)) (pc := 89) d_tr_readAll_89 fl_tr_36 (by decide) (by decide) (c_1 _ _) rfl ?_
        refine qr_bipush (v := (-2)) (pc := 92) d_tr_readAll_92 (by decide) ?_
        refine qr_icmp_ne (tgt := 101) (pc := 94) d_tr_readAll_94 (by decide) (fun h94 => ?_) (fun h94 => ?_)
        · refine qr_iconst (v := 0) (pc := 101) d_tr_readAll_101 (by decide) ?_
          exact qr_iret (pc := 102) d_tr_readAll_102 rfl rfl ⟨by rw [← he2, if_neg h94], rfl, by rw [he2]⟩ (Nat.zero_le _) (Nat.zero_le _)
        · refine qr_iconst (v := 1) (pc := 97) d_tr_readAll_97 (by decide) ?_
          refine qr_goto (tgt := 102) (pc := 98) d_tr_readAll_98 (by decide) ?_
          exact qr_iret (pc := 102) d_tr_readAll_102 rfl rfl ⟨by rw [← he2, if_pos (by first | exact h94 | exact Decidable.not_not.mp h94)], rfl, by rw [he2]⟩ (Nat.zero_le _) (Nat.zero_le _)
      refine qr_aload_n (pc := 62) d_tr_readAll_62 rfl rfl ?_
      refine qr_get (v := .int (J 1 5)) (pc := 63) d_tr_readAll_63 fl_tr_33 (by decide) (by decide) (c_1 _ _) rfl ?_
      refine qr_bipush (v := 60) (pc := 66) d_tr_readAll_66 (by decide) ?_
      refine qr_icmp_gt (tgt := 88) (pc := 68) d_tr_readAll_68 (by decide) (fun h68 => ?_) (fun h68 => ?_)
      · skip
        have he2 : J = u_ra9 I n := by rw [← he, u_rl, if_neg (fun q => q.2.2 h68)]
        refine qr_aload_n (pc := 88) d_tr_readAll_88 rfl rfl ?_
        refine qr_get (v := .int (J 1 6)) (pc := 89) d_tr_readAll_89 fl_tr_36 (by decide) (by decide) (c_1 _ _) rfl ?_
        refine qr_bipush (v := (-2)) (pc := 92) d_tr_readAll_92 (by decide) ?_
        refine qr_icmp_ne (tgt := 101) (pc := 94) d_tr_readAll_94 (by decide) (fun h94 => ?_) (fun h94 => ?_)
        · refine qr_iconst (v := 0) (pc := 101) d_tr_readAll_101 (by decide) ?_
          exact qr_iret (pc := 102) d_tr_readAll_102 rfl rfl ⟨by rw [← he2, if_neg h94], rfl, by rw [he2]⟩ (Nat.zero_le _) (Nat.zero_le _)
        · refine qr_iconst (v := 1) (pc := 97) d_tr_readAll_97 (by decide) ?_
          refine qr_goto (tgt := 102) (pc := 98) d_tr_readAll_98 (by decide) ?_
          exact qr_iret (pc := 102) d_tr_readAll_102 rfl rfl ⟨by rw [← he2, if_pos (by first | exact h94 | exact Decidable.not_not.mp h94)], rfl, by rw [he2]⟩ (Nat.zero_le _) (Nat.zero_le _)
      have hstp := rok_stp hn2 hr
      have hj : u_rl n j (u_stp J n) = u_ra9 I n := by rw [← he, u_rl, if_pos ⟨by first | exact h50 | exact Decidable.not_not.mp h50, h59, h68⟩]
      refine qr_aload_n (pc := 71) d_tr_readAll_71 rfl rfl ?_
      refine qr_callV (q := 1) (As := []) (pc := 72) d_tr_readAll_72 lk_tr_42 im_tr_readPart se_tr_readPart rfl (by decide) (by decide) (c_1 _ _) (s_tr_readPart _ x J L (aof J) n (aof_ok hn2 hr).1 h13 (aof_ok hn2 hr).2 hn2 (tof J) (tof_ok hr).1 (tof_ok hr).2) rfl rfl (Nat.le_of_ble_eq_true rfl) (Nat.le_of_ble_eq_true rfl) (Nat.le_of_ble_eq_true rfl) (Nat.zero_le _) (Nat.zero_le _) (fun h => ⟨h, rfl, Or.inl rfl⟩) (fun v n9 f9 hE => ?_)
      obtain ⟨rfl, rfl, rfl⟩ := hE
      refine qr_aload_n (pc := 75) d_tr_readAll_75 rfl rfl ?_
      refine qr_dup (pc := 76) d_tr_readAll_76 rfl ?_
      refine qr_get (v := .int (u_part J (aof J) n (tof J) 1 5)) (pc := 77) d_tr_readAll_77 fl_tr_33 (by decide) (by decide) (c_1 _ _) rfl ?_
      refine qr_iconst (v := 1) (pc := 80) d_tr_readAll_80 (by decide) ?_
      refine qr_iadd (pc := 81) d_tr_readAll_81 ?_
      refine qr_putI (pc := 82) d_tr_readAll_82 fl_tr_33 (by decide) (by decide) (c_1 _ _) (Nat.le_of_ble_eq_true rfl) (qFit_i _) (fun w => rfl) ?_
      refine qr_goto (tgt := 44) (pc := 85) d_tr_readAll_85 (by decide) ?_
      obtain ⟨hs1, hs2, hs3, hs4, hs5⟩ := hstp
      exact ih (k + 1) (u_stp J n) (by omega) (hs2.trans h13) (hs3.trans (by rw [h15]; exact nI_1 k)) ⟨hs1, rfl, rfl, hs4, fun _ _ _ _ _ _ => rfl⟩ hj
  refine qSp_of (ini := false) (by decide +kernel) (fun h => nomatch h) (Nat.le_of_ble_eq_true rfl) ?_
  refine qr_aload_n (pc := 0) d_tr_readAll_0 rfl rfl ?_
  refine qr_bipush (v := (-2)) (pc := 1) d_tr_readAll_1 (by decide) ?_
  refine qr_putI (pc := 3) d_tr_readAll_3 fl_tr_36 (by decide) (by decide) (c_1 _ _) (Nat.le_of_ble_eq_true rfl) (qFit_i _) (fun w => rfl) ?_
  refine qr_aload_n (pc := 6) d_tr_readAll_6 rfl rfl ?_
  refine qr_iconst (v := 0) (pc := 7) d_tr_readAll_7 (by decide) ?_
  refine qr_putI (pc := 8) d_tr_readAll_8 fl_tr_30 (by decide) (by decide) (c_1 _ _) (Nat.le_of_ble_eq_true rfl) (qFit_i _) (fun w => rfl) ?_
  refine qr_aload_n (pc := 11) d_tr_readAll_11 rfl rfl ?_
  refine qr_iconst (v := 0) (pc := 12) d_tr_readAll_12 (by decide) ?_
  refine qr_putI (pc := 13) d_tr_readAll_13 fl_tr_33 (by decide) (by decide) (c_1 _ _) (Nat.le_of_ble_eq_true rfl) (qFit_i _) (fun w => rfl) ?_
  refine qr_aload_n (pc := 16) d_tr_readAll_16 rfl rfl ?_
  refine qr_get (v := .ref 4) (pc := 17) d_tr_readAll_17 fl_tr_22 (by decide) (by decide) (c_1 _ _) rfl ?_
  refine qr_callV (q := 4) (As := []) (pc := 20) d_tr_readAll_20 lk_tr_39 im_tf_clear se_tf_clear rfl (by decide) (by decide) (c_4 _ _) (s_tf_clear _ x _ _) rfl rfl (Nat.le_of_ble_eq_true rfl) (Nat.le_of_ble_eq_true rfl) (Nat.le_of_ble_eq_true rfl) (Nat.zero_le _) (Nat.zero_le _) (fun h => ⟨h, rfl, Or.inl rfl⟩) (fun v n9 f9 hE => ?_)
  obtain ⟨rfl, rfl, rfl⟩ := hE
  refine qr_iconst (v := 0) (pc := 23) d_tr_readAll_23 (by decide) ?_
  refine qr_istore_n (lv' := [(1, .int 0), (0, .ref 1)]) (pc := 24) d_tr_readAll_24 rfl (Nat.le_of_ble_eq_true rfl) rfl ?_
  refine qr_iload_n (pc := 25) d_tr_readAll_25 rfl rfl ?_
  refine qr_bipush (v := 6) (pc := 26) d_tr_readAll_26 (by decide) ?_
  refine qr_icmp_ge (tgt := 44) (pc := 28) d_tr_readAll_28 (by decide) (fun h => absurd h (by decide)) (fun _ => ?_)
  refine qr_aload_n (pc := 31) d_tr_readAll_31 rfl rfl ?_
  refine qr_get (v := .ref 3) (pc := 32) d_tr_readAll_32 fl_tr_15 (by decide) (by decide) (c_1 _ _) rfl ?_
  refine qr_iload_n (pc := 35) d_tr_readAll_35 rfl rfl ?_
  refine qr_iconst (v := 0) (pc := 36) d_tr_readAll_36 (by decide) ?_
  refine qr_zastMN (j := 0) (pc := 37) d_tr_readAll_37 (by decide) (by decide) (c_3 _ _) (by decide) (by decide) (fun w => rfl) ?_
  refine qr_iinc (v := 1) (lv' := [(1, .int 1), (0, .ref 1)]) (pc := 38) d_tr_readAll_38 rfl (by decide) (Nat.le_of_ble_eq_true rfl) rfl ?_
  refine qr_goto (tgt := 25) (pc := 41) d_tr_readAll_41 (by decide) ?_
  refine qr_iload_n (pc := 25) d_tr_readAll_25 rfl rfl ?_
  refine qr_bipush (v := 6) (pc := 26) d_tr_readAll_26 (by decide) ?_
  refine qr_icmp_ge (tgt := 44) (pc := 28) d_tr_readAll_28 (by decide) (fun h => absurd h (by decide)) (fun _ => ?_)
  refine qr_aload_n (pc := 31) d_tr_readAll_31 rfl rfl ?_
  refine qr_get (v := .ref 3) (pc := 32) d_tr_readAll_32 fl_tr_15 (by decide) (by decide) (c_1 _ _) rfl ?_
  refine qr_iload_n (pc := 35) d_tr_readAll_35 rfl rfl ?_
  refine qr_iconst (v := 0) (pc := 36) d_tr_readAll_36 (by decide) ?_
  refine qr_zastMN (j := 1) (pc := 37) d_tr_readAll_37 (by decide) (by decide) (c_3 _ _) (by decide) (by decide) (fun w => rfl) ?_
  refine qr_iinc (v := 2) (lv' := [(1, .int 2), (0, .ref 1)]) (pc := 38) d_tr_readAll_38 rfl (by decide) (Nat.le_of_ble_eq_true rfl) rfl ?_
  refine qr_goto (tgt := 25) (pc := 41) d_tr_readAll_41 (by decide) ?_
  refine qr_iload_n (pc := 25) d_tr_readAll_25 rfl rfl ?_
  refine qr_bipush (v := 6) (pc := 26) d_tr_readAll_26 (by decide) ?_
  refine qr_icmp_ge (tgt := 44) (pc := 28) d_tr_readAll_28 (by decide) (fun h => absurd h (by decide)) (fun _ => ?_)
  refine qr_aload_n (pc := 31) d_tr_readAll_31 rfl rfl ?_
  refine qr_get (v := .ref 3) (pc := 32) d_tr_readAll_32 fl_tr_15 (by decide) (by decide) (c_1 _ _) rfl ?_
  refine qr_iload_n (pc := 35) d_tr_readAll_35 rfl rfl ?_
  refine qr_iconst (v := 0) (pc := 36) d_tr_readAll_36 (by decide) ?_
  refine qr_zastMN (j := 2) (pc := 37) d_tr_readAll_37 (by decide) (by decide) (c_3 _ _) (by decide) (by decide) (fun w => rfl) ?_
  refine qr_iinc (v := 3) (lv' := [(1, .int 3), (0, .ref 1)]) (pc := 38) d_tr_readAll_38 rfl (by decide) (Nat.le_of_ble_eq_true rfl) rfl ?_
  refine qr_goto (tgt := 25) (pc := 41) d_tr_readAll_41 (by decide) ?_
  refine qr_iload_n (pc := 25) d_tr_readAll_25 rfl rfl ?_
  refine qr_bipush (v := 6) (pc := 26) d_tr_readAll_26 (by decide) ?_
  refine qr_icmp_ge (tgt := 44) (pc := 28) d_tr_readAll_28 (by decide) (fun h => absurd h (by decide)) (fun _ => ?_)
  refine qr_aload_n (pc := 31) d_tr_readAll_31 rfl rfl ?_
  refine qr_get (v := .ref 3) (pc := 32) d_tr_readAll_32 fl_tr_15 (by decide) (by decide) (c_1 _ _) rfl ?_
  refine qr_iload_n (pc := 35) d_tr_readAll_35 rfl rfl ?_
  refine qr_iconst (v := 0) (pc := 36) d_tr_readAll_36 (by decide) ?_
  refine qr_zastMN (j := 3) (pc := 37) d_tr_readAll_37 (by decide) (by decide) (c_3 _ _) (by decide) (by decide) (fun w => rfl) ?_
  refine qr_iinc (v := 4) (lv' := [(1, .int 4), (0, .ref 1)]) (pc := 38) d_tr_readAll_38 rfl (by decide) (Nat.le_of_ble_eq_true rfl) rfl ?_
  refine qr_goto (tgt := 25) (pc := 41) d_tr_readAll_41 (by decide) ?_
  refine qr_iload_n (pc := 25) d_tr_readAll_25 rfl rfl ?_
  refine qr_bipush (v := 6) (pc := 26) d_tr_readAll_26 (by decide) ?_
  refine qr_icmp_ge (tgt := 44) (pc := 28) d_tr_readAll_28 (by decide) (fun h => absurd h (by decide)) (fun _ => ?_)
  refine qr_aload_n (pc := 31) d_tr_readAll_31 rfl rfl ?_
  refine qr_get (v := .ref 3) (pc := 32) d_tr_readAll_32 fl_tr_15 (by decide) (by decide) (c_1 _ _) rfl ?_
  refine qr_iload_n (pc := 35) d_tr_readAll_35 rfl rfl ?_
  refine qr_iconst (v := 0) (pc := 36) d_tr_readAll_36 (by decide) ?_
  refine qr_zastMN (j := 4) (pc := 37) d_tr_readAll_37 (by decide) (by decide) (c_3 _ _) (by decide) (by decide) (fun w => rfl) ?_
  refine qr_iinc (v := 5) (lv' := [(1, .int 5), (0, .ref 1)]) (pc := 38) d_tr_readAll_38 rfl (by decide) (Nat.le_of_ble_eq_true rfl) rfl ?_
  refine qr_goto (tgt := 25) (pc := 41) d_tr_readAll_41 (by decide) ?_
  refine qr_iload_n (pc := 25) d_tr_readAll_25 rfl rfl ?_
  refine qr_bipush (v := 6) (pc := 26) d_tr_readAll_26 (by decide) ?_
  refine qr_icmp_ge (tgt := 44) (pc := 28) d_tr_readAll_28 (by decide) (fun h => absurd h (by decide)) (fun _ => ?_)
  refine qr_aload_n (pc := 31) d_tr_readAll_31 rfl rfl ?_
  refine qr_get (v := .ref 3) (pc := 32) d_tr_readAll_32 fl_tr_15 (by decide) (by decide) (c_1 _ _) rfl ?_
  refine qr_iload_n (pc := 35) d_tr_readAll_35 rfl rfl ?_
  refine qr_iconst (v := 0) (pc := 36) d_tr_readAll_36 (by decide) ?_
  refine qr_zastMN (j := 5) (pc := 37) d_tr_readAll_37 (by decide) (by decide) (c_3 _ _) (by decide) (by decide) (fun w => rfl) ?_
  refine qr_iinc (v := 6) (lv' := [(1, .int 6), (0, .ref 1)]) (pc := 38) d_tr_readAll_38 rfl (by decide) (Nat.le_of_ble_eq_true rfl) rfl ?_
  refine qr_goto (tgt := 25) (pc := 41) d_tr_readAll_41 (by decide) ?_
  refine qr_iload_n (pc := 25) d_tr_readAll_25 rfl rfl ?_
  refine qr_bipush (v := 6) (pc := 26) d_tr_readAll_26 (by decide) ?_
  refine qr_icmp_ge (tgt := 44) (pc := 28) d_tr_readAll_28 (by decide) (fun _ => ?_) (fun h => absurd h (by decide))
  refine qR_sub (lv' := [(0, .ref 1)]) [1] rfl ?_
  refine loop 62 0 (u_ri I) rfl ?_ ?_ ?_ rfl
  · simp [u_ri, wI, va_up, upd, hn]
  · simp [u_ri, wI, va_up, upd, nI_0]
  · exact ⟨⟨0, Nat.zero_le _, by simp [u_ri, wI, va_up, upd, nI_0]⟩, rfl, rfl, ⟨0, by omega, by simp [u_ri, wI, va_up, upd, nI_0]⟩, fun _ _ _ _ _ _ => rfl⟩
