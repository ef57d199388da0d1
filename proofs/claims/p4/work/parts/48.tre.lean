/-! readTwoNumbers, readNumbers -/
def u_rv (I : Nat → Nat → Int32) (a n : Nat) (low : Int32) : Int32 := u_nr I (u_bl I a n) (u_kd I (u_bl I a n) n) low (u_e6 I (u_bl I a n) n)
def u_rw (I : Nat → Nat → Int32) (a n : Nat) (low : Int32) : Nat → Nat → Int32 := u_nw I (u_bl I a n) (u_kd I (u_bl I a n) n) low (u_e6 I (u_bl I a n) n)
def u_ra (I : Nat → Nat → Int32) (a n : Nat) : Nat := u_bl I a n + u_kd I (u_bl I a n) n
theorem u_ra_le (I : Nat → Nat → Int32) {a n : Nat} (h : a ≤ n) : u_ra I a n ≤ n := (u_kd_ok I (u_bl_ok I h).2.2.2).2.2.2.1
theorem u_rw_ne {I : Nat → Nat → Int32} {a n k j : Nat} {low : Int32} (h : k ≠ 1 ∨ (j ≠ 4 ∧ j ≠ 6)) : u_rw I a n low k j = I k j := by
  have h4 : k ≠ 1 ∨ j ≠ 4 := h.imp id And.left
  have h6 : k ≠ 1 ∨ j ≠ 6 := h.imp id And.right
  unfold u_rw u_nw
  split
  · rw [wI_ne h6, wI_ne h4]
  · split
    · rw [wI_ne h6, wI_ne h4]
    · rw [wI_ne h4]
theorem u_rw_at {I : Nat → Nat → Int32} {a n : Nat} {low : Int32} : u_rw I a n low 1 4 = nI (u_ra I a n) := by
  unfold u_rw u_nw
  split
  · rw [wI_ne (Or.inr (by decide)), wI_at]
    rfl
  · split
    · rw [wI_ne (Or.inr (by decide)), wI_at]
      rfl
    · rw [wI_at]
      rfl
def u_two2 (I : Nat → Nat → Int32) (a n z : Nat) (w low : Int32) : Nat → Nat → Int32 :=
  if ¬ u_rw I a n low 1 6 = -2 then u_rw I a n low else if ¬ u_rw (u_rw I a n low) (u_ra I a n) n 0 1 6 = -2 then u_rw (u_rw I a n low) (u_ra I a n) n 0
  else if w = 4 then (if 4 ≤ nI z then u_rw (u_rw I a n low) (u_ra I a n) n 0 else wI (wI (wI (u_rw (u_rw I a n low) (u_ra I a n) n 0) 5 z (u_rv I a n low)) 6 z (u_rv (u_rw I a n low) (u_ra I a n) n 0)) 4 5 (nI (z + 1)))
  else wI (wI (u_rw (u_rw I a n low) (u_ra I a n) n 0) 4 3 (u_rv I a n low)) 4 4 (u_rv (u_rw I a n low) (u_ra I a n) n 0)
def u_two (I : Nat → Nat → Int32) (a n z : Nat) (w : Int32) : Nat → Nat → Int32 := u_two2 I a n z w (if w = 4 then (if z = 0 then 0 else I 5 (z - 1)) + 1 else 1)
def u_rns (I : Nat → Nat → Int32) (a n z : Nat) (w : Int32) : Nat → Nat → Int32 := if w = 3 ∨ w = 4 then u_two I a n z w else if ¬ u_rw I a n 0 1 6 = -2 then u_rw I a n 0 else
  if w = 0 then wI (u_rw I a n 0) 4 0 (u_rv I a n 0) else if w = 1 then wI (u_rw I a n 0) 4 1 (u_rv I a n 0) else if w = 2 then wI (u_rw I a n 0) 4 2 (u_rv I a n 0) else wI (u_rw I a n 0) 4 8 (u_rv I a n 0)
theorem s_tr_rn (l : Launch) (x : Bool) (I : Nat → Nat → Int32) (L : Nat → Nat → Int64) (a n : Nat) (ha : I 1 4 = nI a) (hn : I 1 3 = nI n) (ha2 : a ≤ n) (hn2 : n ≤ 60) (low : Int32) : qSp l y_tr_readNumber b_tr_readNumber 4 (some .int) x 3 0 0 [.ref 1, .int low] 77 (fm I L) (qD (some (.int (u_rv I a n low))) 77 (fm (u_rw I a n low) L)) := s_tr_readNumberF l x I L a n ha hn ha2 hn2 low
set_option maxRecDepth 10000 in
theorem s_tr_readTwoNumbers (l : Launch) (x : Bool) (I : Nat → Nat → Int32) (L : Nat → Nat → Int64) (a n : Nat) (ha : I 1 4 = nI a) (hn : I 1 3 = nI n) (ha2 : a ≤ n) (hn2 : n ≤ 60) (z : Nat) (hz : I 4 5 = nI z) (hz2 : z ≤ 4) (w : Int32) : qSp l y_tr_readTwoNumbers b_tr_readTwoNumbers 4 none x 4 0 0 [.ref 1, .int w] 77 (fm I L) (qD none 77 (fm (u_two I a n z w) L)) := by
  refine qSp_of (ini := false) (by decide +kernel) (fun h => nomatch h) (Nat.le_of_ble_eq_true rfl) ?_
  show qR _ _ _ 0 [(0, .ref 1), (1, .int w)] [] _ _ _ _
  refine qr_aload_n (pc := 0) d_tr_readTwoNumbers_0 rfl rfl ?_
  refine qr_iload_n (pc := 1) d_tr_readTwoNumbers_1 rfl rfl ?_
  refine qr_iconst (v := 4) (pc := 2) d_tr_readTwoNumbers_2 (by decide) ?_
  refine qr_icmp_ne (tgt := 18) (pc := 3) d_tr_readTwoNumbers_3 (by decide) (fun h3 => ?_) (fun h3 => ?_)
  · skip
    refine qr_iconst (v := 1) (pc := 18) d_tr_readTwoNumbers_18 (by decide) ?_
    refine qr_callV (q := 1) (As := [.int 1]) (pc := 19) d_tr_readTwoNumbers_19 lk_tr_77 im_tr_readNumber se_tr_readNumber rfl (by decide) (by decide) (c_1 _ _) (s_tr_rn _ x I L a n ha hn ha2 hn2 1) rfl rfl (Nat.le_of_ble_eq_true rfl) (Nat.le_of_ble_eq_true rfl) (Nat.le_of_ble_eq_true rfl) (Nat.zero_le _) (Nat.zero_le _) (fun h => ⟨h, rfl, Or.inl rfl⟩) (fun v n9 f9 hE19 => ?_)
    obtain ⟨rfl, rfl, rfl⟩ := hE19
    refine qr_istore_n (lv' := [(2, .int (u_rv I a n 1)), (0, .ref 1), (1, .int w)]) (pc := 22) d_tr_readTwoNumbers_22 rfl (Nat.le_of_ble_eq_true rfl) rfl ?_
    refine qr_aload_n (pc := 23) d_tr_readTwoNumbers_23 rfl rfl ?_
    refine qr_get (v := .int ((u_rw I a n 1) 1 6)) (pc := 24) d_tr_readTwoNumbers_24 fl_tr_36 (by decide) (by decide) (c_1 _ _) rfl ?_
    refine qr_bipush (v := (-2)) (pc := 27) d_tr_readTwoNumbers_27 (by decide) ?_
    refine qr_icmp_eq (tgt := 33) (pc := 29) d_tr_readTwoNumbers_29 (by decide) (fun h29 => ?_) (fun h29 => ?_)
    · skip
      refine qr_aload_n (pc := 33) d_tr_readTwoNumbers_33 rfl rfl ?_
      refine qr_iconst (v := 0) (pc := 34) d_tr_readTwoNumbers_34 (by decide) ?_
      refine qr_callV (q := 1) (As := [.int 0]) (pc := 35) d_tr_readTwoNumbers_35 lk_tr_77 im_tr_readNumber se_tr_readNumber rfl (by decide) (by decide) (c_1 _ _) (s_tr_rn _ x (u_rw I a n 1) L (u_ra I a n) n u_rw_at ((u_rw_ne (Or.inr (by decide))).trans hn) (u_ra_le I ha2) hn2 0) rfl rfl (Nat.le_of_ble_eq_true rfl) (Nat.le_of_ble_eq_true rfl) (Nat.le_of_ble_eq_true rfl) (Nat.zero_le _) (Nat.zero_le _) (fun h => ⟨h, rfl, Or.inl rfl⟩) (fun v n9 f9 hE35 => ?_)
      obtain ⟨rfl, rfl, rfl⟩ := hE35
      refine qr_istore_n (lv' := [(3, .int (u_rv (u_rw I a n 1) (u_ra I a n) n 0)), (2, .int (u_rv I a n 1)), (0, .ref 1), (1, .int w)]) (pc := 38) d_tr_readTwoNumbers_38 rfl (Nat.le_of_ble_eq_true rfl) rfl ?_
      refine qr_aload_n (pc := 39) d_tr_readTwoNumbers_39 rfl rfl ?_
      refine qr_get (v := .int ((u_rw (u_rw I a n 1) (u_ra I a n) n 0) 1 6)) (pc := 40) d_tr_readTwoNumbers_40 fl_tr_36 (by decide) (by decide) (c_1 _ _) rfl ?_
      refine qr_bipush (v := (-2)) (pc := 43) d_tr_readTwoNumbers_43 (by decide) ?_
      refine qr_icmp_eq (tgt := 49) (pc := 45) d_tr_readTwoNumbers_45 (by decide) (fun h45 => ?_) (fun h45 => ?_)
      · skip
        refine qr_iload_n (pc := 49) d_tr_readTwoNumbers_49 rfl rfl ?_
        refine qr_iconst (v := 4) (pc := 50) d_tr_readTwoNumbers_50 (by decide) ?_
        refine qr_icmp_ne (tgt := 66) (pc := 51) d_tr_readTwoNumbers_51 (by decide) (fun h51 => ?_) (fun h51 => ?_)
        · skip
          refine qr_aload_n (pc := 66) d_tr_readTwoNumbers_66 rfl rfl ?_
          refine qr_get (v := .ref 4) (pc := 67) d_tr_readTwoNumbers_67 fl_tr_22 (by decide) (by decide) (c_1 _ _) rfl ?_
          refine qr_iload_n (pc := 70) d_tr_readTwoNumbers_70 rfl rfl ?_
          refine qr_iload_n (pc := 71) d_tr_readTwoNumbers_71 rfl rfl ?_
          refine qr_callV (q := 4) (As := [.int (u_rv I a n 1), .int (u_rv (u_rw I a n 1) (u_ra I a n) n 0)]) (pc := 72) d_tr_readTwoNumbers_72 lk_tr_100 im_tf_setPack se_tf_setPack rfl (by decide) (by decide) (c_4 _ _) (s_tf_setPack _ x (u_rw (u_rw I a n 1) (u_ra I a n) n 0) L (u_rv I a n 1) (u_rv (u_rw I a n 1) (u_ra I a n) n 0)) rfl rfl (Nat.le_of_ble_eq_true rfl) (Nat.le_of_ble_eq_true rfl) (Nat.le_of_ble_eq_true rfl) (Nat.zero_le _) (Nat.zero_le _) (fun h => ⟨h, rfl, Or.inl rfl⟩) (fun v n9 f9 hE72 => ?_)
          obtain ⟨rfl, rfl, rfl⟩ := hE72
          exact qr_vret (pc := 75) d_tr_readTwoNumbers_75 rfl ⟨rfl, rfl, (by first | exact absurd (by simpa using h51) h3 | (simp [u_two, u_two2, *]; done))⟩ (Nat.zero_le _) (Nat.zero_le _)
        · skip
          refine qr_aload_n (pc := 54) d_tr_readTwoNumbers_54 rfl rfl ?_
          refine qr_get (v := .ref 4) (pc := 55) d_tr_readTwoNumbers_55 fl_tr_22 (by decide) (by decide) (c_1 _ _) rfl ?_
          refine qr_iload_n (pc := 58) d_tr_readTwoNumbers_58 rfl rfl ?_
          refine qr_iload_n (pc := 59) d_tr_readTwoNumbers_59 rfl rfl ?_
          refine qr_callV (q := 4) (As := [.int (u_rv I a n 1), .int (u_rv (u_rw I a n 1) (u_ra I a n) n 0)]) (pc := 60) d_tr_readTwoNumbers_60 lk_tr_96 im_tf_addTier se_tf_addTier rfl (by decide) (by decide) (c_4 _ _) (s_tf_addTier _ x (u_rw (u_rw I a n 1) (u_ra I a n) n 0) L z (((u_rw_ne (Or.inl (by decide))).trans (u_rw_ne (Or.inl (by decide)))).trans hz) hz2 (u_rv I a n 1) (u_rv (u_rw I a n 1) (u_ra I a n) n 0)) rfl rfl (Nat.le_of_ble_eq_true rfl) (Nat.le_of_ble_eq_true rfl) (Nat.le_of_ble_eq_true rfl) (Nat.zero_le _) (Nat.zero_le _) (fun h => ⟨h, rfl, Or.inl rfl⟩) (fun v n9 f9 hE60 => ?_)
          obtain ⟨rfl, rfl, rfl⟩ := hE60
          refine qr_goto (tgt := 75) (pc := 63) d_tr_readTwoNumbers_63 (by decide) ?_
          exact qr_vret (pc := 75) d_tr_readTwoNumbers_75 rfl ⟨rfl, rfl, (by first | exact absurd (by simpa using h51) h3 | (simp [u_two, u_two2, *]; done))⟩ (Nat.zero_le _) (Nat.zero_le _)
      · skip
        exact qr_vret (pc := 48) d_tr_readTwoNumbers_48 rfl ⟨rfl, rfl, (by first | exact absurd (by simpa using h51) h3 | (simp [u_two, u_two2, *]; done))⟩ (Nat.zero_le _) (Nat.zero_le _)
    · skip
      exact qr_vret (pc := 32) d_tr_readTwoNumbers_32 rfl ⟨rfl, rfl, (by first | exact absurd (by simpa using h51) h3 | (simp [u_two, u_two2, *]; done))⟩ (Nat.zero_le _) (Nat.zero_le _)
  · skip
    have g3 : w = 4 := by simpa using h3
    subst g3
    refine qr_aload_n (pc := 6) d_tr_readTwoNumbers_6 rfl rfl ?_
    refine qr_get (v := .ref 4) (pc := 7) d_tr_readTwoNumbers_7 fl_tr_22 (by decide) (by decide) (c_1 _ _) rfl ?_
    refine qr_callV (q := 4) (As := []) (pc := 10) d_tr_readTwoNumbers_10 lk_tr_93 im_tf_lastTierEnd se_tf_lastTierEnd rfl (by decide) (by decide) (c_4 _ _) (s_tf_lastTierEnd _ x I L z hz hz2) rfl rfl (Nat.le_of_ble_eq_true rfl) (Nat.le_of_ble_eq_true rfl) (Nat.le_of_ble_eq_true rfl) (Nat.zero_le _) (Nat.zero_le _) (fun h => ⟨h, rfl, Or.inl rfl⟩) (fun v n9 f9 hE10 => ?_)
    obtain ⟨rfl, rfl, rfl⟩ := hE10
    refine qr_iconst (v := 1) (pc := 13) d_tr_readTwoNumbers_13 (by decide) ?_
    refine qr_iadd (pc := 14) d_tr_readTwoNumbers_14 ?_
    refine qr_goto (tgt := 19) (pc := 15) d_tr_readTwoNumbers_15 (by decide) ?_
    refine qr_callV (q := 1) (As := [.int ((if z = 0 then 0 else I 5 (z - 1)) + 1)]) (pc := 19) d_tr_readTwoNumbers_19 lk_tr_77 im_tr_readNumber se_tr_readNumber rfl (by decide) (by decide) (c_1 _ _) (s_tr_rn _ x I L a n ha hn ha2 hn2 ((if z = 0 then 0 else I 5 (z - 1)) + 1)) rfl rfl (Nat.le_of_ble_eq_true rfl) (Nat.le_of_ble_eq_true rfl) (Nat.le_of_ble_eq_true rfl) (Nat.zero_le _) (Nat.zero_le _) (fun h => ⟨h, rfl, Or.inl rfl⟩) (fun v n9 f9 hE19 => ?_)
    obtain ⟨rfl, rfl, rfl⟩ := hE19
    refine qr_istore_n (lv' := [(2, .int (u_rv I a n ((if z = 0 then 0 else I 5 (z - 1)) + 1))), (0, .ref 1), (1, .int 4)]) (pc := 22) d_tr_readTwoNumbers_22 rfl (Nat.le_of_ble_eq_true rfl) rfl ?_
    refine qr_aload_n (pc := 23) d_tr_readTwoNumbers_23 rfl rfl ?_
    refine qr_get (v := .int ((u_rw I a n ((if z = 0 then 0 else I 5 (z - 1)) + 1)) 1 6)) (pc := 24) d_tr_readTwoNumbers_24 fl_tr_36 (by decide) (by decide) (c_1 _ _) rfl ?_
    refine qr_bipush (v := (-2)) (pc := 27) d_tr_readTwoNumbers_27 (by decide) ?_
    refine qr_icmp_eq (tgt := 33) (pc := 29) d_tr_readTwoNumbers_29 (by decide) (fun h29 => ?_) (fun h29 => ?_)
    · skip
      refine qr_aload_n (pc := 33) d_tr_readTwoNumbers_33 rfl rfl ?_
      refine qr_iconst (v := 0) (pc := 34) d_tr_readTwoNumbers_34 (by decide) ?_
      refine qr_callV (q := 1) (As := [.int 0]) (pc := 35) d_tr_readTwoNumbers_35 lk_tr_77 im_tr_readNumber se_tr_readNumber rfl (by decide) (by decide) (c_1 _ _) (s_tr_rn _ x (u_rw I a n ((if z = 0 then 0 else I 5 (z - 1)) + 1)) L (u_ra I a n) n u_rw_at ((u_rw_ne (Or.inr (by decide))).trans hn) (u_ra_le I ha2) hn2 0) rfl rfl (Nat.le_of_ble_eq_true rfl) (Nat.le_of_ble_eq_true rfl) (Nat.le_of_ble_eq_true rfl) (Nat.zero_le _) (Nat.zero_le _) (fun h => ⟨h, rfl, Or.inl rfl⟩) (fun v n9 f9 hE35 => ?_)
      obtain ⟨rfl, rfl, rfl⟩ := hE35
      refine qr_istore_n (lv' := [(3, .int (u_rv (u_rw I a n ((if z = 0 then 0 else I 5 (z - 1)) + 1)) (u_ra I a n) n 0)), (2, .int (u_rv I a n ((if z = 0 then 0 else I 5 (z - 1)) + 1))), (0, .ref 1), (1, .int 4)]) (pc := 38) d_tr_readTwoNumbers_38 rfl (Nat.le_of_ble_eq_true rfl) rfl ?_
      refine qr_aload_n (pc := 39) d_tr_readTwoNumbers_39 rfl rfl ?_
      refine qr_get (v := .int ((u_rw (u_rw I a n ((if z = 0 then 0 else I 5 (z - 1)) + 1)) (u_ra I a n) n 0) 1 6)) (pc := 40) d_tr_readTwoNumbers_40 fl_tr_36 (by decide) (by decide) (c_1 _ _) rfl ?_
      refine qr_bipush (v := (-2)) (pc := 43) d_tr_readTwoNumbers_43 (by decide) ?_
      refine qr_icmp_eq (tgt := 49) (pc := 45) d_tr_readTwoNumbers_45 (by decide) (fun h45 => ?_) (fun h45 => ?_)
      · skip
        refine qr_iload_n (pc := 49) d_tr_readTwoNumbers_49 rfl rfl ?_
        refine qr_iconst (v := 4) (pc := 50) d_tr_readTwoNumbers_50 (by decide) ?_
        refine qr_icmp_ne (tgt := 66) (pc := 51) d_tr_readTwoNumbers_51 (by decide) (fun h51 => absurd h51 (by decide)) (fun _ => ?_)
        refine qr_aload_n (pc := 54) d_tr_readTwoNumbers_54 rfl rfl ?_
        refine qr_get (v := .ref 4) (pc := 55) d_tr_readTwoNumbers_55 fl_tr_22 (by decide) (by decide) (c_1 _ _) rfl ?_
        refine qr_iload_n (pc := 58) d_tr_readTwoNumbers_58 rfl rfl ?_
        refine qr_iload_n (pc := 59) d_tr_readTwoNumbers_59 rfl rfl ?_
        refine qr_callV (q := 4) (As := [.int (u_rv I a n ((if z = 0 then 0 else I 5 (z - 1)) + 1)), .int (u_rv (u_rw I a n ((if z = 0 then 0 else I 5 (z - 1)) + 1)) (u_ra I a n) n 0)]) (pc := 60) d_tr_readTwoNumbers_60 lk_tr_96 im_tf_addTier se_tf_addTier rfl (by decide) (by decide) (c_4 _ _) (s_tf_addTier _ x (u_rw (u_rw I a n ((if z = 0 then 0 else I 5 (z - 1)) + 1)) (u_ra I a n) n 0) L z (((u_rw_ne (Or.inl (by decide))).trans (u_rw_ne (Or.inl (by decide)))).trans hz) hz2 (u_rv I a n ((if z = 0 then 0 else I 5 (z - 1)) + 1)) (u_rv (u_rw I a n ((if z = 0 then 0 else I 5 (z - 1)) + 1)) (u_ra I a n) n 0)) rfl rfl (Nat.le_of_ble_eq_true rfl) (Nat.le_of_ble_eq_true rfl) (Nat.le_of_ble_eq_true rfl) (Nat.zero_le _) (Nat.zero_le _) (fun h => ⟨h, rfl, Or.inl rfl⟩) (fun v n9 f9 hE60 => ?_)
        obtain ⟨rfl, rfl, rfl⟩ := hE60
        refine qr_goto (tgt := 75) (pc := 63) d_tr_readTwoNumbers_63 (by decide) ?_
        exact qr_vret (pc := 75) d_tr_readTwoNumbers_75 rfl ⟨rfl, rfl, (by first | exact absurd (by simpa using h51) h3 | (simp [u_two, u_two2, *]; done))⟩ (Nat.zero_le _) (Nat.zero_le _)
      · skip
        exact qr_vret (pc := 48) d_tr_readTwoNumbers_48 rfl ⟨rfl, rfl, (by first | exact absurd (by simpa using h51) h3 | (simp [u_two, u_two2, *]; done))⟩ (Nat.zero_le _) (Nat.zero_le _)
    · skip
      exact qr_vret (pc := 32) d_tr_readTwoNumbers_32 rfl ⟨rfl, rfl, (by first | exact absurd (by simpa using h51) h3 | (simp [u_two, u_two2, *]; done))⟩ (Nat.zero_le _) (Nat.zero_le _)
set_option maxRecDepth 10000 in
theorem s_tr_readNumbers (l : Launch) (x : Bool) (I : Nat → Nat → Int32) (L : Nat → Nat → Int64) (a n : Nat) (ha : I 1 4 = nI a) (hn : I 1 3 = nI n) (ha2 : a ≤ n) (hn2 : n ≤ 60) (z : Nat) (hz : I 4 5 = nI z) (hz2 : z ≤ 4) (w : Int32) : qSp l y_tr_readNumbers b_tr_readNumbers 3 none x 5 0 0 [.ref 1, .int w] 77 (fm I L) (qD none 77 (fm (u_rns I a n z w) L)) := by
  refine qSp_of (ini := false) (by decide +kernel) (fun h => nomatch h) (Nat.le_of_ble_eq_true rfl) ?_
  show qR _ _ _ 0 [(0, .ref 1), (1, .int w)] [] _ _ _ _
  refine qr_iload_n (pc := 0) d_tr_readNumbers_0 rfl rfl ?_
  refine qr_iconst (v := 3) (pc := 1) d_tr_readNumbers_1 (by decide) ?_
  refine qr_icmp_eq (tgt := 10) (pc := 2) d_tr_readNumbers_2 (by decide) (fun h2 => ?_) (fun h2 => ?_)
  · skip
    refine qr_aload_n (pc := 10) d_tr_readNumbers_10 rfl rfl ?_
    refine qr_iload_n (pc := 11) d_tr_readNumbers_11 rfl rfl ?_
    refine qr_callV (q := 1) (As := [.int w]) (pc := 12) d_tr_readNumbers_12 lk_tr_74 im_tr_readTwoNumbers se_tr_readTwoNumbers rfl (by decide) (by decide) (c_1 _ _) (s_tr_readTwoNumbers _ x I L a n ha hn ha2 hn2 z hz hz2 w) rfl rfl (Nat.le_of_ble_eq_true rfl) (Nat.le_of_ble_eq_true rfl) (Nat.le_of_ble_eq_true rfl) (Nat.zero_le _) (Nat.zero_le _) (fun h => ⟨h, rfl, Or.inl rfl⟩) (fun v n9 f9 hE12 => ?_)
    obtain ⟨rfl, rfl, rfl⟩ := hE12
    exact qr_vret (pc := 15) d_tr_readNumbers_15 rfl ⟨rfl, rfl, (by simp [u_rns, *])⟩ (Nat.zero_le _) (Nat.zero_le _)
  · skip
    refine qr_iload_n (pc := 5) d_tr_readNumbers_5 rfl rfl ?_
    refine qr_iconst (v := 4) (pc := 6) d_tr_readNumbers_6 (by decide) ?_
    refine qr_icmp_ne (tgt := 16) (pc := 7) d_tr_readNumbers_7 (by decide) (fun h7 => ?_) (fun h7 => ?_)
    · skip
      refine qr_aload_n (pc := 16) d_tr_readNumbers_16 rfl rfl ?_
      refine qr_iconst (v := 0) (pc := 17) d_tr_readNumbers_17 (by decide) ?_
      refine qr_callV (q := 1) (As := [.int 0]) (pc := 18) d_tr_readNumbers_18 lk_tr_77 im_tr_readNumber se_tr_readNumber rfl (by decide) (by decide) (c_1 _ _) (s_tr_rn _ x I L a n ha hn ha2 hn2 0) rfl rfl (Nat.le_of_ble_eq_true rfl) (Nat.le_of_ble_eq_true rfl) (Nat.le_of_ble_eq_true rfl) (Nat.zero_le _) (Nat.zero_le _) (fun h => ⟨h, rfl, Or.inl rfl⟩) (fun v n9 f9 hE18 => ?_)
      obtain ⟨rfl, rfl, rfl⟩ := hE18
      refine qr_istore_n (lv' := [(2, .int (u_rv I a n 0)), (0, .ref 1), (1, .int w)]) (pc := 21) d_tr_readNumbers_21 rfl (Nat.le_of_ble_eq_true rfl) rfl ?_
      refine qr_aload_n (pc := 22) d_tr_readNumbers_22 rfl rfl ?_
      refine qr_get (v := .int ((u_rw I a n 0) 1 6)) (pc := 23) d_tr_readNumbers_23 fl_tr_36 (by decide) (by decide) (c_1 _ _) rfl ?_
      refine qr_bipush (v := (-2)) (pc := 26) d_tr_readNumbers_26 (by decide) ?_
      refine qr_icmp_eq (tgt := 32) (pc := 28) d_tr_readNumbers_28 (by decide) (fun h28 => ?_) (fun h28 => ?_)
      · skip
        refine qr_iload_n (pc := 32) d_tr_readNumbers_32 rfl rfl ?_
        refine qr_if_ne (tgt := 47) (pc := 33) d_tr_readNumbers_33 (by decide) (fun h33 => ?_) (fun h33 => ?_)
        · skip
          refine qr_iload_n (pc := 47) d_tr_readNumbers_47 rfl rfl ?_
          refine qr_iconst (v := 1) (pc := 48) d_tr_readNumbers_48 (by decide) ?_
          refine qr_icmp_ne (tgt := 63) (pc := 49) d_tr_readNumbers_49 (by decide) (fun h49 => ?_) (fun h49 => ?_)
          · skip
            refine qr_iload_n (pc := 63) d_tr_readNumbers_63 rfl rfl ?_
            refine qr_iconst (v := 2) (pc := 64) d_tr_readNumbers_64 (by decide) ?_
            refine qr_icmp_ne (tgt := 79) (pc := 65) d_tr_readNumbers_65 (by decide) (fun h65 => ?_) (fun h65 => ?_)
            · skip
              refine qr_aload_n (pc := 79) d_tr_readNumbers_79 rfl rfl ?_
              refine qr_get (v := .ref 4) (pc := 80) d_tr_readNumbers_80 fl_tr_22 (by decide) (by decide) (c_1 _ _) rfl ?_
              refine qr_iload_n (pc := 83) d_tr_readNumbers_83 rfl rfl ?_
              refine qr_callV (q := 4) (As := [.int (u_rv I a n 0)]) (pc := 84) d_tr_readNumbers_84 lk_tr_90 im_tf_setRestPrice se_tf_setRestPrice rfl (by decide) (by decide) (c_4 _ _) (s_tf_setRestPrice _ x (u_rw I a n 0) L (u_rv I a n 0)) rfl rfl (Nat.le_of_ble_eq_true rfl) (Nat.le_of_ble_eq_true rfl) (Nat.le_of_ble_eq_true rfl) (Nat.zero_le _) (Nat.zero_le _) (fun h => ⟨h, rfl, Or.inl rfl⟩) (fun v n9 f9 hE84 => ?_)
              obtain ⟨rfl, rfl, rfl⟩ := hE84
              exact qr_vret (pc := 87) d_tr_readNumbers_87 rfl ⟨rfl, rfl, (by simp [u_rns, *])⟩ (Nat.zero_le _) (Nat.zero_le _)
            · skip
              refine qr_aload_n (pc := 68) d_tr_readNumbers_68 rfl rfl ?_
              refine qr_get (v := .ref 4) (pc := 69) d_tr_readNumbers_69 fl_tr_22 (by decide) (by decide) (c_1 _ _) rfl ?_
              refine qr_iload_n (pc := 72) d_tr_readNumbers_72 rfl rfl ?_
              refine qr_callV (q := 4) (As := [.int (u_rv I a n 0)]) (pc := 73) d_tr_readNumbers_73 lk_tr_87 im_tf_setLeast se_tf_setLeast rfl (by decide) (by decide) (c_4 _ _) (s_tf_setLeast _ x (u_rw I a n 0) L (u_rv I a n 0)) rfl rfl (Nat.le_of_ble_eq_true rfl) (Nat.le_of_ble_eq_true rfl) (Nat.le_of_ble_eq_true rfl) (Nat.zero_le _) (Nat.zero_le _) (fun h => ⟨h, rfl, Or.inl rfl⟩) (fun v n9 f9 hE73 => ?_)
              obtain ⟨rfl, rfl, rfl⟩ := hE73
              refine qr_goto (tgt := 87) (pc := 76) d_tr_readNumbers_76 (by decide) ?_
              exact qr_vret (pc := 87) d_tr_readNumbers_87 rfl ⟨rfl, rfl, (by simp [u_rns, *])⟩ (Nat.zero_le _) (Nat.zero_le _)
          · skip
            refine qr_aload_n (pc := 52) d_tr_readNumbers_52 rfl rfl ?_
            refine qr_get (v := .ref 4) (pc := 53) d_tr_readNumbers_53 fl_tr_22 (by decide) (by decide) (c_1 _ _) rfl ?_
            refine qr_iload_n (pc := 56) d_tr_readNumbers_56 rfl rfl ?_
            refine qr_callV (q := 4) (As := [.int (u_rv I a n 0)]) (pc := 57) d_tr_readNumbers_57 lk_tr_84 im_tf_setFree se_tf_setFree rfl (by decide) (by decide) (c_4 _ _) (s_tf_setFree _ x (u_rw I a n 0) L (u_rv I a n 0)) rfl rfl (Nat.le_of_ble_eq_true rfl) (Nat.le_of_ble_eq_true rfl) (Nat.le_of_ble_eq_true rfl) (Nat.zero_le _) (Nat.zero_le _) (fun h => ⟨h, rfl, Or.inl rfl⟩) (fun v n9 f9 hE57 => ?_)
            obtain ⟨rfl, rfl, rfl⟩ := hE57
            refine qr_goto (tgt := 87) (pc := 60) d_tr_readNumbers_60 (by decide) ?_
            exact qr_vret (pc := 87) d_tr_readNumbers_87 rfl ⟨rfl, rfl, (by simp [u_rns, *])⟩ (Nat.zero_le _) (Nat.zero_le _)
        · skip
          refine qr_aload_n (pc := 36) d_tr_readNumbers_36 rfl rfl ?_
          refine qr_get (v := .ref 4) (pc := 37) d_tr_readNumbers_37 fl_tr_22 (by decide) (by decide) (c_1 _ _) rfl ?_
          refine qr_iload_n (pc := 40) d_tr_readNumbers_40 rfl rfl ?_
          refine qr_callV (q := 4) (As := [.int (u_rv I a n 0)]) (pc := 41) d_tr_readNumbers_41 lk_tr_81 im_tf_setFee se_tf_setFee rfl (by decide) (by decide) (c_4 _ _) (s_tf_setFee _ x (u_rw I a n 0) L (u_rv I a n 0)) rfl rfl (Nat.le_of_ble_eq_true rfl) (Nat.le_of_ble_eq_true rfl) (Nat.le_of_ble_eq_true rfl) (Nat.zero_le _) (Nat.zero_le _) (fun h => ⟨h, rfl, Or.inl rfl⟩) (fun v n9 f9 hE41 => ?_)
          obtain ⟨rfl, rfl, rfl⟩ := hE41
          refine qr_goto (tgt := 87) (pc := 44) d_tr_readNumbers_44 (by decide) ?_
          exact qr_vret (pc := 87) d_tr_readNumbers_87 rfl ⟨rfl, rfl, (by simp [u_rns, *])⟩ (Nat.zero_le _) (Nat.zero_le _)
      · skip
        exact qr_vret (pc := 31) d_tr_readNumbers_31 rfl ⟨rfl, rfl, (by simp [u_rns, *])⟩ (Nat.zero_le _) (Nat.zero_le _)
    · skip
      refine qr_aload_n (pc := 10) d_tr_readNumbers_10 rfl rfl ?_
      refine qr_iload_n (pc := 11) d_tr_readNumbers_11 rfl rfl ?_
      refine qr_callV (q := 1) (As := [.int w]) (pc := 12) d_tr_readNumbers_12 lk_tr_74 im_tr_readTwoNumbers se_tr_readTwoNumbers rfl (by decide) (by decide) (c_1 _ _) (s_tr_readTwoNumbers _ x I L a n ha hn ha2 hn2 z hz hz2 w) rfl rfl (Nat.le_of_ble_eq_true rfl) (Nat.le_of_ble_eq_true rfl) (Nat.le_of_ble_eq_true rfl) (Nat.zero_le _) (Nat.zero_le _) (fun h => ⟨h, rfl, Or.inl rfl⟩) (fun v n9 f9 hE12 => ?_)
      obtain ⟨rfl, rfl, rfl⟩ := hE12
      exact qr_vret (pc := 15) d_tr_readNumbers_15 rfl ⟨rfl, rfl, (by simp [u_rns, *])⟩ (Nat.zero_le _) (Nat.zero_le _)
