/-! the class's parser: words -/
theorem nI_sb {a b : Nat} (h : b ≤ a) : nI a - nI b = nI (a - b) := by
  have : nI a = nI (a - b) + nI b := by rw [nI_add]; congr 1; omega
  rw [this, Int32.add_sub_cancel]
set_option maxRecDepth 10000 in
theorem s_tr_spellingOf (l : Launch) (x : Bool) (n : Nat) (f : Nat → va_E) (i : Nat) (hi : i < 6) (w : Int32) (hw : w = nI i) : qSp l y_tr_spellingOf b_tr_spellingOf 1 (some (.object "java/lang/String")) x 1 0 0 [.int w] n f (qD (some (.ref (78 + i))) n f) := by
  subst hw
  match i, hi with
  | 0, _ =>
    refine qSp_of (ini := false) (by decide +kernel) (fun h => nomatch h) (Nat.le_of_ble_eq_true rfl) ?_
    refine qr_iload_n (pc := 0) d_tr_spellingOf_0 rfl rfl ?_
    refine qr_tableIn (x := nI 0) (off := 35) (tgt := 36) (pc := 1) d_tr_spellingOf_1 (by decide) (by decide) (by decide) (by decide) ?_
    refine qr_ldcS (i := 0) (q := (123, "fee")) (pc := 36) d_tr_spellingOf_36 rfl rfl ?_
    exact qr_aret (pc := 38) d_tr_spellingOf_38 rfl (Or.inl ⟨_, rfl⟩) ⟨rfl, rfl, rfl⟩ (Nat.zero_le _) (Nat.zero_le _)
  | 1, _ =>
    refine qSp_of (ini := false) (by decide +kernel) (fun h => nomatch h) (Nat.le_of_ble_eq_true rfl) ?_
    refine qr_iload_n (pc := 0) d_tr_spellingOf_0 rfl rfl ?_
    refine qr_tableIn (x := nI 1) (off := 38) (tgt := 39) (pc := 1) d_tr_spellingOf_1 (by decide) (by decide) (by decide) (by decide) ?_
    refine qr_ldcS (i := 1) (q := (125, "free")) (pc := 39) d_tr_spellingOf_39 rfl rfl ?_
    exact qr_aret (pc := 41) d_tr_spellingOf_41 rfl (Or.inl ⟨_, rfl⟩) ⟨rfl, rfl, rfl⟩ (Nat.zero_le _) (Nat.zero_le _)
  | 2, _ =>
    refine qSp_of (ini := false) (by decide +kernel) (fun h => nomatch h) (Nat.le_of_ble_eq_true rfl) ?_
    refine qr_iload_n (pc := 0) d_tr_spellingOf_0 rfl rfl ?_
    refine qr_tableIn (x := nI 2) (off := 41) (tgt := 42) (pc := 1) d_tr_spellingOf_1 (by decide) (by decide) (by decide) (by decide) ?_
    refine qr_ldcS (i := 2) (q := (127, "min")) (pc := 42) d_tr_spellingOf_42 rfl rfl ?_
    exact qr_aret (pc := 44) d_tr_spellingOf_44 rfl (Or.inl ⟨_, rfl⟩) ⟨rfl, rfl, rfl⟩ (Nat.zero_le _) (Nat.zero_le _)
  | 3, _ =>
    refine qSp_of (ini := false) (by decide +kernel) (fun h => nomatch h) (Nat.le_of_ble_eq_true rfl) ?_
    refine qr_iload_n (pc := 0) d_tr_spellingOf_0 rfl rfl ?_
    refine qr_tableIn (x := nI 3) (off := 44) (tgt := 45) (pc := 1) d_tr_spellingOf_1 (by decide) (by decide) (by decide) (by decide) ?_
    refine qr_ldcS (i := 3) (q := (129, "per")) (pc := 45) d_tr_spellingOf_45 rfl rfl ?_
    exact qr_aret (pc := 47) d_tr_spellingOf_47 rfl (Or.inl ⟨_, rfl⟩) ⟨rfl, rfl, rfl⟩ (Nat.zero_le _) (Nat.zero_le _)
  | 4, _ =>
    refine qSp_of (ini := false) (by decide +kernel) (fun h => nomatch h) (Nat.le_of_ble_eq_true rfl) ?_
    refine qr_iload_n (pc := 0) d_tr_spellingOf_0 rfl rfl ?_
    refine qr_tableIn (x := nI 4) (off := 47) (tgt := 48) (pc := 1) d_tr_spellingOf_1 (by decide) (by decide) (by decide) (by decide) ?_
    refine qr_ldcS (i := 4) (q := (131, "tier")) (pc := 48) d_tr_spellingOf_48 rfl rfl ?_
    exact qr_aret (pc := 50) d_tr_spellingOf_50 rfl (Or.inl ⟨_, rfl⟩) ⟨rfl, rfl, rfl⟩ (Nat.zero_le _) (Nat.zero_le _)
  | 5, _ =>
    refine qSp_of (ini := false) (by decide +kernel) (fun h => nomatch h) (Nat.le_of_ble_eq_true rfl) ?_
    refine qr_iload_n (pc := 0) d_tr_spellingOf_0 rfl rfl ?_
    refine qr_tableOut (x := nI 5) (tgt := 51) (pc := 1) d_tr_spellingOf_1 (by decide) (by decide) ?_
    refine qr_ldcS (i := 5) (q := (133, "rest")) (pc := 51) d_tr_spellingOf_51 rfl rfl ?_
    exact qr_aret (pc := 53) d_tr_spellingOf_53 rfl (Or.inl ⟨_, rfl⟩) ⟨rfl, rfl, rfl⟩ (Nat.zero_le _) (Nat.zero_le _)
/-- the text from s on is the word i, so far as its first k letters go -/
def u_spb (I : Nat → Nat → Int32) (i s : Nat) : Nat → Bool
  | 0 => true
  | k + 1 => u_spb I i s k && I 2 (s + k) == (qBytS.getD i []).getD k 0
def u_sp (I : Nat → Nat → Int32) (i s e : Nat) : Int32 := if e - s = qLenS.getD i 0 ∧ u_spb I i s (qLenS.getD i 0) = true then 1 else 0
theorem u_spb_no {I : Nat → Nat → Int32} {i s k : Nat} (h : ¬ I 2 (s + k) = (qBytS.getD i []).getD k 0) : ∀ z, k < z → u_spb I i s z = false
  | z + 1, hz => by
    unfold u_spb
    by_cases e : k = z
    · subst e
      rw [beq_eq_false_iff_ne.mpr h, Bool.and_false]
    · rw [u_spb_no h z (by omega), Bool.false_and]
set_option maxRecDepth 10000 in
theorem s_tr_isSpelled (l : Launch) (x : Bool) (I : Nat → Nat → Int32) (L : Nat → Nat → Int64) (i s e : Nat) (hi : i < 6) (hs : s ≤ e) (he : e ≤ 60) : qSp l y_tr_isSpelled b_tr_isSpelled 5 (some .boolean) x 5 0 0 [.ref 1, .ref (78 + i), .int (nI s), .int (nI e)] 77 (fm I L) (qD (some (.int (u_sp I i s e))) 77 (fm I L)) := by
  refine qSp_of (ini := false) (by decide +kernel) (fun h => nomatch h) (Nat.le_of_ble_eq_true rfl) ?_
  show qR (l, y_tr_isSpelled.cls, b_tr_isSpelled, 5, (some .boolean), false, x, 5, 0, 0, 77, q0) (qD (some (.int (u_sp I i s e))) 77 (fm I L)) (fun _ _ _ => False) 0 [(0, .ref 1), (1, .ref (78 + i)), (2, .int (nI s)), (3, .int (nI e))] [] 77 0 0 (fm I L)
  have hlen := (lenS_ok i hi).2.1
  refine qr_iload_n (pc := 0) d_tr_isSpelled_0 rfl rfl ?_
  refine qr_iload_n (pc := 1) d_tr_isSpelled_1 rfl rfl ?_
  refine qr_isub (pc := 2) d_tr_isSpelled_2 ?_
  refine qR_st (st' := [.int (nI (e - s))]) rfl (by rw [nI_sb hs] <;> rfl) rfl ?_
  refine qr_aload_n (pc := 3) d_tr_isSpelled_3 rfl rfl ?_
  refine qr_callVS (i := i) (As := []) hi rfl (pc := 4) d_tr_isSpelled_4 lk_tr_115 im_js_length se_js_length (s_js_length _ x _ _ i hi) rfl rfl (Nat.le_of_ble_eq_true rfl) (Nat.le_of_ble_eq_true rfl) (Nat.le_of_ble_eq_true rfl) (Nat.zero_le _) (Nat.zero_le _) (fun h => ⟨h, rfl, Or.inl rfl⟩) (fun v n9 f9 hE => ?_)
  obtain ⟨rfl, rfl, rfl⟩ := hE
  refine qr_icmp_eq (tgt := 12) (pc := 7) d_tr_isSpelled_7 (by decide) (fun h7 => ?_) (fun h7 => ?_)
  · have hel : e - s = qLenS.getD i 0 := (nI_eq (by omega) (by omega)).mp h7
    have loop : ∀ (j k : Nat), qLenS.getD i 0 - k < j → k ≤ qLenS.getD i 0 → u_spb I i s k = true → qR (l, y_tr_isSpelled.cls, b_tr_isSpelled, 5, (some .boolean), false, x, 5, 0, 0, 77, q0) (qD (some (.int (u_sp I i s e))) 77 (fm I L)) (fun _ _ _ => False) 15 [(4, .int (nI k)), (0, .ref 1), (1, .ref (78 + i)), (2, .int (nI s)), (3, .int (nI e))] [] 77 0 0 (fm I L) := by
      intro j
      induction j with
      | zero => intro k hj; omega
      | succ j ih =>
        intro k hj hk hb
        refine qr_iload (pc := 15) d_tr_isSpelled_15 rfl ?_
        refine qr_aload_n (pc := 17) d_tr_isSpelled_17 rfl rfl ?_
        refine qr_callVS (i := i) (As := []) hi rfl (pc := 18) d_tr_isSpelled_18 lk_tr_115 im_js_length se_js_length (s_js_length _ x _ _ i hi) rfl rfl (Nat.le_of_ble_eq_true rfl) (Nat.le_of_ble_eq_true rfl) (Nat.le_of_ble_eq_true rfl) (Nat.zero_le _) (Nat.zero_le _) (fun h => ⟨h, rfl, Or.inl rfl⟩) (fun v n9 f9 hE => ?_)
        obtain ⟨rfl, rfl, rfl⟩ := hE
        refine qr_icmp_ge (tgt := 50) (pc := 21) d_tr_isSpelled_21 (by decide) (fun h21 => ?_) (fun h21 => ?_)
        · have hkl : k = qLenS.getD i 0 := by
            have := (nI_leI (by omega) (by omega)).mp h21
            omega
          refine qr_iconst (v := 1) (pc := 50) d_tr_isSpelled_50 (by decide) ?_
          exact qr_iret (pc := 51) d_tr_isSpelled_51 rfl rfl ⟨by rw [u_sp, if_pos ⟨hel, by rw [← hkl]; exact hb⟩], rfl, rfl⟩ (Nat.zero_le _) (Nat.zero_le _)
        · have hkl : k < qLenS.getD i 0 := by
            have := mt (nI_leI (a := qLenS.getD i 0) (b := k) (by omega) (by omega)).mpr h21
            omega
          refine qr_aload_n (pc := 24) d_tr_isSpelled_24 rfl rfl ?_
          refine qr_get (v := .ref 2) (pc := 25) d_tr_isSpelled_25 fl_tr_11 (by decide) (by decide) (c_1 _ _) rfl ?_
          refine qr_iload_n (pc := 28) d_tr_isSpelled_28 rfl rfl ?_
          refine qr_iload (pc := 29) d_tr_isSpelled_29 rfl ?_
          refine qr_iadd (pc := 31) d_tr_isSpelled_31 ?_
          refine qR_st (st' := [.int (nI (s + k)), .ref 2]) rfl (by rw [nI_add] <;> rfl) rfl ?_
          refine qr_caldN (j := s + k) (pc := 32) d_tr_isSpelled_32 (by decide) (by decide) (c_2 _ _) (by omega) (by decide) ?_
          refine qr_aload_n (pc := 33) d_tr_isSpelled_33 rfl rfl ?_
          refine qr_iload (pc := 34) d_tr_isSpelled_34 rfl ?_
          refine qr_callVS (i := i) (As := [.int (nI k)]) hi rfl (pc := 36) d_tr_isSpelled_36 lk_tr_119 im_js_charAt se_js_charAt (s_js_charAt _ x _ _ i k hi hkl) rfl rfl (Nat.le_of_ble_eq_true rfl) (Nat.le_of_ble_eq_true rfl) (Nat.le_of_ble_eq_true rfl) (Nat.zero_le _) (Nat.zero_le _) (fun h => ⟨h, rfl, Or.inl rfl⟩) (fun v n9 f9 hE => ?_)
          obtain ⟨rfl, rfl, rfl⟩ := hE
          refine qr_icmp_eq (tgt := 44) (pc := 39) d_tr_isSpelled_39 (by decide) (fun h39 => ?_) (fun h39 => ?_)
          · refine qr_iinc (v := nI (k + 1)) (lv' := [(4, .int (nI (k + 1))), (0, .ref 1), (1, .ref (78 + i)), (2, .int (nI s)), (3, .int (nI e))]) (pc := 44) d_tr_isSpelled_44 rfl (nI_1 k) (Nat.le_of_ble_eq_true rfl) rfl ?_
            refine qr_goto (tgt := 15) (pc := 47) d_tr_isSpelled_47 (by decide) ?_
            exact ih (k + 1) (by omega) (by omega) (by unfold u_spb; rw [hb, beq_iff_eq.mpr h39]; rfl)
          · refine qr_iconst (v := 0) (pc := 42) d_tr_isSpelled_42 (by decide) ?_
            exact qr_iret (pc := 43) d_tr_isSpelled_43 rfl rfl ⟨by rw [u_sp, if_neg (fun q => by rw [u_spb_no h39 _ hkl] at q; exact Bool.false_ne_true q.2)], rfl, rfl⟩ (Nat.zero_le _) (Nat.zero_le _)
    refine qr_iconst (v := 0) (pc := 12) d_tr_isSpelled_12 (by decide) ?_
    refine qr_istore (lv' := [(4, .int 0), (0, .ref 1), (1, .ref (78 + i)), (2, .int (nI s)), (3, .int (nI e))]) (pc := 13) d_tr_isSpelled_13 (Nat.le_of_ble_eq_true rfl) rfl ?_
    have h0 := loop (qLenS.getD i 0 + 1) 0 (by omega) (by omega) rfl
    rw [nI_0] at h0
    exact h0
  · refine qr_iconst (v := 0) (pc := 10) d_tr_isSpelled_10 (by decide) ?_
    exact qr_iret (pc := 11) d_tr_isSpelled_11 rfl rfl ⟨by rw [u_sp, if_neg (fun q => h7 (by rw [q.1]))], rfl, rfl⟩ (Nat.zero_le _) (Nat.zero_le _)
/-- which word stands from s to e -/
def u_word (I : Nat → Nat → Int32) (s e : Nat) : Int32 := if ¬ u_sp I 0 s e = 0 then 0 else if ¬ u_sp I 1 s e = 0 then 1 else if ¬ u_sp I 2 s e = 0 then 2 else if ¬ u_sp I 3 s e = 0 then 3 else if ¬ u_sp I 4 s e = 0 then 4 else if ¬ u_sp I 5 s e = 0 then 5 else -1
set_option maxRecDepth 10000 in
theorem s_tr_wordBetween (l : Launch) (x : Bool) (I : Nat → Nat → Int32) (L : Nat → Nat → Int64) (s e : Nat) (hs : s ≤ e) (he : e ≤ 60) : qSp l y_tr_wordBetween b_tr_wordBetween 4 (some .int) x 6 0 0 [.ref 1, .int (nI s), .int (nI e)] 77 (fm I L) (qD (some (.int (u_word I s e))) 77 (fm I L)) := by
  refine qSp_of (ini := false) (by decide +kernel) (fun h => nomatch h) (Nat.le_of_ble_eq_true rfl) ?_
  refine qr_iconst (v := 0) (pc := 0) d_tr_wordBetween_0 (by decide) ?_
  refine qr_istore_n (lv' := [(3, .int 0), (0, .ref 1), (1, .int (nI s)), (2, .int (nI e))]) (pc := 1) d_tr_wordBetween_1 rfl (Nat.le_of_ble_eq_true rfl) rfl ?_
  refine qr_iload_n (pc := 2) d_tr_wordBetween_2 rfl rfl ?_
  refine qr_bipush (v := 6) (pc := 3) d_tr_wordBetween_3 (by decide) ?_
  refine qr_icmp_ge (tgt := 29) (pc := 5) d_tr_wordBetween_5 (by decide) (fun h => absurd h (by decide)) (fun _ => ?_)
  refine qr_aload_n (pc := 8) d_tr_wordBetween_8 rfl rfl ?_
  refine qr_iload_n (pc := 9) d_tr_wordBetween_9 rfl rfl ?_
  refine qr_callS (As := [.int 0]) (pc := 10) d_tr_wordBetween_10 lk_tr_107 sm_tr_spellingOf (s_tr_spellingOf _ x _ _ 0 (by decide) 0 rfl) rfl rfl (Nat.le_of_ble_eq_true rfl) (Nat.le_of_ble_eq_true rfl) (Nat.le_of_ble_eq_true rfl) (Nat.zero_le _) (Nat.zero_le _) (fun h => ⟨h, rfl, Or.inl rfl⟩) (fun v n9 f9 hE => ?_)
  obtain ⟨rfl, rfl, rfl⟩ := hE
  refine qr_iload_n (pc := 13) d_tr_wordBetween_13 rfl rfl ?_
  refine qr_iload_n (pc := 14) d_tr_wordBetween_14 rfl rfl ?_
  refine qr_callV (q := 1) (As := [.ref (78 + 0), .int (nI s), .int (nI e)]) (pc := 15) d_tr_wordBetween_15 lk_tr_111 im_tr_isSpelled se_tr_isSpelled rfl (by decide) (by decide) (c_1 _ _) (s_tr_isSpelled _ x _ _ 0 s e (by decide) hs he) rfl rfl (Nat.le_of_ble_eq_true rfl) (Nat.le_of_ble_eq_true rfl) (Nat.le_of_ble_eq_true rfl) (Nat.zero_le _) (Nat.zero_le _) (fun h => ⟨h, rfl, Or.inl rfl⟩) (fun v n9 f9 hE => ?_)
  obtain ⟨rfl, rfl, rfl⟩ := hE
  refine qr_if_eq (tgt := 23) (pc := 18) d_tr_wordBetween_18 (by decide) (fun h0 => ?_) (fun h0 => ?_)
  rotate_left
  · refine qr_iload_n (pc := 21) d_tr_wordBetween_21 rfl rfl ?_
    exact qr_iret (pc := 22) d_tr_wordBetween_22 rfl rfl ⟨by rw [u_word, if_pos h0], rfl, rfl⟩ (Nat.zero_le _) (Nat.zero_le _)
  refine qr_iinc (v := 1) (lv' := [(3, .int 1), (0, .ref 1), (1, .int (nI s)), (2, .int (nI e))]) (pc := 23) d_tr_wordBetween_23 rfl (by decide) (Nat.le_of_ble_eq_true rfl) rfl ?_
  refine qr_goto (tgt := 2) (pc := 26) d_tr_wordBetween_26 (by decide) ?_
  refine qr_iload_n (pc := 2) d_tr_wordBetween_2 rfl rfl ?_
  refine qr_bipush (v := 6) (pc := 3) d_tr_wordBetween_3 (by decide) ?_
  refine qr_icmp_ge (tgt := 29) (pc := 5) d_tr_wordBetween_5 (by decide) (fun h => absurd h (by decide)) (fun _ => ?_)
  refine qr_aload_n (pc := 8) d_tr_wordBetween_8 rfl rfl ?_
  refine qr_iload_n (pc := 9) d_tr_wordBetween_9 rfl rfl ?_
  refine qr_callS (As := [.int 1]) (pc := 10) d_tr_wordBetween_10 lk_tr_107 sm_tr_spellingOf (s_tr_spellingOf _ x _ _ 1 (by decide) 1 rfl) rfl rfl (Nat.le_of_ble_eq_true rfl) (Nat.le_of_ble_eq_true rfl) (Nat.le_of_ble_eq_true rfl) (Nat.zero_le _) (Nat.zero_le _) (fun h => ⟨h, rfl, Or.inl rfl⟩) (fun v n9 f9 hE => ?_)
  obtain ⟨rfl, rfl, rfl⟩ := hE
  refine qr_iload_n (pc := 13) d_tr_wordBetween_13 rfl rfl ?_
  refine qr_iload_n (pc := 14) d_tr_wordBetween_14 rfl rfl ?_
  refine qr_callV (q := 1) (As := [.ref (78 + 1), .int (nI s), .int (nI e)]) (pc := 15) d_tr_wordBetween_15 lk_tr_111 im_tr_isSpelled se_tr_isSpelled rfl (by decide) (by decide) (c_1 _ _) (s_tr_isSpelled _ x _ _ 1 s e (by decide) hs he) rfl rfl (Nat.le_of_ble_eq_true rfl) (Nat.le_of_ble_eq_true rfl) (Nat.le_of_ble_eq_true rfl) (Nat.zero_le _) (Nat.zero_le _) (fun h => ⟨h, rfl, Or.inl rfl⟩) (fun v n9 f9 hE => ?_)
  obtain ⟨rfl, rfl, rfl⟩ := hE
  refine qr_if_eq (tgt := 23) (pc := 18) d_tr_wordBetween_18 (by decide) (fun h1 => ?_) (fun h1 => ?_)
  rotate_left
  · refine qr_iload_n (pc := 21) d_tr_wordBetween_21 rfl rfl ?_
    exact qr_iret (pc := 22) d_tr_wordBetween_22 rfl rfl ⟨by rw [u_word, if_neg (not_not_intro h0), if_pos h1], rfl, rfl⟩ (Nat.zero_le _) (Nat.zero_le _)
  refine qr_iinc (v := 2) (lv' := [(3, .int 2), (0, .ref 1), (1, .int (nI s)), (2, .int (nI e))]) (pc := 23) d_tr_wordBetween_23 rfl (by decide) (Nat.le_of_ble_eq_true rfl) rfl ?_
  refine qr_goto (tgt := 2) (pc := 26) d_tr_wordBetween_26 (by decide) ?_
  refine qr_iload_n (pc := 2) d_tr_wordBetween_2 rfl rfl ?_
  refine qr_bipush (v := 6) (pc := 3) d_tr_wordBetween_3 (by decide) ?_
  refine qr_icmp_ge (tgt := 29) (pc := 5) d_tr_wordBetween_5 (by decide) (fun h => absurd h (by decide)) (fun _ => ?_)
  refine qr_aload_n (pc := 8) d_tr_wordBetween_8 rfl rfl ?_
  refine qr_iload_n (pc := 9) d_tr_wordBetween_9 rfl rfl ?_
  refine qr_callS (As := [.int 2]) (pc := 10) d_tr_wordBetween_10 lk_tr_107 sm_tr_spellingOf (s_tr_spellingOf _ x _ _ 2 (by decide) 2 rfl) rfl rfl (Nat.le_of_ble_eq_true rfl) (Nat.le_of_ble_eq_true rfl) (Nat.le_of_ble_eq_true rfl) (Nat.zero_le _) (Nat.zero_le _) (fun h => ⟨h, rfl, Or.inl rfl⟩) (fun v n9 f9 hE => ?_)
  obtain ⟨rfl, rfl, rfl⟩ := hE
  refine qr_iload_n (pc := 13) d_tr_wordBetween_13 rfl rfl ?_
  refine qr_iload_n (pc := 14) d_tr_wordBetween_14 rfl rfl ?_
  refine qr_callV (q := 1) (As := [.ref (78 + 2), .int (nI s), .int (nI e)]) (pc := 15) d_tr_wordBetween_15 lk_tr_111 im_tr_isSpelled se_tr_isSpelled rfl (by decide) (by decide) (c_1 _ _) (s_tr_isSpelled _ x _ _ 2 s e (by decide) hs he) rfl rfl (Nat.le_of_ble_eq_true rfl) (Nat.le_of_ble_eq_true rfl) (Nat.le_of_ble_eq_true rfl) (Nat.zero_le _) (Nat.zero_le _) (fun h => ⟨h, rfl, Or.inl rfl⟩) (fun v n9 f9 hE => ?_)
  obtain ⟨rfl, rfl, rfl⟩ := hE
  refine qr_if_eq (tgt := 23) (pc := 18) d_tr_wordBetween_18 (by decide) (fun h2 => ?_) (fun h2 => ?_)
  rotate_left
  · refine qr_iload_n (pc := 21) d_tr_wordBetween_21 rfl rfl ?_
    exact qr_iret (pc := 22) d_tr_wordBetween_22 rfl rfl ⟨by rw [u_word, if_neg (not_not_intro h0), if_neg (not_not_intro h1), if_pos h2], rfl, rfl⟩ (Nat.zero_le _) (Nat.zero_le _)
  refine qr_iinc (v := 3) (lv' := [(3, .int 3), (0, .ref 1), (1, .int (nI s)), (2, .int (nI e))]) (pc := 23) d_tr_wordBetween_23 rfl (by decide) (Nat.le_of_ble_eq_true rfl) rfl ?_
  refine qr_goto (tgt := 2) (pc := 26) d_tr_wordBetween_26 (by decide) ?_
  refine qr_iload_n (pc := 2) d_tr_wordBetween_2 rfl rfl ?_
  refine qr_bipush (v := 6) (pc := 3) d_tr_wordBetween_3 (by decide) ?_
  refine qr_icmp_ge (tgt := 29) (pc := 5) d_tr_wordBetween_5 (by decide) (fun h => absurd h (by decide)) (fun _ => ?_)
  refine qr_aload_n (pc := 8) d_tr_wordBetween_8 rfl rfl ?_
  refine qr_iload_n (pc := 9) d_tr_wordBetween_9 rfl rfl ?_
  refine qr_callS (As := [.int 3]) (pc := 10) d_tr_wordBetween_10 lk_tr_107 sm_tr_spellingOf (s_tr_spellingOf _ x _ _ 3 (by decide) 3 rfl) rfl rfl (Nat.le_of_ble_eq_true rfl) (Nat.le_of_ble_eq_true rfl) (Nat.le_of_ble_eq_true rfl) (Nat.zero_le _) (Nat.zero_le _) (fun h => ⟨h, rfl, Or.inl rfl⟩) (fun v n9 f9 hE => ?_)
  obtain ⟨rfl, rfl, rfl⟩ := hE
  refine qr_iload_n (pc := 13) d_tr_wordBetween_13 rfl rfl ?_
  refine qr_iload_n (pc := 14) d_tr_wordBetween_14 rfl rfl ?_
  refine qr_callV (q := 1) (As := [.ref (78 + 3), .int (nI s), .int (nI e)]) (pc := 15) d_tr_wordBetween_15 lk_tr_111 im_tr_isSpelled se_tr_isSpelled rfl (by decide) (by decide) (c_1 _ _) (s_tr_isSpelled _ x _ _ 3 s e (by decide) hs he) rfl rfl (Nat.le_of_ble_eq_true rfl) (Nat.le_of_ble_eq_true rfl) (Nat.le_of_ble_eq_true rfl) (Nat.zero_le _) (Nat.zero_le _) (fun h => ⟨h, rfl, Or.inl rfl⟩) (fun v n9 f9 hE => ?_)
  obtain ⟨rfl, rfl, rfl⟩ := hE
  refine qr_if_eq (tgt := 23) (pc := 18) d_tr_wordBetween_18 (by decide) (fun h3 => ?_) (fun h3 => ?_)
  rotate_left
  · refine qr_iload_n (pc := 21) d_tr_wordBetween_21 rfl rfl ?_
    exact qr_iret (pc := 22) d_tr_wordBetween_22 rfl rfl ⟨by rw [u_word, if_neg (not_not_intro h0), if_neg (not_not_intro h1), if_neg (not_not_intro h2), if_pos h3], rfl, rfl⟩ (Nat.zero_le _) (Nat.zero_le _)
  refine qr_iinc (v := 4) (lv' := [(3, .int 4), (0, .ref 1), (1, .int (nI s)), (2, .int (nI e))]) (pc := 23) d_tr_wordBetween_23 rfl (by decide) (Nat.le_of_ble_eq_true rfl) rfl ?_
  refine qr_goto (tgt := 2) (pc := 26) d_tr_wordBetween_26 (by decide) ?_
  refine qr_iload_n (pc := 2) d_tr_wordBetween_2 rfl rfl ?_
  refine qr_bipush (v := 6) (pc := 3) d_tr_wordBetween_3 (by decide) ?_
  refine qr_icmp_ge (tgt := 29) (pc := 5) d_tr_wordBetween_5 (by decide) (fun h => absurd h (by decide)) (fun _ => ?_)
  refine qr_aload_n (pc := 8) d_tr_wordBetween_8 rfl rfl ?_
  refine qr_iload_n (pc := 9) d_tr_wordBetween_9 rfl rfl ?_
  refine qr_callS (As := [.int 4]) (pc := 10) d_tr_wordBetween_10 lk_tr_107 sm_tr_spellingOf (s_tr_spellingOf _ x _ _ 4 (by decide) 4 rfl) rfl rfl (Nat.le_of_ble_eq_true rfl) (Nat.le_of_ble_eq_true rfl) (Nat.le_of_ble_eq_true rfl) (Nat.zero_le _) (Nat.zero_le _) (fun h => ⟨h, rfl, Or.inl rfl⟩) (fun v n9 f9 hE => ?_)
  obtain ⟨rfl, rfl, rfl⟩ := hE
  refine qr_iload_n (pc := 13) d_tr_wordBetween_13 rfl rfl ?_
  refine qr_iload_n (pc := 14) d_tr_wordBetween_14 rfl rfl ?_
  refine qr_callV (q := 1) (As := [.ref (78 + 4), .int (nI s), .int (nI e)]) (pc := 15) d_tr_wordBetween_15 lk_tr_111 im_tr_isSpelled se_tr_isSpelled rfl (by decide) (by decide) (c_1 _ _) (s_tr_isSpelled _ x _ _ 4 s e (by decide) hs he) rfl rfl (Nat.le_of_ble_eq_true rfl) (Nat.le_of_ble_eq_true rfl) (Nat.le_of_ble_eq_true rfl) (Nat.zero_le _) (Nat.zero_le _) (fun h => ⟨h, rfl, Or.inl rfl⟩) (fun v n9 f9 hE => ?_)
  obtain ⟨rfl, rfl, rfl⟩ := hE
  refine qr_if_eq (tgt := 23) (pc := 18) d_tr_wordBetween_18 (by decide) (fun h4 => ?_) (fun h4 => ?_)
  rotate_left
  · refine qr_iload_n (pc := 21) d_tr_wordBetween_21 rfl rfl ?_
    exact qr_iret (pc := 22) d_tr_wordBetween_22 rfl rfl ⟨by rw [u_word, if_neg (not_not_intro h0), if_neg (not_not_intro h1), if_neg (not_not_intro h2), if_neg (not_not_intro h3), if_pos h4], rfl, rfl⟩ (Nat.zero_le _) (Nat.zero_le _)
  refine qr_iinc (v := 5) (lv' := [(3, .int 5), (0, .ref 1), (1, .int (nI s)), (2, .int (nI e))]) (pc := 23) d_tr_wordBetween_23 rfl (by decide) (Nat.le_of_ble_eq_true rfl) rfl ?_
  refine qr_goto (tgt := 2) (pc := 26) d_tr_wordBetween_26 (by decide) ?_
  refine qr_iload_n (pc := 2) d_tr_wordBetween_2 rfl rfl ?_
  refine qr_bipush (v := 6) (pc := 3) d_tr_wordBetween_3 (by decide) ?_
  refine qr_icmp_ge (tgt := 29) (pc := 5) d_tr_wordBetween_5 (by decide) (fun h => absurd h (by decide)) (fun _ => ?_)
  refine qr_aload_n (pc := 8) d_tr_wordBetween_8 rfl rfl ?_
  refine qr_iload_n (pc := 9) d_tr_wordBetween_9 rfl rfl ?_
  refine qr_callS (As := [.int 5]) (pc := 10) d_tr_wordBetween_10 lk_tr_107 sm_tr_spellingOf (s_tr_spellingOf _ x _ _ 5 (by decide) 5 rfl) rfl rfl (Nat.le_of_ble_eq_true rfl) (Nat.le_of_ble_eq_true rfl) (Nat.le_of_ble_eq_true rfl) (Nat.zero_le _) (Nat.zero_le _) (fun h => ⟨h, rfl, Or.inl rfl⟩) (fun v n9 f9 hE => ?_)
  obtain ⟨rfl, rfl, rfl⟩ := hE
  refine qr_iload_n (pc := 13) d_tr_wordBetween_13 rfl rfl ?_
  refine qr_iload_n (pc := 14) d_tr_wordBetween_14 rfl rfl ?_
  refine qr_callV (q := 1) (As := [.ref (78 + 5), .int (nI s), .int (nI e)]) (pc := 15) d_tr_wordBetween_15 lk_tr_111 im_tr_isSpelled se_tr_isSpelled rfl (by decide) (by decide) (c_1 _ _) (s_tr_isSpelled _ x _ _ 5 s e (by decide) hs he) rfl rfl (Nat.le_of_ble_eq_true rfl) (Nat.le_of_ble_eq_true rfl) (Nat.le_of_ble_eq_true rfl) (Nat.zero_le _) (Nat.zero_le _) (fun h => ⟨h, rfl, Or.inl rfl⟩) (fun v n9 f9 hE => ?_)
  obtain ⟨rfl, rfl, rfl⟩ := hE
  refine qr_if_eq (tgt := 23) (pc := 18) d_tr_wordBetween_18 (by decide) (fun h5 => ?_) (fun h5 => ?_)
  rotate_left
  · refine qr_iload_n (pc := 21) d_tr_wordBetween_21 rfl rfl ?_
    exact qr_iret (pc := 22) d_tr_wordBetween_22 rfl rfl ⟨by rw [u_word, if_neg (not_not_intro h0), if_neg (not_not_intro h1), if_neg (not_not_intro h2), if_neg (not_not_intro h3), if_neg (not_not_intro h4), if_pos h5], rfl, rfl⟩ (Nat.zero_le _) (Nat.zero_le _)
  refine qr_iinc (v := 6) (lv' := [(3, .int 6), (0, .ref 1), (1, .int (nI s)), (2, .int (nI e))]) (pc := 23) d_tr_wordBetween_23 rfl (by decide) (Nat.le_of_ble_eq_true rfl) rfl ?_
  refine qr_goto (tgt := 2) (pc := 26) d_tr_wordBetween_26 (by decide) ?_
  refine qr_iload_n (pc := 2) d_tr_wordBetween_2 rfl rfl ?_
  refine qr_bipush (v := 6) (pc := 3) d_tr_wordBetween_3 (by decide) ?_
  refine qr_icmp_ge (tgt := 29) (pc := 5) d_tr_wordBetween_5 (by decide) (fun _ => ?_) (fun h => absurd h (by decide))
  refine qr_iconst (v := (-1)) (pc := 29) d_tr_wordBetween_29 (by decide) ?_
  exact qr_iret (pc := 30) d_tr_wordBetween_30 rfl rfl ⟨by rw [u_word, if_neg (not_not_intro h0), if_neg (not_not_intro h1), if_neg (not_not_intro h2), if_neg (not_not_intro h3), if_neg (not_not_intro h4), if_neg (not_not_intro h5)], rfl, rfl⟩ (Nat.zero_le _) (Nat.zero_le _)
