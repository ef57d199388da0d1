/-! BillForge$TariffReader (object 1; characters 2, wasThere 3, draft 4): blanks and letters -/
def u_let (c : Int32) : Int32 := if (¬ c < 97 ∧ c ≤ 122) ∨ (¬ c < 65 ∧ ¬ 90 < c) then 1 else 0
set_option maxRecDepth 10000 in
theorem s_tr_isLetter (l : Launch) (x : Bool) (n : Nat) (f : Nat → va_E) (c : Int32) : qSp l y_tr_isLetter b_tr_isLetter 1 (some .boolean) x 1 0 0 [.int c] n f (qD (some (.int (u_let c))) n f) := by
  refine qSp_of (ini := false) (by decide +kernel) (fun h => nomatch h) (Nat.le_of_ble_eq_true rfl) ?_
  show qR _ _ _ 0 [(0, .int c)] [] _ _ _ _
  refine qr_iload_n (pc := 0) d_tr_isLetter_0 rfl rfl ?_
  refine qr_bipush (v := 97) (pc := 1) d_tr_isLetter_1 (by decide) ?_
  refine qr_icmp_lt (tgt := 12) (pc := 3) d_tr_isLetter_3 (by decide) (fun h3 => ?_) (fun h3 => ?_)
  · skip
    refine qr_iload_n (pc := 12) d_tr_isLetter_12 rfl rfl ?_
    refine qr_bipush (v := 65) (pc := 13) d_tr_isLetter_13 (by decide) ?_
    refine qr_icmp_lt (tgt := 28) (pc := 15) d_tr_isLetter_15 (by decide) (fun h15 => ?_) (fun h15 => ?_)
    · skip
      refine qr_iconst (v := 0) (pc := 28) d_tr_isLetter_28 (by decide) ?_
      exact qr_iret (pc := 29) d_tr_isLetter_29 rfl rfl ⟨(by simp [u_let, *]), rfl, rfl⟩ (Nat.zero_le _) (Nat.zero_le _)
    · skip
      refine qr_iload_n (pc := 18) d_tr_isLetter_18 rfl rfl ?_
      refine qr_bipush (v := 90) (pc := 19) d_tr_isLetter_19 (by decide) ?_
      refine qr_icmp_gt (tgt := 28) (pc := 21) d_tr_isLetter_21 (by decide) (fun h21 => ?_) (fun h21 => ?_)
      · skip
        refine qr_iconst (v := 0) (pc := 28) d_tr_isLetter_28 (by decide) ?_
        exact qr_iret (pc := 29) d_tr_isLetter_29 rfl rfl ⟨(by simp [u_let, *]), rfl, rfl⟩ (Nat.zero_le _) (Nat.zero_le _)
      · skip
        refine qr_iconst (v := 1) (pc := 24) d_tr_isLetter_24 (by decide) ?_
        refine qr_goto (tgt := 29) (pc := 25) d_tr_isLetter_25 (by decide) ?_
        exact qr_iret (pc := 29) d_tr_isLetter_29 rfl rfl ⟨(by simp [u_let, *]), rfl, rfl⟩ (Nat.zero_le _) (Nat.zero_le _)
  · skip
    refine qr_iload_n (pc := 6) d_tr_isLetter_6 rfl rfl ?_
    refine qr_bipush (v := 122) (pc := 7) d_tr_isLetter_7 (by decide) ?_
    refine qr_icmp_le (tgt := 24) (pc := 9) d_tr_isLetter_9 (by decide) (fun h9 => ?_) (fun h9 => ?_)
    · skip
      refine qr_iconst (v := 1) (pc := 24) d_tr_isLetter_24 (by decide) ?_
      refine qr_goto (tgt := 29) (pc := 25) d_tr_isLetter_25 (by decide) ?_
      exact qr_iret (pc := 29) d_tr_isLetter_29 rfl rfl ⟨(by simp [u_let, *]), rfl, rfl⟩ (Nat.zero_le _) (Nat.zero_le _)
    · skip
      refine qr_iload_n (pc := 12) d_tr_isLetter_12 rfl rfl ?_
      refine qr_bipush (v := 65) (pc := 13) d_tr_isLetter_13 (by decide) ?_
      refine qr_icmp_lt (tgt := 28) (pc := 15) d_tr_isLetter_15 (by decide) (fun h15 => ?_) (fun h15 => ?_)
      · skip
        refine qr_iconst (v := 0) (pc := 28) d_tr_isLetter_28 (by decide) ?_
        exact qr_iret (pc := 29) d_tr_isLetter_29 rfl rfl ⟨(by simp [u_let, *]), rfl, rfl⟩ (Nat.zero_le _) (Nat.zero_le _)
      · skip
        refine qr_iload_n (pc := 18) d_tr_isLetter_18 rfl rfl ?_
        refine qr_bipush (v := 90) (pc := 19) d_tr_isLetter_19 (by decide) ?_
        refine qr_icmp_gt (tgt := 28) (pc := 21) d_tr_isLetter_21 (by decide) (fun h21 => ?_) (fun h21 => ?_)
        · skip
          refine qr_iconst (v := 0) (pc := 28) d_tr_isLetter_28 (by decide) ?_
          exact qr_iret (pc := 29) d_tr_isLetter_29 rfl rfl ⟨(by simp [u_let, *]), rfl, rfl⟩ (Nat.zero_le _) (Nat.zero_le _)
        · skip
          refine qr_iconst (v := 1) (pc := 24) d_tr_isLetter_24 (by decide) ?_
          refine qr_goto (tgt := 29) (pc := 25) d_tr_isLetter_25 (by decide) ?_
          exact qr_iret (pc := 29) d_tr_isLetter_29 rfl rfl ⟨(by simp [u_let, *]), rfl, rfl⟩ (Nat.zero_le _) (Nat.zero_le _)
set_option maxRecDepth 10000 in
theorem s_tr_skipBlanks (l : Launch) (x : Bool) (I : Nat → Nat → Int32) (L : Nat → Nat → Int64) (a n : Nat) (ha : I 1 4 = nI a) (hn : I 1 3 = nI n) (ha2 : a ≤ n) (hn2 : n ≤ 60) (a2 : Nat) (hb1 : a ≤ a2) (hb2 : ∀ i, a ≤ i → i < a2 → i < n ∧ (I 2 i) = 32) (hb3 : ¬ (a2 < n ∧ (I 2 a2) = 32)) (hb4 : a2 ≤ n) : qSp l y_tr_skipBlanks b_tr_skipBlanks 1 none x 2 0 0 [.ref 1] 77 (fm I L) (qD none 77 (fm (wI I 1 4 (nI a2)) L)) := by
  refine qSp_of (ini := false) (by decide +kernel) (fun h => nomatch h) (Nat.le_of_ble_eq_true rfl) ?_
  have hn9 : ∀ b, wI I 1 4 (nI b) 1 3 = nI n := fun b => (wI_ne (Or.inr (by decide))).trans hn
  show qR _ _ _ 0 [(0, .ref 1)] [] _ _ _ _
  have loop0 : ∀ (j b : Nat), n - b < j → a ≤ b → b ≤ a2 → qR (l, y_tr_skipBlanks.cls, b_tr_skipBlanks, 1, none, false, x, 2, 0, 0, 77, q0) (qD none 77 (fm (wI I 1 4 (nI a2)) L)) (fun _ _ _ => False) 0 [(0, .ref 1)] [] 77 0 0 (fm (wI I 1 4 (nI b)) L) := by
    intro j
    induction j with
    | zero => intro b hj; omega
    | succ j ih =>
    intro b hj hx1 hx2
    refine qr_aload_n (pc := 0) d_tr_skipBlanks_0 rfl rfl ?_
    refine qr_get (v := .int (nI b)) (pc := 1) d_tr_skipBlanks_1 fl_tr_30 (by decide) (by decide) (c_1 _ _) (congrArg (fun t => some (Value.int t)) (wI_at I 1 4 (nI b))) ?_
    refine qr_aload_n (pc := 4) d_tr_skipBlanks_4 rfl rfl ?_
    refine qr_get (v := .int (nI n)) (pc := 5) d_tr_skipBlanks_5 fl_tr_26 (by decide) (by decide) (c_1 _ _) (congrArg (fun t => some (Value.int t)) (hn9 b)) ?_
    refine qr_icmp_ge (tgt := 38) (pc := 8) d_tr_skipBlanks_8 (by decide) (fun h8 => ?_) (fun h8 => ?_)
    · skip
      have g8 : n ≤ b := (nI_leI (by omega) (by omega)).mp h8
      have hbe : b = a2 := by omega
      subst hbe
      exact qr_vret (pc := 38) d_tr_skipBlanks_38 rfl ⟨rfl, rfl, rfl⟩ (Nat.zero_le _) (Nat.zero_le _)
    · skip
      have g8 : b < n := Nat.not_le.mp (fun q => h8 (nI_le q (by omega)))
      refine qr_aload_n (pc := 11) d_tr_skipBlanks_11 rfl rfl ?_
      refine qr_get (v := .ref 2) (pc := 12) d_tr_skipBlanks_12 fl_tr_11 (by decide) (by decide) (c_1 _ _) rfl ?_
      refine qr_aload_n (pc := 15) d_tr_skipBlanks_15 rfl rfl ?_
      refine qr_get (v := .int (nI b)) (pc := 16) d_tr_skipBlanks_16 fl_tr_30 (by decide) (by decide) (c_1 _ _) (congrArg (fun t => some (Value.int t)) (wI_at I 1 4 (nI b))) ?_
      refine qr_caldN (j := b) (pc := 19) d_tr_skipBlanks_19 (by decide) (by decide) (c_2 _ _) (by omega) (by decide) ?_
      refine qr_bipush (v := 32) (pc := 20) d_tr_skipBlanks_20 (by decide) ?_
      refine qr_icmp_ne (tgt := 38) (pc := 22) d_tr_skipBlanks_22 (by decide) (fun h22 => ?_) (fun h22 => ?_)
      · skip
        have hbe : b = a2 := by
          rcases Nat.lt_or_ge b a2 with q | q
          · have h9 := hb2 b hx1 q
            exact absurd h9.2 (h22)
          · omega
        subst hbe
        exact qr_vret (pc := 38) d_tr_skipBlanks_38 rfl ⟨rfl, rfl, rfl⟩ (Nat.zero_le _) (Nat.zero_le _)
      · skip
        have hbe : b < a2 := by
          rcases Nat.lt_or_ge b a2 with q | q
          · exact q
          · have e : b = a2 := by omega
            subst e
            exact absurd ⟨g8, h22⟩ hb3
        refine qr_aload_n (pc := 25) d_tr_skipBlanks_25 rfl rfl ?_
        refine qr_dup (pc := 26) d_tr_skipBlanks_26 rfl ?_
        refine qr_get (v := .int (nI b)) (pc := 27) d_tr_skipBlanks_27 fl_tr_30 (by decide) (by decide) (c_1 _ _) (congrArg (fun t => some (Value.int t)) (wI_at I 1 4 (nI b))) ?_
        refine qr_iconst (v := 1) (pc := 30) d_tr_skipBlanks_30 (by decide) ?_
        refine qr_iadd (pc := 31) d_tr_skipBlanks_31 ?_
        refine qr_putI (pc := 32) d_tr_skipBlanks_32 fl_tr_30 (by decide) (by decide) (c_1 _ _) (Nat.le_of_ble_eq_true rfl) (qFit_i _) (fun w => rfl) ?_
        refine qr_goto (tgt := 0) (pc := 35) d_tr_skipBlanks_35 (by decide) ?_
        exact qR_st rfl rfl (by rw [nI_1, wI_wI9]) (ih (b + 1) (by omega) (by omega) (by omega))
  exact qR_st rfl rfl (by rw [wI_self ha]) (loop0 (n - a + 1) a (by omega) (by omega) (by omega))
set_option maxRecDepth 10000 in
theorem s_tr_skipLetters (l : Launch) (x : Bool) (I : Nat → Nat → Int32) (L : Nat → Nat → Int64) (a n : Nat) (ha : I 1 4 = nI a) (hn : I 1 3 = nI n) (ha2 : a ≤ n) (hn2 : n ≤ 60) (a2 : Nat) (hb1 : a ≤ a2) (hb2 : ∀ i, a ≤ i → i < a2 → i < n ∧ ¬ u_let (I 2 i) = 0) (hb3 : ¬ (a2 < n ∧ ¬ u_let (I 2 a2) = 0)) (hb4 : a2 ≤ n) : qSp l y_tr_skipLetters b_tr_skipLetters 1 none x 2 0 0 [.ref 1] 77 (fm I L) (qD none 77 (fm (wI I 1 4 (nI a2)) L)) := by
  refine qSp_of (ini := false) (by decide +kernel) (fun h => nomatch h) (Nat.le_of_ble_eq_true rfl) ?_
  have hn9 : ∀ b, wI I 1 4 (nI b) 1 3 = nI n := fun b => (wI_ne (Or.inr (by decide))).trans hn
  show qR _ _ _ 0 [(0, .ref 1)] [] _ _ _ _
  have loop0 : ∀ (j b : Nat), n - b < j → a ≤ b → b ≤ a2 → qR (l, y_tr_skipLetters.cls, b_tr_skipLetters, 1, none, false, x, 2, 0, 0, 77, q0) (qD none 77 (fm (wI I 1 4 (nI a2)) L)) (fun _ _ _ => False) 0 [(0, .ref 1)] [] 77 0 0 (fm (wI I 1 4 (nI b)) L) := by
    intro j
    induction j with
    | zero => intro b hj; omega
    | succ j ih =>
    intro b hj hx1 hx2
    refine qr_aload_n (pc := 0) d_tr_skipLetters_0 rfl rfl ?_
    refine qr_get (v := .int (nI b)) (pc := 1) d_tr_skipLetters_1 fl_tr_30 (by decide) (by decide) (c_1 _ _) (congrArg (fun t => some (Value.int t)) (wI_at I 1 4 (nI b))) ?_
    refine qr_aload_n (pc := 4) d_tr_skipLetters_4 rfl rfl ?_
    refine qr_get (v := .int (nI n)) (pc := 5) d_tr_skipLetters_5 fl_tr_26 (by decide) (by decide) (c_1 _ _) (congrArg (fun t => some (Value.int t)) (hn9 b)) ?_
    refine qr_icmp_ge (tgt := 39) (pc := 8) d_tr_skipLetters_8 (by decide) (fun h8 => ?_) (fun h8 => ?_)
    · skip
      have g8 : n ≤ b := (nI_leI (by omega) (by omega)).mp h8
      have hbe : b = a2 := by omega
      subst hbe
      exact qr_vret (pc := 39) d_tr_skipLetters_39 rfl ⟨rfl, rfl, rfl⟩ (Nat.zero_le _) (Nat.zero_le _)
    · skip
      have g8 : b < n := Nat.not_le.mp (fun q => h8 (nI_le q (by omega)))
      refine qr_aload_n (pc := 11) d_tr_skipLetters_11 rfl rfl ?_
      refine qr_get (v := .ref 2) (pc := 12) d_tr_skipLetters_12 fl_tr_11 (by decide) (by decide) (c_1 _ _) rfl ?_
      refine qr_aload_n (pc := 15) d_tr_skipLetters_15 rfl rfl ?_
      refine qr_get (v := .int (nI b)) (pc := 16) d_tr_skipLetters_16 fl_tr_30 (by decide) (by decide) (c_1 _ _) (congrArg (fun t => some (Value.int t)) (wI_at I 1 4 (nI b))) ?_
      refine qr_caldN (j := b) (pc := 19) d_tr_skipLetters_19 (by decide) (by decide) (c_2 _ _) (by omega) (by decide) ?_
      refine qr_callS (As := [.int ((wI I 1 4 (nI b)) 2 b)]) (pc := 20) d_tr_skipLetters_20 lk_tr_103 sm_tr_isLetter (s_tr_isLetter _ x _ _ ((wI I 1 4 (nI b)) 2 b)) rfl rfl (Nat.le_of_ble_eq_true rfl) (Nat.le_of_ble_eq_true rfl) (Nat.le_of_ble_eq_true rfl) (Nat.zero_le _) (Nat.zero_le _) (fun h => ⟨h, rfl, Or.inl rfl⟩) (fun v n9 f9 hE20 => ?_)
      obtain ⟨rfl, rfl, rfl⟩ := hE20
      refine qr_if_eq (tgt := 39) (pc := 23) d_tr_skipLetters_23 (by decide) (fun h23 => ?_) (fun h23 => ?_)
      · skip
        have hbe : b = a2 := by
          rcases Nat.lt_or_ge b a2 with q | q
          · have h9 := hb2 b hx1 q
            exact absurd h9.2 (fun q => q h23)
          · omega
        subst hbe
        exact qr_vret (pc := 39) d_tr_skipLetters_39 rfl ⟨rfl, rfl, rfl⟩ (Nat.zero_le _) (Nat.zero_le _)
      · skip
        have hbe : b < a2 := by
          rcases Nat.lt_or_ge b a2 with q | q
          · exact q
          · have e : b = a2 := by omega
            subst e
            exact absurd ⟨g8, h23⟩ hb3
        refine qr_aload_n (pc := 26) d_tr_skipLetters_26 rfl rfl ?_
        refine qr_dup (pc := 27) d_tr_skipLetters_27 rfl ?_
        refine qr_get (v := .int (nI b)) (pc := 28) d_tr_skipLetters_28 fl_tr_30 (by decide) (by decide) (c_1 _ _) (congrArg (fun t => some (Value.int t)) (wI_at I 1 4 (nI b))) ?_
        refine qr_iconst (v := 1) (pc := 31) d_tr_skipLetters_31 (by decide) ?_
        refine qr_iadd (pc := 32) d_tr_skipLetters_32 ?_
        refine qr_putI (pc := 33) d_tr_skipLetters_33 fl_tr_30 (by decide) (by decide) (c_1 _ _) (Nat.le_of_ble_eq_true rfl) (qFit_i _) (fun w => rfl) ?_
        refine qr_goto (tgt := 0) (pc := 36) d_tr_skipLetters_36 (by decide) ?_
        exact qR_st rfl rfl (by rw [nI_1, wI_wI9]) (ih (b + 1) (by omega) (by omega) (by omega))
  exact qR_st rfl rfl (by rw [wI_self ha]) (loop0 (n - a + 1) a (by omega) (by omega) (by omega))
