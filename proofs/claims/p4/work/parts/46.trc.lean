/-! readEndOfPart, canStand -/
def u_ew (I : Nat → Nat → Int32) (a n : Nat) (w : Int32) : Nat → Nat → Int32 := if w = 5 then (if n ≤ a then wI I 1 4 (nI a) else wI (wI I 1 4 (nI a)) 1 6 (nI a)) else if a < n ∧ I 2 a = 59 then wI (wI I 1 4 (nI a)) 1 4 (nI (a + 1)) else wI (wI I 1 4 (nI a)) 1 6 (nI a)
def u_can (I : Nat → Nat → Int32) (w : Int32) : Int32 := if w < 0 ∨ 6 ≤ w then 0 else if w = 4 then (if 0 < I 4 3 ∨ 4 ≤ I 4 5 then 0 else 1) else if w = 3 ∧ 0 < I 4 5 then 0 else if I 3 w.toNatClampNeg = 0 then 1 else 0
theorem w6_nI {t : Int32} (h1 : ¬ t < 0) (h2 : t < 6) : ∃ k : Nat, k < 6 ∧ t = nI k := by
  obtain ⟨k, hk, rfl⟩ := nI_of h1
  exact ⟨k, Nat.not_le.mp (fun q => absurd (nI_le (a := 6) q hk) (Int32.not_le.mpr h2)), rfl⟩
set_option maxRecDepth 10000 in
theorem s_tr_readEndOfPart (l : Launch) (x : Bool) (I : Nat → Nat → Int32) (L : Nat → Nat → Int64) (a n : Nat) (ha : I 1 4 = nI a) (hn : I 1 3 = nI n) (ha2 : a ≤ n) (hn2 : n ≤ 60) (a1 : Nat) (hb1 : a ≤ a1) (hb2 : ∀ i, a ≤ i → i < a1 → i < n ∧ I 2 i = 32) (hb3 : ¬ (a1 < n ∧ I 2 a1 = 32)) (hb4 : a1 ≤ n) (w : Int32) : qSp l y_tr_readEndOfPart b_tr_readEndOfPart 2 none x 3 0 0 [.ref 1, .int w] 77 (fm I L) (qD none 77 (fm (u_ew I a1 n w) L)) := by
  refine qSp_of (ini := false) (by decide +kernel) (fun h => nomatch h) (Nat.le_of_ble_eq_true rfl) ?_
  have hn9 : ∀ b, wI I 1 4 (nI b) 1 3 = nI n := fun b => (wI_ne (Or.inr (by decide))).trans hn
  show qR _ _ _ 0 [(0, .ref 1), (1, .int w)] [] _ _ _ _
  refine qr_aload_n (pc := 0) d_tr_readEndOfPart_0 rfl rfl ?_
  refine qr_callV (q := 1) (As := []) (pc := 1) d_tr_readEndOfPart_1 lk_tr_45 im_tr_skipBlanks se_tr_skipBlanks rfl (by decide) (by decide) (c_1 _ _) (s_tr_skipBlanks _ x I L a n ha hn ha2 hn2 a1 hb1 hb2 hb3 hb4) rfl rfl (Nat.le_of_ble_eq_true rfl) (Nat.le_of_ble_eq_true rfl) (Nat.le_of_ble_eq_true rfl) (Nat.zero_le _) (Nat.zero_le _) (fun h => ⟨h, rfl, Or.inl rfl⟩) (fun v n9 f9 hE1 => ?_)
  obtain ⟨rfl, rfl, rfl⟩ := hE1
  refine qr_iload_n (pc := 4) d_tr_readEndOfPart_4 rfl rfl ?_
  refine qr_iconst (v := 5) (pc := 5) d_tr_readEndOfPart_5 (by decide) ?_
  refine qr_icmp_ne (tgt := 31) (pc := 6) d_tr_readEndOfPart_6 (by decide) (fun h6 => ?_) (fun h6 => ?_)
  · skip
    refine qr_aload_n (pc := 31) d_tr_readEndOfPart_31 rfl rfl ?_
    refine qr_get (v := .int (nI a1)) (pc := 32) d_tr_readEndOfPart_32 fl_tr_30 (by decide) (by decide) (c_1 _ _) (congrArg (fun t => some (Value.int t)) (wI_at I 1 4 (nI a1))) ?_
    refine qr_aload_n (pc := 35) d_tr_readEndOfPart_35 rfl rfl ?_
    refine qr_get (v := .int (nI n)) (pc := 36) d_tr_readEndOfPart_36 fl_tr_26 (by decide) (by decide) (c_1 _ _) (congrArg (fun t => some (Value.int t)) (hn9 a1)) ?_
    refine qr_icmp_ge (tgt := 69) (pc := 39) d_tr_readEndOfPart_39 (by decide) (fun h39 => ?_) (fun h39 => ?_)
    · skip
      have g39 : n ≤ a1 := (nI_leI (by omega) (by omega)).mp h39
      have k39 : ¬ a1 < n := by omega
      refine qr_aload_n (pc := 69) d_tr_readEndOfPart_69 rfl rfl ?_
      refine qr_aload_n (pc := 70) d_tr_readEndOfPart_70 rfl rfl ?_
      refine qr_get (v := .int (nI a1)) (pc := 71) d_tr_readEndOfPart_71 fl_tr_30 (by decide) (by decide) (c_1 _ _) (congrArg (fun t => some (Value.int t)) (wI_at I 1 4 (nI a1))) ?_
      refine qr_putI (pc := 74) d_tr_readEndOfPart_74 fl_tr_36 (by decide) (by decide) (c_1 _ _) (Nat.le_of_ble_eq_true rfl) (qFit_i _) (fun w => rfl) ?_
      exact qr_vret (pc := 77) d_tr_readEndOfPart_77 rfl ⟨rfl, rfl, (by first | (simp [u_ew, *]; done) | (congr 1; grind [u_ew]))⟩ (Nat.zero_le _) (Nat.zero_le _)
    · skip
      have g39 : ¬ n ≤ a1 := fun q => h39 (nI_le q (by omega))
      have k39 : a1 < n := by omega
      refine qr_aload_n (pc := 42) d_tr_readEndOfPart_42 rfl rfl ?_
      refine qr_get (v := .ref 2) (pc := 43) d_tr_readEndOfPart_43 fl_tr_11 (by decide) (by decide) (c_1 _ _) rfl ?_
      refine qr_aload_n (pc := 46) d_tr_readEndOfPart_46 rfl rfl ?_
      refine qr_get (v := .int (nI a1)) (pc := 47) d_tr_readEndOfPart_47 fl_tr_30 (by decide) (by decide) (c_1 _ _) (congrArg (fun t => some (Value.int t)) (wI_at I 1 4 (nI a1))) ?_
      refine qr_caldN (j := a1) (pc := 50) d_tr_readEndOfPart_50 (by decide) (by decide) (c_2 _ _) (by omega) (by decide) ?_
      refine qR_st (st' := [.int (I 2 a1)]) rfl (by rw [(show (wI I 1 4 (nI a1)) 2 a1 = I 2 a1 from rfl)] <;> rfl) rfl ?_
      refine qr_bipush (v := 59) (pc := 51) d_tr_readEndOfPart_51 (by decide) ?_
      refine qr_icmp_ne (tgt := 69) (pc := 53) d_tr_readEndOfPart_53 (by decide) (fun h53 => ?_) (fun h53 => ?_)
      · skip
        refine qr_aload_n (pc := 69) d_tr_readEndOfPart_69 rfl rfl ?_
        refine qr_aload_n (pc := 70) d_tr_readEndOfPart_70 rfl rfl ?_
        refine qr_get (v := .int (nI a1)) (pc := 71) d_tr_readEndOfPart_71 fl_tr_30 (by decide) (by decide) (c_1 _ _) (congrArg (fun t => some (Value.int t)) (wI_at I 1 4 (nI a1))) ?_
        refine qr_putI (pc := 74) d_tr_readEndOfPart_74 fl_tr_36 (by decide) (by decide) (c_1 _ _) (Nat.le_of_ble_eq_true rfl) (qFit_i _) (fun w => rfl) ?_
        exact qr_vret (pc := 77) d_tr_readEndOfPart_77 rfl ⟨rfl, rfl, (by first | (simp [u_ew, *]; done) | (congr 1; grind [u_ew]))⟩ (Nat.zero_le _) (Nat.zero_le _)
      · skip
        refine qr_aload_n (pc := 56) d_tr_readEndOfPart_56 rfl rfl ?_
        refine qr_dup (pc := 57) d_tr_readEndOfPart_57 rfl ?_
        refine qr_get (v := .int (nI a1)) (pc := 58) d_tr_readEndOfPart_58 fl_tr_30 (by decide) (by decide) (c_1 _ _) (congrArg (fun t => some (Value.int t)) (wI_at I 1 4 (nI a1))) ?_
        refine qr_iconst (v := 1) (pc := 61) d_tr_readEndOfPart_61 (by decide) ?_
        refine qr_iadd (pc := 62) d_tr_readEndOfPart_62 ?_
        refine qR_st (st' := [.int (nI (a1 + 1)), .ref 1]) rfl (by rw [nI_1] <;> rfl) rfl ?_
        refine qr_putI (pc := 63) d_tr_readEndOfPart_63 fl_tr_30 (by decide) (by decide) (c_1 _ _) (Nat.le_of_ble_eq_true rfl) (qFit_i _) (fun w => rfl) ?_
        refine qr_goto (tgt := 77) (pc := 66) d_tr_readEndOfPart_66 (by decide) ?_
        exact qr_vret (pc := 77) d_tr_readEndOfPart_77 rfl ⟨rfl, rfl, (by first | (simp [u_ew, *]; done) | (congr 1; grind [u_ew]))⟩ (Nat.zero_le _) (Nat.zero_le _)
  · skip
    refine qr_aload_n (pc := 9) d_tr_readEndOfPart_9 rfl rfl ?_
    refine qr_get (v := .int (nI a1)) (pc := 10) d_tr_readEndOfPart_10 fl_tr_30 (by decide) (by decide) (c_1 _ _) (congrArg (fun t => some (Value.int t)) (wI_at I 1 4 (nI a1))) ?_
    refine qr_aload_n (pc := 13) d_tr_readEndOfPart_13 rfl rfl ?_
    refine qr_get (v := .int (nI n)) (pc := 14) d_tr_readEndOfPart_14 fl_tr_26 (by decide) (by decide) (c_1 _ _) (congrArg (fun t => some (Value.int t)) (hn9 a1)) ?_
    refine qr_icmp_ge (tgt := 77) (pc := 17) d_tr_readEndOfPart_17 (by decide) (fun h17 => ?_) (fun h17 => ?_)
    · skip
      have g17 : n ≤ a1 := (nI_leI (by omega) (by omega)).mp h17
      exact qr_vret (pc := 77) d_tr_readEndOfPart_77 rfl ⟨rfl, rfl, (by first | (simp [u_ew, *]; done) | (congr 1; grind [u_ew]))⟩ (Nat.zero_le _) (Nat.zero_le _)
    · skip
      have g17 : ¬ n ≤ a1 := fun q => h17 (nI_le q (by omega))
      refine qr_aload_n (pc := 20) d_tr_readEndOfPart_20 rfl rfl ?_
      refine qr_aload_n (pc := 21) d_tr_readEndOfPart_21 rfl rfl ?_
      refine qr_get (v := .int (nI a1)) (pc := 22) d_tr_readEndOfPart_22 fl_tr_30 (by decide) (by decide) (c_1 _ _) (congrArg (fun t => some (Value.int t)) (wI_at I 1 4 (nI a1))) ?_
      refine qr_putI (pc := 25) d_tr_readEndOfPart_25 fl_tr_36 (by decide) (by decide) (c_1 _ _) (Nat.le_of_ble_eq_true rfl) (qFit_i _) (fun w => rfl) ?_
      refine qr_goto (tgt := 77) (pc := 28) d_tr_readEndOfPart_28 (by decide) ?_
      exact qr_vret (pc := 77) d_tr_readEndOfPart_77 rfl ⟨rfl, rfl, (by first | (simp [u_ew, *]; done) | (congr 1; grind [u_ew]))⟩ (Nat.zero_le _) (Nat.zero_le _)
set_option maxRecDepth 10000 in
theorem s_tr_canStand (l : Launch) (x : Bool) (I : Nat → Nat → Int32) (L : Nat → Nat → Int64) (w : Int32) : qSp l y_tr_canStand b_tr_canStand 2 (some .boolean) x 2 0 0 [.ref 1, .int w] 77 (fm I L) (qD (some (.int (u_can I w))) 77 (fm I L)) := by
  refine qSp_of (ini := false) (by decide +kernel) (fun h => nomatch h) (Nat.le_of_ble_eq_true rfl) ?_
  show qR _ _ _ 0 [(0, .ref 1), (1, .int w)] [] _ _ _ _
  refine qr_iload_n (pc := 0) d_tr_canStand_0 rfl rfl ?_
  refine qr_if_lt (tgt := 10) (pc := 1) d_tr_canStand_1 (by decide) (fun h1 => ?_) (fun h1 => ?_)
  · skip
    refine qr_iconst (v := 0) (pc := 10) d_tr_canStand_10 (by decide) ?_
    exact qr_iret (pc := 11) d_tr_canStand_11 rfl rfl ⟨(by first | (simp [u_can, *]; done) | grind [u_can]), rfl, rfl⟩ (Nat.zero_le _) (Nat.zero_le _)
  · skip
    refine qr_iload_n (pc := 4) d_tr_canStand_4 rfl rfl ?_
    refine qr_bipush (v := 6) (pc := 5) d_tr_canStand_5 (by decide) ?_
    refine qr_icmp_lt (tgt := 12) (pc := 7) d_tr_canStand_7 (by decide) (fun h7 => ?_) (fun h7 => ?_)
    · skip
      have g7 := Int32.not_le.mpr h7
      obtain ⟨w9, hw9, rfl⟩ := w6_nI h1 h7
      have wcl : (nI w9).toNatClampNeg = w9 := nI_clamp (by omega)
      refine qr_iload_n (pc := 12) d_tr_canStand_12 rfl rfl ?_
      refine qr_iconst (v := 4) (pc := 13) d_tr_canStand_13 (by decide) ?_
      refine qr_icmp_ne (tgt := 44) (pc := 14) d_tr_canStand_14 (by decide) (fun h14 => ?_) (fun h14 => ?_)
      · skip
        refine qr_iload_n (pc := 44) d_tr_canStand_44 rfl rfl ?_
        refine qr_iconst (v := 3) (pc := 45) d_tr_canStand_45 (by decide) ?_
        refine qr_icmp_ne (tgt := 61) (pc := 46) d_tr_canStand_46 (by decide) (fun h46 => ?_) (fun h46 => ?_)
        · skip
          refine qr_aload_n (pc := 61) d_tr_canStand_61 rfl rfl ?_
          refine qr_get (v := .ref 3) (pc := 62) d_tr_canStand_62 fl_tr_15 (by decide) (by decide) (c_1 _ _) rfl ?_
          refine qr_iload_n (pc := 65) d_tr_canStand_65 rfl rfl ?_
          refine qr_zaldN (j := w9) (pc := 66) d_tr_canStand_66 (by decide) (by decide) (c_3 _ _) (by omega) (by decide) ?_
          refine qr_if_ne (tgt := 74) (pc := 67) d_tr_canStand_67 (by decide) (fun h67 => ?_) (fun h67 => ?_)
          · skip
            refine qr_iconst (v := 0) (pc := 74) d_tr_canStand_74 (by decide) ?_
            exact qr_iret (pc := 75) d_tr_canStand_75 rfl rfl ⟨(by first | (simp [u_can, *]; done) | grind [u_can]), rfl, rfl⟩ (Nat.zero_le _) (Nat.zero_le _)
          · skip
            refine qr_iconst (v := 1) (pc := 70) d_tr_canStand_70 (by decide) ?_
            refine qr_goto (tgt := 75) (pc := 71) d_tr_canStand_71 (by decide) ?_
            exact qr_iret (pc := 75) d_tr_canStand_75 rfl rfl ⟨(by first | (simp [u_can, *]; done) | grind [u_can]), rfl, rfl⟩ (Nat.zero_le _) (Nat.zero_le _)
        · skip
          refine qr_aload_n (pc := 49) d_tr_canStand_49 rfl rfl ?_
          refine qr_get (v := .ref 4) (pc := 50) d_tr_canStand_50 fl_tr_22 (by decide) (by decide) (c_1 _ _) rfl ?_
          refine qr_callV (q := 4) (As := []) (pc := 53) d_tr_canStand_53 lk_tr_70 im_tf_tiers se_tf_tiers rfl (by decide) (by decide) (c_4 _ _) (s_tf_tiers _ x I L) rfl rfl (Nat.le_of_ble_eq_true rfl) (Nat.le_of_ble_eq_true rfl) (Nat.le_of_ble_eq_true rfl) (Nat.zero_le _) (Nat.zero_le _) (fun h => ⟨h, rfl, Or.inl rfl⟩) (fun v n9 f9 hE53 => ?_)
          obtain ⟨rfl, rfl, rfl⟩ := hE53
          refine qr_if_le (tgt := 61) (pc := 56) d_tr_canStand_56 (by decide) (fun h56 => ?_) (fun h56 => ?_)
          · skip
            have g56 := Int32.not_lt.mpr h56
            refine qr_aload_n (pc := 61) d_tr_canStand_61 rfl rfl ?_
            refine qr_get (v := .ref 3) (pc := 62) d_tr_canStand_62 fl_tr_15 (by decide) (by decide) (c_1 _ _) rfl ?_
            refine qr_iload_n (pc := 65) d_tr_canStand_65 rfl rfl ?_
            refine qr_zaldN (j := w9) (pc := 66) d_tr_canStand_66 (by decide) (by decide) (c_3 _ _) (by omega) (by decide) ?_
            refine qr_if_ne (tgt := 74) (pc := 67) d_tr_canStand_67 (by decide) (fun h67 => ?_) (fun h67 => ?_)
            · skip
              refine qr_iconst (v := 0) (pc := 74) d_tr_canStand_74 (by decide) ?_
              exact qr_iret (pc := 75) d_tr_canStand_75 rfl rfl ⟨(by first | (simp [u_can, *]; done) | grind [u_can]), rfl, rfl⟩ (Nat.zero_le _) (Nat.zero_le _)
            · skip
              refine qr_iconst (v := 1) (pc := 70) d_tr_canStand_70 (by decide) ?_
              refine qr_goto (tgt := 75) (pc := 71) d_tr_canStand_71 (by decide) ?_
              exact qr_iret (pc := 75) d_tr_canStand_75 rfl rfl ⟨(by first | (simp [u_can, *]; done) | grind [u_can]), rfl, rfl⟩ (Nat.zero_le _) (Nat.zero_le _)
          · skip
            have g56 := Int32.not_le.mp h56
            refine qr_iconst (v := 0) (pc := 59) d_tr_canStand_59 (by decide) ?_
            exact qr_iret (pc := 60) d_tr_canStand_60 rfl rfl ⟨(by first | (simp [u_can, *]; done) | grind [u_can]), rfl, rfl⟩ (Nat.zero_le _) (Nat.zero_le _)
      · skip
        refine qr_aload_n (pc := 17) d_tr_canStand_17 rfl rfl ?_
        refine qr_get (v := .ref 4) (pc := 18) d_tr_canStand_18 fl_tr_22 (by decide) (by decide) (c_1 _ _) rfl ?_
        refine qr_callV (q := 4) (As := []) (pc := 21) d_tr_canStand_21 lk_tr_66 im_tf_hasPack se_tf_hasPack rfl (by decide) (by decide) (c_4 _ _) (s_tf_hasPack _ x I L) rfl rfl (Nat.le_of_ble_eq_true rfl) (Nat.le_of_ble_eq_true rfl) (Nat.le_of_ble_eq_true rfl) (Nat.zero_le _) (Nat.zero_le _) (fun h => ⟨h, rfl, Or.inl rfl⟩) (fun v n9 f9 hE21 => ?_)
        obtain ⟨rfl, rfl, rfl⟩ := hE21
        refine qr_if_ne (tgt := 42) (pc := 24) d_tr_canStand_24 (by decide) (fun h24 => ?_) (fun h24 => ?_)
        · skip
          simp only [b01, Decidable.not_not] at h24
          refine qr_iconst (v := 0) (pc := 42) d_tr_canStand_42 (by decide) ?_
          exact qr_iret (pc := 43) d_tr_canStand_43 rfl rfl ⟨(by first | (simp [u_can, *]; done) | grind [u_can]), rfl, rfl⟩ (Nat.zero_le _) (Nat.zero_le _)
        · skip
          simp only [b01, Decidable.not_not] at h24
          refine qr_aload_n (pc := 27) d_tr_canStand_27 rfl rfl ?_
          refine qr_get (v := .ref 4) (pc := 28) d_tr_canStand_28 fl_tr_22 (by decide) (by decide) (c_1 _ _) rfl ?_
          refine qr_callV (q := 4) (As := []) (pc := 31) d_tr_canStand_31 lk_tr_70 im_tf_tiers se_tf_tiers rfl (by decide) (by decide) (c_4 _ _) (s_tf_tiers _ x I L) rfl rfl (Nat.le_of_ble_eq_true rfl) (Nat.le_of_ble_eq_true rfl) (Nat.le_of_ble_eq_true rfl) (Nat.zero_le _) (Nat.zero_le _) (fun h => ⟨h, rfl, Or.inl rfl⟩) (fun v n9 f9 hE31 => ?_)
          obtain ⟨rfl, rfl, rfl⟩ := hE31
          refine qr_iconst (v := 4) (pc := 34) d_tr_canStand_34 (by decide) ?_
          refine qr_icmp_ge (tgt := 42) (pc := 35) d_tr_canStand_35 (by decide) (fun h35 => ?_) (fun h35 => ?_)
          · skip
            skip
            refine qr_iconst (v := 0) (pc := 42) d_tr_canStand_42 (by decide) ?_
            exact qr_iret (pc := 43) d_tr_canStand_43 rfl rfl ⟨(by first | (simp [u_can, *]; done) | grind [u_can]), rfl, rfl⟩ (Nat.zero_le _) (Nat.zero_le _)
          · skip
            refine qr_iconst (v := 1) (pc := 38) d_tr_canStand_38 (by decide) ?_
            refine qr_goto (tgt := 43) (pc := 39) d_tr_canStand_39 (by decide) ?_
            exact qr_iret (pc := 43) d_tr_canStand_43 rfl rfl ⟨(by first | (simp [u_can, *]; done) | grind [u_can]), rfl, rfl⟩ (Nat.zero_le _) (Nat.zero_le _)
    · skip
      have g7 := Int32.not_lt.mp h7
      refine qr_iconst (v := 0) (pc := 10) d_tr_canStand_10 (by decide) ?_
      exact qr_iret (pc := 11) d_tr_canStand_11 rfl rfl ⟨(by first | (simp [u_can, *]; done) | grind [u_can]), rfl, rfl⟩ (Nat.zero_le _) (Nat.zero_le _)
