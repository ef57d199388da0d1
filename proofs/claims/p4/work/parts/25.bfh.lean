def u_sh : Nat → Int32
  | 0 => 56
  | i + 1 => u_sh i + (-8)
theorem u_sh_neg : ∀ i, i < 9 → (u_sh i < 0 ↔ i = 8) := by decide +kernel
def cb (w : Int64) (i : Nat) : Int32 := (Int64.toInt32 (((Int64.toUInt64 w) >>> ((Int32.toInt64 (u_sh i)).toUInt64 &&& Int64.toUInt64 63)).toInt64)) &&& 255
def ib9 (x : Int32) : Nat := if x = 0 then 0 else 1
def u_cN (w : Int64) : Nat → Nat
  | 0 => 0
  | i + 1 => u_cN w i + ib9 (cb w i)
theorem u_cN_le (w : Int64) : ∀ k, u_cN w k ≤ k
  | 0 => Nat.le_refl 0
  | k + 1 => by
    have := u_cN_le w k
    unfold u_cN ib9
    split <;> omega
theorem u_cN_mono (w : Int64) : ∀ i j, i ≤ j → u_cN w i ≤ u_cN w j
  | i, 0, h => by rw [show i = 0 by omega]; exact Nat.le_refl _
  | i, j + 1, h => by
    by_cases e : i = j + 1
    · rw [e]; exact Nat.le_refl _
    · have := u_cN_mono w i j (by omega)
      simp only [u_cN]
      omega
def u_anyb (w : Int64) : Nat → Bool
  | 0 => false
  | i + 1 => u_anyb w i || (!(cb w i == 0) && (decide (cb w i < 32) || decide (126 < cb w i)))
theorem u_anyb_hit {w : Int64} {k : Nat} (h1 : ¬ cb w k = 0) (h2 : cb w k < 32 ∨ 126 < cb w k) : ∀ z, k < z → u_anyb w z = true
  | z + 1, hz => by
    by_cases e : k = z
    · subst e
      unfold u_anyb
      rw [beq_eq_false_iff_ne.mpr h1]
      rcases h2 with h2 | h2 <;> simp [h2]
    · unfold u_anyb
      rw [u_anyb_hit h1 h2 z (by omega)]
      rfl
theorem u_anyb_ok {w : Int64} {k : Nat} (h0 : u_anyb w k = false) (h : cb w k = 0 ∨ (¬ cb w k < 32 ∧ ¬ 126 < cb w k)) : u_anyb w (k + 1) = false := by
  unfold u_anyb
  rw [h0]
  rcases h with h | h
  · rw [h]; rfl
  · rw [decide_eq_false h.1, decide_eq_false h.2]; simp
def u_ap (I : Nat → Nat → Int32) (w : Int64) (n : Nat) : Nat → Nat → Nat → Int32
  | 0 => I
  | i + 1 => if cb w i = 0 then u_ap I w n i else wI (wI (u_ap I w n i) 2 (n + u_cN w i) (vp_nar .char (((Int32.toUInt32 (cb w i)) % 65536).toInt32))) 1 3 (nI (n + u_cN w i + 1))
theorem u_ap_3 {I : Nat → Nat → Int32} {w : Int64} {n : Nat} (h : I 1 3 = nI n) : ∀ i, u_ap I w n i 1 3 = nI (n + u_cN w i)
  | 0 => h
  | i + 1 => by
    simp only [u_ap, u_cN, ib9]
    split
    · exact u_ap_3 h i
    · rw [wI_at]; rfl
set_option maxRecDepth 10000 in
theorem s_tr_charactersIn (l : Launch) (x : Bool) (n : Nat) (f : Nat → va_E) (w : Int64) : qSp l y_tr_charactersIn b_tr_charactersIn 5 (some .int) x 1 0 0 [.long w] n f (qD (some (.int (if u_anyb w 8 = true then (-1) else nI (u_cN w 8)))) n f) := by
  refine qSp_of (ini := false) (by decide +kernel) (fun h => nomatch h) (Nat.le_of_ble_eq_true rfl) ?_
  show qR _ _ _ 0 [(0, .long w)] [] _ _ _ _
  refine qr_iconst (v := 0) (pc := 0) d_tr_charactersIn_0 (by decide) ?_
  refine qr_istore_n (lv' := [(2, .int 0), (0, .long w)]) (pc := 1) d_tr_charactersIn_1 rfl (Nat.le_of_ble_eq_true rfl) rfl ?_
  refine qr_bipush (v := 56) (pc := 2) d_tr_charactersIn_2 (by decide) ?_
  refine qr_istore_n (lv' := [(3, .int 56), (2, .int 0), (0, .long w)]) (pc := 4) d_tr_charactersIn_4 rfl (Nat.le_of_ble_eq_true rfl) rfl ?_
  have loop5 : ∀ (j i : Nat), 8 - i < j → i ≤ 8 → u_anyb w i = false → qR (l, y_tr_charactersIn.cls, b_tr_charactersIn, 5, (some .int), false, x, 1, 0, 0, n, q0) (qD (some (.int (if u_anyb w 8 = true then (-1) else nI (u_cN w 8)))) n f) (fun _ _ _ => False) 5 [(3, .int (u_sh i)), (2, .int (nI (u_cN w i))), (0, .long w)] [] n 0 0 f := by
    intro j
    induction j with
    | zero => intro i hj; omega
    | succ j ih =>
    intro i hj hi hu
    refine qr_iload_n (pc := 5) d_tr_charactersIn_5 rfl rfl ?_
    refine qr_if_lt (tgt := 49) (pc := 6) d_tr_charactersIn_6 (by decide) (fun h6 => ?_) (fun h6 => ?_)
    · skip
      have hi8 : 8 = i := ((u_sh_neg i (by omega)).mp h6).symm
      subst hi8
      refine qr_iload_n (pc := 49) d_tr_charactersIn_49 rfl rfl ?_
      exact qr_iret (pc := 50) d_tr_charactersIn_50 rfl rfl ⟨(by simp [*]), rfl, rfl⟩ (Nat.zero_le _) (Nat.zero_le _)
    · skip
      have hi8 : i < 8 := by
        rcases Nat.lt_or_ge i 8 with q | q
        · exact q
        · exact absurd ((u_sh_neg i (by omega)).mpr (by omega)) h6
      refine qr_lload_n (pc := 9) d_tr_charactersIn_9 rfl rfl ?_
      refine qr_iload_n (pc := 10) d_tr_charactersIn_10 rfl rfl ?_
      refine qr_lushr (pc := 11) d_tr_charactersIn_11 ?_
      refine qr_l2i (pc := 12) d_tr_charactersIn_12 ?_
      refine qr_sipush (v := 255) (pc := 13) d_tr_charactersIn_13 (by decide) ?_
      refine qr_iand (pc := 16) d_tr_charactersIn_16 ?_
      refine qR_st (st' := [.int (cb w i)]) rfl rfl rfl ?_
      refine qr_istore (lv' := [(4, .int (cb w i)), (3, .int (u_sh i)), (2, .int (nI (u_cN w i))), (0, .long w)]) (pc := 17) d_tr_charactersIn_17 (Nat.le_of_ble_eq_true rfl) rfl ?_
      refine qr_iload (pc := 19) d_tr_charactersIn_19 rfl ?_
      refine qr_if_eq (tgt := 43) (pc := 21) d_tr_charactersIn_21 (by decide) (fun h21 => ?_) (fun h21 => ?_)
      · skip
        refine qr_iinc (v := (u_sh i) + (-8)) (lv' := [(3, .int ((u_sh i) + (-8))), (4, .int (cb w i)), (2, .int (nI (u_cN w i))), (0, .long w)]) (pc := 43) d_tr_charactersIn_43 rfl rfl (Nat.le_of_ble_eq_true rfl) rfl ?_
        refine qr_goto (tgt := 5) (pc := 46) d_tr_charactersIn_46 (by decide) ?_
        refine qR_sub (lv' := [(3, .int ((u_sh i) + (-8))), (2, .int (nI (u_cN w i))), (0, .long w)]) [0, 2, 3] rfl ?_
        exact qR_st (by first | (simp [u_cN, ib9, u_sh, *]; done) | (simp only [u_cN, ib9, u_sh, h21, if_true, if_false, reduceIte]; done)) rfl rfl (ih (i + 1) (by omega) (by omega) (u_anyb_ok hu (by first | exact Or.inl h21 | exact Or.inr ⟨h28, g35⟩)))
      · skip
        refine qr_iload (pc := 24) d_tr_charactersIn_24 rfl ?_
        refine qr_bipush (v := 32) (pc := 26) d_tr_charactersIn_26 (by decide) ?_
        refine qr_icmp_lt (tgt := 38) (pc := 28) d_tr_charactersIn_28 (by decide) (fun h28 => ?_) (fun h28 => ?_)
        · skip
          have hb := u_anyb_hit h21 (Or.inl h28) 8 hi8
          refine qr_iconst (v := (-1)) (pc := 38) d_tr_charactersIn_38 (by decide) ?_
          exact qr_iret (pc := 39) d_tr_charactersIn_39 rfl rfl ⟨(by simp [*]), rfl, rfl⟩ (Nat.zero_le _) (Nat.zero_le _)
        · skip
          refine qr_iload (pc := 31) d_tr_charactersIn_31 rfl ?_
          refine qr_bipush (v := 126) (pc := 33) d_tr_charactersIn_33 (by decide) ?_
          refine qr_icmp_le (tgt := 40) (pc := 35) d_tr_charactersIn_35 (by decide) (fun h35 => ?_) (fun h35 => ?_)
          · skip
            have g35 := Int32.not_lt.mpr h35
            refine qr_iinc (v := nI ((u_cN w i) + 1)) (lv' := [(2, .int (nI ((u_cN w i) + 1))), (4, .int (cb w i)), (3, .int (u_sh i)), (0, .long w)]) (pc := 40) d_tr_charactersIn_40 rfl (nI_1 (u_cN w i)) (Nat.le_of_ble_eq_true rfl) rfl ?_
            refine qr_iinc (v := (u_sh i) + (-8)) (lv' := [(3, .int ((u_sh i) + (-8))), (2, .int (nI ((u_cN w i) + 1))), (4, .int (cb w i)), (0, .long w)]) (pc := 43) d_tr_charactersIn_43 rfl rfl (Nat.le_of_ble_eq_true rfl) rfl ?_
            refine qr_goto (tgt := 5) (pc := 46) d_tr_charactersIn_46 (by decide) ?_
            refine qR_sub (lv' := [(3, .int ((u_sh i) + (-8))), (2, .int (nI ((u_cN w i) + 1))), (0, .long w)]) [0, 1, 3] rfl ?_
            exact qR_st (by first | (simp [u_cN, ib9, u_sh, *]; done) | (simp only [u_cN, ib9, u_sh, h21, if_true, if_false, reduceIte]; done)) rfl rfl (ih (i + 1) (by omega) (by omega) (u_anyb_ok hu (by first | exact Or.inl h21 | exact Or.inr ⟨h28, g35⟩)))
          · skip
            have hb := u_anyb_hit h21 (Or.inr (Int32.not_le.mp h35)) 8 hi8
            refine qr_iconst (v := (-1)) (pc := 38) d_tr_charactersIn_38 (by decide) ?_
            exact qr_iret (pc := 39) d_tr_charactersIn_39 rfl rfl ⟨(by simp [*]), rfl, rfl⟩ (Nat.zero_le _) (Nat.zero_le _)
  exact loop5 9 0 (by omega) (by omega) rfl
set_option maxRecDepth 10000 in
theorem s_tr_append (l : Launch) (x : Bool) (I : Nat → Nat → Int32) (L : Nat → Nat → Int64) (n : Nat) (hn : I 1 3 = nI n) (w : Int64) (hn2 : n + u_cN w 8 ≤ 60) : qSp l y_tr_append b_tr_append 5 none x 1 0 0 [.ref 1, .long w] 77 (fm I L) (qD none 77 (fm (u_ap I w n 8) L)) := by
  refine qSp_of (ini := false) (by decide +kernel) (fun h => nomatch h) (Nat.le_of_ble_eq_true rfl) ?_
  show qR _ _ _ 0 [(0, .ref 1), (1, .long w)] [] _ _ _ _
  refine qr_bipush (v := 56) (pc := 0) d_tr_append_0 (by decide) ?_
  refine qr_istore_n (lv' := [(3, .int 56), (0, .ref 1), (1, .long w)]) (pc := 2) d_tr_append_2 rfl (Nat.le_of_ble_eq_true rfl) rfl ?_
  have loop3 : ∀ (j i : Nat), 8 - i < j → i ≤ 8 → qR (l, y_tr_append.cls, b_tr_append, 5, none, false, x, 1, 0, 0, 77, q0) (qD none 77 (fm (u_ap I w n 8) L)) (fun _ _ _ => False) 3 [(3, .int (u_sh i)), (0, .ref 1), (1, .long w)] [] 77 0 0 (fm (u_ap I w n i) L) := by
    intro j
    induction j with
    | zero => intro i hj; omega
    | succ j ih =>
    intro i hj hi
    have hlen : (u_ap I w n i) 1 3 = nI (n + u_cN w i) := u_ap_3 hn i
    refine qr_iload_n (pc := 3) d_tr_append_3 rfl rfl ?_
    refine qr_if_lt (tgt := 59) (pc := 4) d_tr_append_4 (by decide) (fun h4 => ?_) (fun h4 => ?_)
    · skip
      have hi8 : 8 = i := ((u_sh_neg i (by omega)).mp h4).symm
      subst hi8
      exact qr_vret (pc := 59) d_tr_append_59 rfl ⟨rfl, rfl, rfl⟩ (Nat.zero_le _) (Nat.zero_le _)
    · skip
      have hi8 : i < 8 := by
        rcases Nat.lt_or_ge i 8 with q | q
        · exact q
        · exact absurd ((u_sh_neg i (by omega)).mpr (by omega)) h4
      refine qr_lload_n (pc := 7) d_tr_append_7 rfl rfl ?_
      refine qr_iload_n (pc := 8) d_tr_append_8 rfl rfl ?_
      refine qr_lushr (pc := 9) d_tr_append_9 ?_
      refine qr_l2i (pc := 10) d_tr_append_10 ?_
      refine qr_sipush (v := 255) (pc := 11) d_tr_append_11 (by decide) ?_
      refine qr_iand (pc := 14) d_tr_append_14 ?_
      refine qR_st (st' := [.int (cb w i)]) rfl rfl rfl ?_
      refine qr_istore (lv' := [(4, .int (cb w i)), (3, .int (u_sh i)), (0, .ref 1), (1, .long w)]) (pc := 15) d_tr_append_15 (Nat.le_of_ble_eq_true rfl) rfl ?_
      refine qr_iload (pc := 17) d_tr_append_17 rfl ?_
      refine qr_if_eq (tgt := 53) (pc := 19) d_tr_append_19 (by decide) (fun h19 => ?_) (fun h19 => ?_)
      · skip
        refine qr_iinc (v := (u_sh i) + (-8)) (lv' := [(3, .int ((u_sh i) + (-8))), (4, .int (cb w i)), (0, .ref 1), (1, .long w)]) (pc := 53) d_tr_append_53 rfl rfl (Nat.le_of_ble_eq_true rfl) rfl ?_
        refine qr_goto (tgt := 3) (pc := 56) d_tr_append_56 (by decide) ?_
        refine qR_sub (lv' := [(3, .int ((u_sh i) + (-8))), (0, .ref 1), (1, .long w)]) [0, 2, 3] rfl ?_
        exact qR_st rfl rfl (by simp [u_ap, nI_1, *]) (ih (i + 1) (by omega) (by omega))
      · skip
        have hc1 : u_cN w (i + 1) = u_cN w i + 1 := by simp [u_cN, ib9, h19]
        have hm9 := u_cN_mono w (i + 1) 8 (by omega)
        refine qr_aload_n (pc := 22) d_tr_append_22 rfl rfl ?_
        refine qr_get (v := .int (nI (n + u_cN w i))) (pc := 23) d_tr_append_23 fl_tr_26 (by decide) (by decide) (c_1 _ _) (congrArg (fun t => some (Value.int t)) hlen) ?_
        refine qr_bipush (v := 60) (pc := 26) d_tr_append_26 (by decide) ?_
        refine qr_icmp_ge (tgt := 53) (pc := 28) d_tr_append_28 (by decide) (fun h28 => ?_) (fun h28 => ?_)
        · skip
          exact absurd ((nI_leI (a := 60) (b := n + u_cN w i) (by omega) (by omega)).mp h28) (by omega)
        · skip
          refine qr_aload_n (pc := 31) d_tr_append_31 rfl rfl ?_
          refine qr_get (v := .ref 2) (pc := 32) d_tr_append_32 fl_tr_11 (by decide) (by decide) (c_1 _ _) rfl ?_
          refine qr_aload_n (pc := 35) d_tr_append_35 rfl rfl ?_
          refine qr_get (v := .int (nI (n + u_cN w i))) (pc := 36) d_tr_append_36 fl_tr_26 (by decide) (by decide) (c_1 _ _) (congrArg (fun t => some (Value.int t)) hlen) ?_
          refine qr_iload (pc := 39) d_tr_append_39 rfl ?_
          refine qr_i2c (pc := 41) d_tr_append_41 ?_
          refine qr_castMN (j := (n + u_cN w i)) (pc := 42) d_tr_append_42 (by decide) (by decide) (c_2 _ _) (by omega) (by decide) (fun w => rfl) ?_
          refine qr_aload_n (pc := 43) d_tr_append_43 rfl rfl ?_
          refine qr_dup (pc := 44) d_tr_append_44 rfl ?_
          refine qr_get (v := .int (nI (n + u_cN w i))) (pc := 45) d_tr_append_45 fl_tr_26 (by decide) (by decide) (c_1 _ _) (congrArg (fun t => some (Value.int t)) hlen) ?_
          refine qr_iconst (v := 1) (pc := 48) d_tr_append_48 (by decide) ?_
          refine qr_iadd (pc := 49) d_tr_append_49 ?_
          refine qr_putI (pc := 50) d_tr_append_50 fl_tr_26 (by decide) (by decide) (c_1 _ _) (Nat.le_of_ble_eq_true rfl) (qFit_i _) (fun w => rfl) ?_
          refine qr_iinc (v := (u_sh i) + (-8)) (lv' := [(3, .int ((u_sh i) + (-8))), (4, .int (cb w i)), (0, .ref 1), (1, .long w)]) (pc := 53) d_tr_append_53 rfl rfl (Nat.le_of_ble_eq_true rfl) rfl ?_
          refine qr_goto (tgt := 3) (pc := 56) d_tr_append_56 (by decide) ?_
          refine qR_sub (lv' := [(3, .int ((u_sh i) + (-8))), (0, .ref 1), (1, .long w)]) [0, 2, 3] rfl ?_
          exact qR_st rfl rfl (by simp [u_ap, nI_1, *]) (ih (i + 1) (by omega) (by omega))
  exact loop3 9 0 (by omega) (by omega)
set_option maxRecDepth 10000 in
theorem r_bf_text (l : Launch) (x : Bool) (I : Nat → Nat → Int32) (L : Nat → Nat → Int64) (n : Nat) (hn : I 1 3 = nI n) (hn2 : n ≤ 60) (w : Int64) : qR (l, y_bf_text.cls, b_bf_text, 4, (some .int), false, x, 9, 1, 6, 77, q0) (qE2 (¬ u_anyb w 8 = true ∧ n + u_cN w 8 ≤ 60) (some (.int (nI (n + u_cN w 8)))) (fm (u_ap I w n 8) L)) (qX2 (fm I L) (fun En => (En = xA ∧ u_anyb w 8 = true) ∨ (En = xS ∧ ¬ u_anyb w 8 = true ∧ ¬ n + u_cN w 8 ≤ 60))) 0 [(0, .ref 0), (1, .long w)] [] 77 0 0 (fm I L) := by
  refine qr_lload_n (pc := 0) d_bf_text_0 rfl rfl ?_
  refine qr_callS (As := [.long w]) (pc := 1) d_bf_text_1 lk_bf_76 sm_tr_charactersIn (s_tr_charactersIn _ x _ _ w) rfl rfl (Nat.le_of_ble_eq_true rfl) (Nat.le_of_ble_eq_true rfl) (Nat.le_of_ble_eq_true rfl) (Nat.zero_le _) (Nat.zero_le _) (fun h => ⟨h, rfl, Or.inl rfl⟩) (fun v n9 f9 hE1 => ?_)
  obtain ⟨rfl, rfl, rfl⟩ := hE1
  refine qr_istore_n (lv' := [(3, .int (if u_anyb w 8 = true then (-1) else nI (u_cN w 8))), (0, .ref 0), (1, .long w)]) (pc := 4) d_bf_text_4 rfl (Nat.le_of_ble_eq_true rfl) rfl ?_
  refine qr_iload_n (pc := 5) d_bf_text_5 rfl rfl ?_
  refine qr_if_ge (tgt := 17) (pc := 6) d_bf_text_6 (by decide) (fun h6 => ?_) (fun h6 => ?_)
  · skip
    have hb : ¬ u_anyb w 8 = true := fun q => by
      rw [if_pos q] at h6
      exact absurd h6 (by decide)
    have h9 := u_cN_le w 8
    rw [if_neg hb]
    refine qr_aload_n (pc := 17) d_bf_text_17 rfl rfl ?_
    refine qr_get (v := .ref 1) (pc := 18) d_bf_text_18 fl_bf_10 (by decide) (by decide) (c_0 _ _) rfl ?_
    refine qr_callV (q := 1) (As := []) (pc := 21) d_bf_text_21 lk_bf_83 im_tr_length se_tr_length rfl (by decide) (by decide) (c_1 _ _) (s_tr_length _ x I L) rfl rfl (Nat.le_of_ble_eq_true rfl) (Nat.le_of_ble_eq_true rfl) (Nat.le_of_ble_eq_true rfl) (Nat.zero_le _) (Nat.zero_le _) (fun h => ⟨h, rfl, Or.inl rfl⟩) (fun v n9 f9 hE21 => ?_)
    obtain ⟨rfl, rfl, rfl⟩ := hE21
    refine qr_iload_n (pc := 24) d_bf_text_24 rfl rfl ?_
    refine qr_iadd (pc := 25) d_bf_text_25 ?_
    refine qr_bipush (v := 60) (pc := 26) d_bf_text_26 (by decide) ?_
    refine qr_icmp_le (tgt := 39) (pc := 28) d_bf_text_28 (by decide) (fun h28 => ?_) (fun h28 => ?_)
    · skip
      have hle : n + u_cN w 8 ≤ 60 := by
        rw [hn, nI_add] at h28
        exact (nI_leI (a := n + u_cN w 8) (b := 60) (by omega) (by omega)).mp h28
      refine qr_aload_n (pc := 39) d_bf_text_39 rfl rfl ?_
      refine qr_get (v := .ref 1) (pc := 40) d_bf_text_40 fl_bf_10 (by decide) (by decide) (c_0 _ _) rfl ?_
      refine qr_lload_n (pc := 43) d_bf_text_43 rfl rfl ?_
      refine qr_callV (q := 1) (As := [.long w]) (pc := 44) d_bf_text_44 lk_bf_90 im_tr_append se_tr_append rfl (by decide) (by decide) (c_1 _ _) (s_tr_append _ x I L n hn w hle) rfl rfl (Nat.le_of_ble_eq_true rfl) (Nat.le_of_ble_eq_true rfl) (Nat.le_of_ble_eq_true rfl) (Nat.zero_le _) (Nat.zero_le _) (fun h => ⟨h, rfl, Or.inl rfl⟩) (fun v n9 f9 hE44 => ?_)
      obtain ⟨rfl, rfl, rfl⟩ := hE44
      refine qr_aload_n (pc := 47) d_bf_text_47 rfl rfl ?_
      refine qr_get (v := .ref 1) (pc := 48) d_bf_text_48 fl_bf_10 (by decide) (by decide) (c_0 _ _) rfl ?_
      refine qr_callV (q := 1) (As := []) (pc := 51) d_bf_text_51 lk_bf_83 im_tr_length se_tr_length rfl (by decide) (by decide) (c_1 _ _) (s_tr_length _ x (u_ap I w n 8) L) rfl rfl (Nat.le_of_ble_eq_true rfl) (Nat.le_of_ble_eq_true rfl) (Nat.le_of_ble_eq_true rfl) (Nat.zero_le _) (Nat.zero_le _) (fun h => ⟨h, rfl, Or.inl rfl⟩) (fun v n9 f9 hE51 => ?_)
      obtain ⟨rfl, rfl, rfl⟩ := hE51
      exact qr_iret (pc := 54) d_bf_text_54 rfl rfl ⟨⟨hb, hle⟩, (by rw [u_ap_3 hn 8]), rfl, rfl⟩ (Nat.zero_le _) (Nat.zero_le _)
    · skip
      have hgt : ¬ n + u_cN w 8 ≤ 60 := fun q => h28 (by rw [hn, nI_add]; exact nI_le (b := 60) q (by decide))
      exact qr_throw (pc := 31) ⟨87, 89, d_bf_text_31, d_bf_text_34, d_bf_text_35, d_bf_text_38, cl_bf_87, ie_IllegalStateException, th_IllegalStateException, (by decide +kernel)⟩ (Nat.le_of_ble_eq_true rfl) ⟨Or.inr ⟨rfl, hb, hgt⟩, rfl, rfl⟩ (Nat.le_of_ble_eq_true rfl) (Nat.le_of_ble_eq_true rfl)
  · skip
    have hb : u_anyb w 8 = true := by
      cases hq : u_anyb w 8
      · exact absurd (by rw [if_neg (by rw [hq]; decide)]; exact nI_pos' (by have := u_cN_le w 8; omega)) h6
      · rfl
    exact qr_throw (pc := 9) ⟨80, 82, d_bf_text_9, d_bf_text_12, d_bf_text_13, d_bf_text_16, cl_bf_80, ie_IllegalArgumentException, th_IllegalArgumentException, (by decide +kernel)⟩ (Nat.le_of_ble_eq_true rfl) ⟨Or.inl ⟨rfl, hb⟩, rfl, rfl⟩ (Nat.le_of_ble_eq_true rfl) (Nat.le_of_ble_eq_true rfl)
set_option maxRecDepth 10000 in
theorem s_bf_where (l : Launch) (x : Bool) (I : Nat → Nat → Int32) (L : Nat → Nat → Int64)  : qSp l y_bf_where b_bf_where 1 (some .int) x 2 0 0 [.ref 0] 77 (fm I L) (qD (some (.int (I 1 6))) 77 (fm I L)) := by
  refine qSp_of (ini := false) (by decide +kernel) (fun h => nomatch h) (Nat.le_of_ble_eq_true rfl) ?_
  show qR _ _ _ 0 [(0, .ref 0)] [] _ _ _ _
  refine qr_aload_n (pc := 0) d_bf_where_0 rfl rfl ?_
  refine qr_get (v := .ref 1) (pc := 1) d_bf_where_1 fl_bf_10 (by decide) (by decide) (c_0 _ _) rfl ?_
  refine qr_callV (q := 1) (As := []) (pc := 4) d_bf_where_4 lk_bf_119 im_tr_fault se_tr_fault rfl (by decide) (by decide) (c_1 _ _) (s_tr_fault _ x I L) rfl rfl (Nat.le_of_ble_eq_true rfl) (Nat.le_of_ble_eq_true rfl) (Nat.le_of_ble_eq_true rfl) (Nat.zero_le _) (Nat.zero_le _) (fun h => ⟨h, rfl, Or.inl rfl⟩) (fun v n9 f9 hE4 => ?_)
  obtain ⟨rfl, rfl, rfl⟩ := hE4
  exact qr_iret (pc := 7) d_bf_where_7 rfl rfl ⟨rfl, rfl, rfl⟩ (Nat.zero_le _) (Nat.zero_le _)
