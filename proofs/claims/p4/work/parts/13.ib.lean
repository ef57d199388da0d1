/-! BillForge$InvoiceBook: object 14, rows 15 to 19; z of them -/
def u_over (I : Nat → Nat → Int32) (L : Nat → Nat → Int64) (today : Int32) (k : Nat) : Int32 := if L 19 k = L 17 k then 0 else qmmax 0 (today - I 18 k - 14)
def u_most (I : Nat → Nat → Int32) (L : Nat → Nat → Int64) (c today : Int32) : Nat → Int32
  | 0 => 0
  | k + 1 => if I 15 k = c then qmmax (u_most I L c today k) (u_over I L today k) else u_most I L c today k
def u_amts (I : Nat → Nat → Int32) (L : Nat → Nat → Int64) (c p : Int32) : Nat → Int64
  | 0 => 0
  | k + 1 => if I 15 k = c ∧ I 16 k = p then u_amts I L c p k + L 17 k else u_amts I L c p k
def u_all (a : Nat → Int64) : Nat → Int64
  | 0 => 0
  | k + 1 => u_all a k + a k
def u_open (I : Nat → Nat → Int32) (L : Nat → Nat → Int64) (c : Int32) : Nat → Int64
  | 0 => 0
  | k + 1 => if I 15 k = c then u_open I L c k + (L 17 k - L 19 k) else u_open I L c k
/-- what is left of the credit, and the longs, behind the first k invoices -/
def u_po (I : Nat → Nat → Int32) (L : Nat → Nat → Int64) (c : Int32) (cr : Int64) : Nat → Int64 × (Nat → Nat → Int64)
  | 0 => (cr, L)
  | k + 1 => if (u_po I L c cr k).1 ≤ 0 then u_po I L c cr k else if I 15 k = c then
      ((u_po I L c cr k).1 - qmminl (u_po I L c cr k).1 ((u_po I L c cr k).2 17 k - (u_po I L c cr k).2 19 k), wL (u_po I L c cr k).2 19 k ((u_po I L c cr k).2 19 k + qmminl (u_po I L c cr k).1 ((u_po I L c cr k).2 17 k - (u_po I L c cr k).2 19 k)))
    else u_po I L c cr k
theorem u_po_end {I : Nat → Nat → Int32} {L : Nat → Nat → Int64} {c : Int32} {cr : Int64} {k : Nat} (h : (u_po I L c cr k).1 ≤ 0) : ∀ z, k ≤ z → u_po I L c cr z = u_po I L c cr k
  | 0, hz => by rw [show k = 0 by omega]
  | z + 1, hz => by
    by_cases e : k = z + 1
    · rw [e]
    · have ih := u_po_end h z (by omega)
      simp only [u_po, ih, h, if_true]
set_option maxRecDepth 10000 in
theorem s_ib_size (l : Launch) (x : Bool) (I : Nat → Nat → Int32) (L : Nat → Nat → Int64) (z : Nat) (hz : I 14 5 = nI z) (hz2 : z ≤ 50) : qSp l y_ib_size b_ib_size 1 (some .int) x 1 0 0 [.ref 14] 77 (fm I L) (qD (some (.int (nI z))) 77 (fm I L)) := by
  refine qSp_of (ini := false) (by decide +kernel) (fun h => nomatch h) (Nat.le_of_ble_eq_true rfl) ?_
  show qR _ _ _ 0 [(0, .ref 14)] [] _ _ _ _
  refine qr_aload_n (pc := 0) d_ib_size_0 rfl rfl ?_
  refine qr_get (v := .int (nI z)) (pc := 1) d_ib_size_1 fl_ib_26 (by decide) (by decide) (c_14 _ _) (congrArg (fun t => some (Value.int t)) hz) ?_
  exact qr_iret (pc := 4) d_ib_size_4 rfl rfl ⟨rfl, rfl, rfl⟩ (Nat.zero_le _) (Nat.zero_le _)
set_option maxRecDepth 10000 in
theorem s_ib_isFull (l : Launch) (x : Bool) (I : Nat → Nat → Int32) (L : Nat → Nat → Int64) (z : Nat) (hz : I 14 5 = nI z) (hz2 : z ≤ 50) : qSp l y_ib_isFull b_ib_isFull 1 (some .boolean) x 1 0 0 [.ref 14] 77 (fm I L) (qD (some (.int (if 50 ≤ nI z then 1 else 0))) 77 (fm I L)) := by
  refine qSp_of (ini := false) (by decide +kernel) (fun h => nomatch h) (Nat.le_of_ble_eq_true rfl) ?_
  show qR _ _ _ 0 [(0, .ref 14)] [] _ _ _ _
  refine qr_aload_n (pc := 0) d_ib_isFull_0 rfl rfl ?_
  refine qr_get (v := .int (nI z)) (pc := 1) d_ib_isFull_1 fl_ib_26 (by decide) (by decide) (c_14 _ _) (congrArg (fun t => some (Value.int t)) hz) ?_
  refine qr_bipush (v := 50) (pc := 4) d_ib_isFull_4 (by decide) ?_
  refine qr_icmp_lt (tgt := 13) (pc := 6) d_ib_isFull_6 (by decide) (fun h6 => ?_) (fun h6 => ?_)
  · skip
    refine qr_iconst (v := 0) (pc := 13) d_ib_isFull_13 (by decide) ?_
    exact qr_iret (pc := 14) d_ib_isFull_14 rfl rfl ⟨(by simp [*]), rfl, rfl⟩ (Nat.zero_le _) (Nat.zero_le _)
  · skip
    refine qr_iconst (v := 1) (pc := 9) d_ib_isFull_9 (by decide) ?_
    refine qr_goto (tgt := 14) (pc := 10) d_ib_isFull_10 (by decide) ?_
    exact qr_iret (pc := 14) d_ib_isFull_14 rfl rfl ⟨(by simp [*]), rfl, rfl⟩ (Nat.zero_le _) (Nat.zero_le _)
set_option maxRecDepth 10000 in
theorem s_ib_has (l : Launch) (x : Bool) (I : Nat → Nat → Int32) (L : Nat → Nat → Int64) (z : Nat) (hz : I 14 5 = nI z) (hz2 : z ≤ 50) (k : Int32) : qSp l y_ib_has b_ib_has 2 (some .boolean) x 1 0 0 [.ref 14, .int k] 77 (fm I L) (qD (some (.int (if k < 0 then 0 else if nI z ≤ k then 0 else 1))) 77 (fm I L)) := by
  refine qSp_of (ini := false) (by decide +kernel) (fun h => nomatch h) (Nat.le_of_ble_eq_true rfl) ?_
  show qR _ _ _ 0 [(0, .ref 14), (1, .int k)] [] _ _ _ _
  refine qr_iload_n (pc := 0) d_ib_has_0 rfl rfl ?_
  refine qr_if_lt (tgt := 16) (pc := 1) d_ib_has_1 (by decide) (fun h1 => ?_) (fun h1 => ?_)
  · skip
    refine qr_iconst (v := 0) (pc := 16) d_ib_has_16 (by decide) ?_
    exact qr_iret (pc := 17) d_ib_has_17 rfl rfl ⟨(by simp [*]), rfl, rfl⟩ (Nat.zero_le _) (Nat.zero_le _)
  · skip
    refine qr_iload_n (pc := 4) d_ib_has_4 rfl rfl ?_
    refine qr_aload_n (pc := 5) d_ib_has_5 rfl rfl ?_
    refine qr_get (v := .int (nI z)) (pc := 6) d_ib_has_6 fl_ib_26 (by decide) (by decide) (c_14 _ _) (congrArg (fun t => some (Value.int t)) hz) ?_
    refine qr_icmp_ge (tgt := 16) (pc := 9) d_ib_has_9 (by decide) (fun h9 => ?_) (fun h9 => ?_)
    · skip
      refine qr_iconst (v := 0) (pc := 16) d_ib_has_16 (by decide) ?_
      exact qr_iret (pc := 17) d_ib_has_17 rfl rfl ⟨(by simp [*]), rfl, rfl⟩ (Nat.zero_le _) (Nat.zero_le _)
    · skip
      refine qr_iconst (v := 1) (pc := 12) d_ib_has_12 (by decide) ?_
      refine qr_goto (tgt := 17) (pc := 13) d_ib_has_13 (by decide) ?_
      exact qr_iret (pc := 17) d_ib_has_17 rfl rfl ⟨(by simp [*]), rfl, rfl⟩ (Nat.zero_le _) (Nat.zero_le _)
set_option maxRecDepth 10000 in
theorem s_ib_add (l : Launch) (x : Bool) (I : Nat → Nat → Int32) (L : Nat → Nat → Int64) (z : Nat) (hz : I 14 5 = nI z) (hz2 : z ≤ 50) (c p : Int32) (a : Int64) (day : Int32) : qSp l y_ib_add b_ib_add 6 none x 2 0 0 [.ref 14, .int c, .int p, .long a, .int day] 77 (fm I L) (qD none 77 (fm (if 50 ≤ nI z then I else wI (wI (wI (wI I 15 z c) 16 z p) 18 z day) 14 5 (nI (z + 1))) (if 50 ≤ nI z then L else wL (wL L 17 z a) 19 z (qmminl a 0)))) := by
  refine qSp_of (ini := false) (by decide +kernel) (fun h => nomatch h) (Nat.le_of_ble_eq_true rfl) ?_
  show qR _ _ _ 0 [(0, .ref 14), (1, .int c), (2, .int p), (3, .long a), (5, .int day)] [] _ _ _ _
  refine qr_aload_n (pc := 0) d_ib_add_0 rfl rfl ?_
  refine qr_callV (q := 14) (As := []) (pc := 1) d_ib_add_1 lk_ib_30 im_ib_isFull se_ib_isFull rfl (by decide) (by decide) (c_14 _ _) (s_ib_isFull _ x I L z hz hz2) rfl rfl (Nat.le_of_ble_eq_true rfl) (Nat.le_of_ble_eq_true rfl) (Nat.le_of_ble_eq_true rfl) (Nat.zero_le _) (Nat.zero_le _) (fun h => ⟨h, rfl, Or.inl rfl⟩) (fun v n9 f9 hE1 => ?_)
  obtain ⟨rfl, rfl, rfl⟩ := hE1
  refine qr_if_ne (tgt := 72) (pc := 4) d_ib_add_4 (by decide) (fun h4 => ?_) (fun h4 => ?_)
  · skip
    simp only [b01, Decidable.not_not] at h4
    exact qr_vret (pc := 72) d_ib_add_72 rfl ⟨rfl, rfl, (by simp [*, nI_1])⟩ (Nat.zero_le _) (Nat.zero_le _)
  · skip
    simp only [b01, Decidable.not_not] at h4
    have hlt : z < 50 := by
      have := mt (nI_leI (a := 50) (b := z) (by omega) (by omega)).mpr h4
      omega
    refine qr_aload_n (pc := 7) d_ib_add_7 rfl rfl ?_
    refine qr_get (v := .ref 15) (pc := 8) d_ib_add_8 fl_ib_9 (by decide) (by decide) (c_14 _ _) rfl ?_
    refine qr_aload_n (pc := 11) d_ib_add_11 rfl rfl ?_
    refine qr_get (v := .int (nI z)) (pc := 12) d_ib_add_12 fl_ib_26 (by decide) (by decide) (c_14 _ _) (congrArg (fun t => some (Value.int t)) hz) ?_
    refine qr_iload_n (pc := 15) d_ib_add_15 rfl rfl ?_
    refine qr_iastMN (j := z) (pc := 16) d_ib_add_16 (by decide) (by decide) (c_15 _ _) (by omega) (by decide) (fun w => rfl) ?_
    refine qr_aload_n (pc := 17) d_ib_add_17 rfl rfl ?_
    refine qr_get (v := .ref 16) (pc := 18) d_ib_add_18 fl_ib_13 (by decide) (by decide) (c_14 _ _) rfl ?_
    refine qr_aload_n (pc := 21) d_ib_add_21 rfl rfl ?_
    refine qr_get (v := .int (nI z)) (pc := 22) d_ib_add_22 fl_ib_26 (by decide) (by decide) (c_14 _ _) (congrArg (fun t => some (Value.int t)) hz) ?_
    refine qr_iload_n (pc := 25) d_ib_add_25 rfl rfl ?_
    refine qr_iastMN (j := z) (pc := 26) d_ib_add_26 (by decide) (by decide) (c_16 _ _) (by omega) (by decide) (fun w => rfl) ?_
    refine qr_aload_n (pc := 27) d_ib_add_27 rfl rfl ?_
    refine qr_get (v := .ref 17) (pc := 28) d_ib_add_28 fl_ib_16 (by decide) (by decide) (c_14 _ _) rfl ?_
    refine qr_aload_n (pc := 31) d_ib_add_31 rfl rfl ?_
    refine qr_get (v := .int (nI z)) (pc := 32) d_ib_add_32 fl_ib_26 (by decide) (by decide) (c_14 _ _) (congrArg (fun t => some (Value.int t)) hz) ?_
    refine qr_lload_n (pc := 35) d_ib_add_35 rfl rfl ?_
    refine qr_lastMN (j := z) (pc := 36) d_ib_add_36 (by decide) (by decide) (c_17 _ _) (by omega) (by decide) (fun w => rfl) ?_
    refine qr_aload_n (pc := 37) d_ib_add_37 rfl rfl ?_
    refine qr_get (v := .ref 18) (pc := 38) d_ib_add_38 fl_ib_20 (by decide) (by decide) (c_14 _ _) rfl ?_
    refine qr_aload_n (pc := 41) d_ib_add_41 rfl rfl ?_
    refine qr_get (v := .int (nI z)) (pc := 42) d_ib_add_42 fl_ib_26 (by decide) (by decide) (c_14 _ _) (congrArg (fun t => some (Value.int t)) hz) ?_
    refine qr_iload (pc := 45) d_ib_add_45 rfl ?_
    refine qr_iastMN (j := z) (pc := 47) d_ib_add_47 (by decide) (by decide) (c_18 _ _) (by omega) (by decide) (fun w => rfl) ?_
    refine qr_aload_n (pc := 48) d_ib_add_48 rfl rfl ?_
    refine qr_get (v := .ref 19) (pc := 49) d_ib_add_49 fl_ib_23 (by decide) (by decide) (c_14 _ _) rfl ?_
    refine qr_aload_n (pc := 52) d_ib_add_52 rfl rfl ?_
    refine qr_get (v := .int (nI z)) (pc := 53) d_ib_add_53 fl_ib_26 (by decide) (by decide) (c_14 _ _) (congrArg (fun t => some (Value.int t)) hz) ?_
    refine qr_lload_n (pc := 56) d_ib_add_56 rfl rfl ?_
    refine qr_lconst (v := 0) (pc := 57) d_ib_add_57 (by decide) ?_
    refine qr_mminl (pc := 58) d_ib_add_58 lk_ib_34 s_mminl i_math c_mminl (Nat.le_of_ble_eq_true rfl) (Nat.le_of_ble_eq_true rfl) (Nat.zero_le _) (Nat.zero_le _) ?_
    refine qr_lastMN (j := z) (pc := 61) d_ib_add_61 (by decide) (by decide) (c_19 _ _) (by omega) (by decide) (fun w => rfl) ?_
    refine qr_aload_n (pc := 62) d_ib_add_62 rfl rfl ?_
    refine qr_dup (pc := 63) d_ib_add_63 rfl ?_
    refine qr_get (v := .int (nI z)) (pc := 64) d_ib_add_64 fl_ib_26 (by decide) (by decide) (c_14 _ _) (congrArg (fun t => some (Value.int t)) hz) ?_
    refine qr_iconst (v := 1) (pc := 67) d_ib_add_67 (by decide) ?_
    refine qr_iadd (pc := 68) d_ib_add_68 ?_
    refine qr_putI (pc := 69) d_ib_add_69 fl_ib_26 (by decide) (by decide) (c_14 _ _) (Nat.le_of_ble_eq_true rfl) (qFit_i _) (fun w => rfl) ?_
    exact qr_vret (pc := 72) d_ib_add_72 rfl ⟨rfl, rfl, (by simp [*, nI_1])⟩ (Nat.zero_le _) (Nat.zero_le _)
set_option maxRecDepth 10000 in
theorem s_ib_customerOf (l : Launch) (x : Bool) (I : Nat → Nat → Int32) (L : Nat → Nat → Int64) (i : Nat) (hi : i < 50) : qSp l y_ib_customerOf b_ib_customerOf 2 (some .int) x 1 0 0 [.ref 14, .int (nI i)] 77 (fm I L) (qD (some (.int (I 15 i))) 77 (fm I L)) := by
  refine qSp_of (ini := false) (by decide +kernel) (fun h => nomatch h) (Nat.le_of_ble_eq_true rfl) ?_
  show qR _ _ _ 0 [(0, .ref 14), (1, .int (nI i))] [] _ _ _ _
  refine qr_aload_n (pc := 0) d_ib_customerOf_0 rfl rfl ?_
  refine qr_get (v := .ref 15) (pc := 1) d_ib_customerOf_1 fl_ib_9 (by decide) (by decide) (c_14 _ _) rfl ?_
  refine qr_iload_n (pc := 4) d_ib_customerOf_4 rfl rfl ?_
  refine qr_ialdN (j := i) (pc := 5) d_ib_customerOf_5 (by decide) (by decide) (c_15 _ _) (by omega) (by decide) ?_
  exact qr_iret (pc := 6) d_ib_customerOf_6 rfl rfl ⟨rfl, rfl, rfl⟩ (Nat.zero_le _) (Nat.zero_le _)
set_option maxRecDepth 10000 in
theorem s_ib_periodOf (l : Launch) (x : Bool) (I : Nat → Nat → Int32) (L : Nat → Nat → Int64) (i : Nat) (hi : i < 50) : qSp l y_ib_periodOf b_ib_periodOf 2 (some .int) x 1 0 0 [.ref 14, .int (nI i)] 77 (fm I L) (qD (some (.int (I 16 i))) 77 (fm I L)) := by
  refine qSp_of (ini := false) (by decide +kernel) (fun h => nomatch h) (Nat.le_of_ble_eq_true rfl) ?_
  show qR _ _ _ 0 [(0, .ref 14), (1, .int (nI i))] [] _ _ _ _
  refine qr_aload_n (pc := 0) d_ib_periodOf_0 rfl rfl ?_
  refine qr_get (v := .ref 16) (pc := 1) d_ib_periodOf_1 fl_ib_13 (by decide) (by decide) (c_14 _ _) rfl ?_
  refine qr_iload_n (pc := 4) d_ib_periodOf_4 rfl rfl ?_
  refine qr_ialdN (j := i) (pc := 5) d_ib_periodOf_5 (by decide) (by decide) (c_16 _ _) (by omega) (by decide) ?_
  exact qr_iret (pc := 6) d_ib_periodOf_6 rfl rfl ⟨rfl, rfl, rfl⟩ (Nat.zero_le _) (Nat.zero_le _)
set_option maxRecDepth 10000 in
theorem s_ib_amountOf (l : Launch) (x : Bool) (I : Nat → Nat → Int32) (L : Nat → Nat → Int64) (i : Nat) (hi : i < 50) : qSp l y_ib_amountOf b_ib_amountOf 2 (some .long) x 1 0 0 [.ref 14, .int (nI i)] 77 (fm I L) (qD (some (.long (L 17 i))) 77 (fm I L)) := by
  refine qSp_of (ini := false) (by decide +kernel) (fun h => nomatch h) (Nat.le_of_ble_eq_true rfl) ?_
  show qR _ _ _ 0 [(0, .ref 14), (1, .int (nI i))] [] _ _ _ _
  refine qr_aload_n (pc := 0) d_ib_amountOf_0 rfl rfl ?_
  refine qr_get (v := .ref 17) (pc := 1) d_ib_amountOf_1 fl_ib_16 (by decide) (by decide) (c_14 _ _) rfl ?_
  refine qr_iload_n (pc := 4) d_ib_amountOf_4 rfl rfl ?_
  refine qr_laldN (j := i) (pc := 5) d_ib_amountOf_5 (by decide) (by decide) (c_17 _ _) (by omega) (by decide) ?_
  exact qr_lret (pc := 6) d_ib_amountOf_6 rfl ⟨rfl, rfl, rfl⟩ (Nat.zero_le _) (Nat.zero_le _)
set_option maxRecDepth 10000 in
theorem s_ib_dayOf (l : Launch) (x : Bool) (I : Nat → Nat → Int32) (L : Nat → Nat → Int64) (i : Nat) (hi : i < 50) : qSp l y_ib_dayOf b_ib_dayOf 2 (some .int) x 1 0 0 [.ref 14, .int (nI i)] 77 (fm I L) (qD (some (.int (I 18 i))) 77 (fm I L)) := by
  refine qSp_of (ini := false) (by decide +kernel) (fun h => nomatch h) (Nat.le_of_ble_eq_true rfl) ?_
  show qR _ _ _ 0 [(0, .ref 14), (1, .int (nI i))] [] _ _ _ _
  refine qr_aload_n (pc := 0) d_ib_dayOf_0 rfl rfl ?_
  refine qr_get (v := .ref 18) (pc := 1) d_ib_dayOf_1 fl_ib_20 (by decide) (by decide) (c_14 _ _) rfl ?_
  refine qr_iload_n (pc := 4) d_ib_dayOf_4 rfl rfl ?_
  refine qr_ialdN (j := i) (pc := 5) d_ib_dayOf_5 (by decide) (by decide) (c_18 _ _) (by omega) (by decide) ?_
  exact qr_iret (pc := 6) d_ib_dayOf_6 rfl rfl ⟨rfl, rfl, rfl⟩ (Nat.zero_le _) (Nat.zero_le _)
set_option maxRecDepth 10000 in
theorem s_ib_paidOf (l : Launch) (x : Bool) (I : Nat → Nat → Int32) (L : Nat → Nat → Int64) (i : Nat) (hi : i < 50) : qSp l y_ib_paidOf b_ib_paidOf 2 (some .long) x 1 0 0 [.ref 14, .int (nI i)] 77 (fm I L) (qD (some (.long (L 19 i))) 77 (fm I L)) := by
  refine qSp_of (ini := false) (by decide +kernel) (fun h => nomatch h) (Nat.le_of_ble_eq_true rfl) ?_
  show qR _ _ _ 0 [(0, .ref 14), (1, .int (nI i))] [] _ _ _ _
  refine qr_aload_n (pc := 0) d_ib_paidOf_0 rfl rfl ?_
  refine qr_get (v := .ref 19) (pc := 1) d_ib_paidOf_1 fl_ib_23 (by decide) (by decide) (c_14 _ _) rfl ?_
  refine qr_iload_n (pc := 4) d_ib_paidOf_4 rfl rfl ?_
  refine qr_laldN (j := i) (pc := 5) d_ib_paidOf_5 (by decide) (by decide) (c_19 _ _) (by omega) (by decide) ?_
  exact qr_lret (pc := 6) d_ib_paidOf_6 rfl ⟨rfl, rfl, rfl⟩ (Nat.zero_le _) (Nat.zero_le _)
set_option maxRecDepth 10000 in
theorem s_ib_overdueDays (l : Launch) (x : Bool) (I : Nat → Nat → Int32) (L : Nat → Nat → Int64) (i : Nat) (hi : i < 50) (today : Int32) : qSp l y_ib_overdueDays b_ib_overdueDays 3 (some .int) x 1 0 0 [.ref 14, .int (nI i), .int today] 77 (fm I L) (qD (some (.int (u_over I L today i))) 77 (fm I L)) := by
  refine qSp_of (ini := false) (by decide +kernel) (fun h => nomatch h) (Nat.le_of_ble_eq_true rfl) ?_
  show qR _ _ _ 0 [(0, .ref 14), (1, .int (nI i)), (2, .int today)] [] _ _ _ _
  refine qr_aload_n (pc := 0) d_ib_overdueDays_0 rfl rfl ?_
  refine qr_get (v := .ref 19) (pc := 1) d_ib_overdueDays_1 fl_ib_23 (by decide) (by decide) (c_14 _ _) rfl ?_
  refine qr_iload_n (pc := 4) d_ib_overdueDays_4 rfl rfl ?_
  refine qr_laldN (j := i) (pc := 5) d_ib_overdueDays_5 (by decide) (by decide) (c_19 _ _) (by omega) (by decide) ?_
  refine qr_aload_n (pc := 6) d_ib_overdueDays_6 rfl rfl ?_
  refine qr_get (v := .ref 17) (pc := 7) d_ib_overdueDays_7 fl_ib_16 (by decide) (by decide) (c_14 _ _) rfl ?_
  refine qr_iload_n (pc := 10) d_ib_overdueDays_10 rfl rfl ?_
  refine qr_laldN (j := i) (pc := 11) d_ib_overdueDays_11 (by decide) (by decide) (c_17 _ _) (by omega) (by decide) ?_
  refine qr_lcmp (pc := 12) d_ib_overdueDays_12 ?_
  refine qr_if_ne (tgt := 20) (pc := 13) d_ib_overdueDays_13 (by decide) (fun h13 => ?_) (fun h13 => ?_)
  · skip
    rw [lgc_eq] at h13
    refine qr_iconst (v := 0) (pc := 20) d_ib_overdueDays_20 (by decide) ?_
    refine qr_iload_n (pc := 21) d_ib_overdueDays_21 rfl rfl ?_
    refine qr_aload_n (pc := 22) d_ib_overdueDays_22 rfl rfl ?_
    refine qr_get (v := .ref 18) (pc := 23) d_ib_overdueDays_23 fl_ib_20 (by decide) (by decide) (c_14 _ _) rfl ?_
    refine qr_iload_n (pc := 26) d_ib_overdueDays_26 rfl rfl ?_
    refine qr_ialdN (j := i) (pc := 27) d_ib_overdueDays_27 (by decide) (by decide) (c_18 _ _) (by omega) (by decide) ?_
    refine qr_isub (pc := 28) d_ib_overdueDays_28 ?_
    refine qr_bipush (v := 14) (pc := 29) d_ib_overdueDays_29 (by decide) ?_
    refine qr_isub (pc := 31) d_ib_overdueDays_31 ?_
    refine qr_mmax (pc := 32) d_ib_overdueDays_32 lk_ib_40 s_mmax i_math c_mmax (Nat.le_of_ble_eq_true rfl) (Nat.le_of_ble_eq_true rfl) (Nat.zero_le _) (Nat.zero_le _) ?_
    exact qr_iret (pc := 35) d_ib_overdueDays_35 rfl rfl ⟨(by simp [u_over, *]), rfl, rfl⟩ (Nat.zero_le _) (Nat.zero_le _)
  · skip
    rw [lgc_eq] at h13
    refine qr_iconst (v := 0) (pc := 16) d_ib_overdueDays_16 (by decide) ?_
    refine qr_goto (tgt := 35) (pc := 17) d_ib_overdueDays_17 (by decide) ?_
    exact qr_iret (pc := 35) d_ib_overdueDays_35 rfl rfl ⟨(by simp [u_over, *]), rfl, rfl⟩ (Nat.zero_le _) (Nat.zero_le _)
set_option maxRecDepth 10000 in
theorem s_ib_mostOverdueDays (l : Launch) (x : Bool) (I : Nat → Nat → Int32) (L : Nat → Nat → Int64) (z : Nat) (hz : I 14 5 = nI z) (hz2 : z ≤ 50) (c today : Int32) : qSp l y_ib_mostOverdueDays b_ib_mostOverdueDays 5 (some .int) x 2 0 0 [.ref 14, .int c, .int today] 77 (fm I L) (qD (some (.int (u_most I L c today z))) 77 (fm I L)) := by
  refine qSp_of (ini := false) (by decide +kernel) (fun h => nomatch h) (Nat.le_of_ble_eq_true rfl) ?_
  show qR _ _ _ 0 [(0, .ref 14), (1, .int c), (2, .int today)] [] _ _ _ _
  refine qr_iconst (v := 0) (pc := 0) d_ib_mostOverdueDays_0 (by decide) ?_
  refine qr_istore_n (lv' := [(3, .int 0), (0, .ref 14), (1, .int c), (2, .int today)]) (pc := 1) d_ib_mostOverdueDays_1 rfl (Nat.le_of_ble_eq_true rfl) rfl ?_
  refine qr_iconst (v := 0) (pc := 2) d_ib_mostOverdueDays_2 (by decide) ?_
  refine qr_istore (lv' := [(4, .int 0), (3, .int 0), (0, .ref 14), (1, .int c), (2, .int today)]) (pc := 3) d_ib_mostOverdueDays_3 (Nat.le_of_ble_eq_true rfl) rfl ?_
  have loop5 : ∀ (j k : Nat), z - k < j → k ≤ z → qR (l, y_ib_mostOverdueDays.cls, b_ib_mostOverdueDays, 5, (some .int), false, x, 2, 0, 0, 77, q0) (qD (some (.int (u_most I L c today z))) 77 (fm I L)) (fun _ _ _ => False) 5 [(4, .int (nI k)), (3, .int (u_most I L c today k)), (0, .ref 14), (1, .int c), (2, .int today)] [] 77 0 0 (fm I L) := by
    intro j
    induction j with
    | zero => intro k hj; omega
    | succ j ih =>
    intro k hjj hk
    refine qr_iload (pc := 5) d_ib_mostOverdueDays_5 rfl ?_
    refine qr_aload_n (pc := 7) d_ib_mostOverdueDays_7 rfl rfl ?_
    refine qr_get (v := .int (nI z)) (pc := 8) d_ib_mostOverdueDays_8 fl_ib_26 (by decide) (by decide) (c_14 _ _) (congrArg (fun t => some (Value.int t)) hz) ?_
    refine qr_icmp_ge (tgt := 43) (pc := 11) d_ib_mostOverdueDays_11 (by decide) (fun h11 => ?_) (fun h11 => ?_)
    · skip
      have hkz : z = k := by
        have := (nI_leI (a := z) (b := k) (by omega) (by omega)).mp h11
        omega
      subst hkz
      refine qr_iload_n (pc := 43) d_ib_mostOverdueDays_43 rfl rfl ?_
      exact qr_iret (pc := 44) d_ib_mostOverdueDays_44 rfl rfl ⟨rfl, rfl, rfl⟩ (Nat.zero_le _) (Nat.zero_le _)
    · skip
      have hkz : k < z := by
        have := mt (nI_leI (a := z) (b := k) (by omega) (by omega)).mpr h11
        omega
      refine qr_aload_n (pc := 14) d_ib_mostOverdueDays_14 rfl rfl ?_
      refine qr_get (v := .ref 15) (pc := 15) d_ib_mostOverdueDays_15 fl_ib_9 (by decide) (by decide) (c_14 _ _) rfl ?_
      refine qr_iload (pc := 18) d_ib_mostOverdueDays_18 rfl ?_
      refine qr_ialdN (j := k) (pc := 20) d_ib_mostOverdueDays_20 (by decide) (by decide) (c_15 _ _) (by omega) (by decide) ?_
      refine qr_iload_n (pc := 21) d_ib_mostOverdueDays_21 rfl rfl ?_
      refine qr_icmp_ne (tgt := 37) (pc := 22) d_ib_mostOverdueDays_22 (by decide) (fun h22 => ?_) (fun h22 => ?_)
      · skip
        refine qr_iinc (v := nI (k + 1)) (lv' := [(4, .int (nI (k + 1))), (3, .int (u_most I L c today k)), (0, .ref 14), (1, .int c), (2, .int today)]) (pc := 37) d_ib_mostOverdueDays_37 rfl (nI_1 k) (Nat.le_of_ble_eq_true rfl) rfl ?_
        refine qr_goto (tgt := 5) (pc := 40) d_ib_mostOverdueDays_40 (by decide) ?_
        exact qR_st (by simp [u_most, *]) rfl (rfl) (ih (k + 1) (by omega) (by omega))
      · skip
        refine qr_iload_n (pc := 25) d_ib_mostOverdueDays_25 rfl rfl ?_
        refine qr_aload_n (pc := 26) d_ib_mostOverdueDays_26 rfl rfl ?_
        refine qr_iload (pc := 27) d_ib_mostOverdueDays_27 rfl ?_
        refine qr_iload_n (pc := 29) d_ib_mostOverdueDays_29 rfl rfl ?_
        refine qr_callV (q := 14) (As := [.int (nI k), .int today]) (pc := 30) d_ib_mostOverdueDays_30 lk_ib_44 im_ib_overdueDays se_ib_overdueDays rfl (by decide) (by decide) (c_14 _ _) (s_ib_overdueDays _ x I L k (by omega) today) rfl rfl (Nat.le_of_ble_eq_true rfl) (Nat.le_of_ble_eq_true rfl) (Nat.le_of_ble_eq_true rfl) (Nat.zero_le _) (Nat.zero_le _) (fun h => ⟨h, rfl, Or.inl rfl⟩) (fun v n9 f9 hE30 => ?_)
        obtain ⟨rfl, rfl, rfl⟩ := hE30
        refine qr_mmax (pc := 33) d_ib_mostOverdueDays_33 lk_ib_40 s_mmax i_math c_mmax (Nat.le_of_ble_eq_true rfl) (Nat.le_of_ble_eq_true rfl) (Nat.zero_le _) (Nat.zero_le _) ?_
        refine qr_istore_n (lv' := [(3, .int (qmmax (u_most I L c today k) (u_over I L today k))), (4, .int (nI k)), (0, .ref 14), (1, .int c), (2, .int today)]) (pc := 36) d_ib_mostOverdueDays_36 rfl (Nat.le_of_ble_eq_true rfl) rfl ?_
        refine qr_iinc (v := nI (k + 1)) (lv' := [(4, .int (nI (k + 1))), (3, .int (qmmax (u_most I L c today k) (u_over I L today k))), (0, .ref 14), (1, .int c), (2, .int today)]) (pc := 37) d_ib_mostOverdueDays_37 rfl (nI_1 k) (Nat.le_of_ble_eq_true rfl) rfl ?_
        refine qr_goto (tgt := 5) (pc := 40) d_ib_mostOverdueDays_40 (by decide) ?_
        exact qR_st (by simp [u_most, *]) rfl (rfl) (ih (k + 1) (by omega) (by omega))
  exact loop5 (z + 1) 0 (by omega) (by omega)
set_option maxRecDepth 10000 in
theorem s_ib_amountsOf (l : Launch) (x : Bool) (I : Nat → Nat → Int32) (L : Nat → Nat → Int64) (z : Nat) (hz : I 14 5 = nI z) (hz2 : z ≤ 50) (c p : Int32) : qSp l y_ib_amountsOf b_ib_amountsOf 6 (some .long) x 1 0 0 [.ref 14, .int c, .int p] 77 (fm I L) (qD (some (.long (u_amts I L c p z))) 77 (fm I L)) := by
  refine qSp_of (ini := false) (by decide +kernel) (fun h => nomatch h) (Nat.le_of_ble_eq_true rfl) ?_
  show qR _ _ _ 0 [(0, .ref 14), (1, .int c), (2, .int p)] [] _ _ _ _
  refine qr_lconst (v := 0) (pc := 0) d_ib_amountsOf_0 (by decide) ?_
  refine qr_lstore_n (lv' := [(3, .long 0), (0, .ref 14), (1, .int c), (2, .int p)]) (pc := 1) d_ib_amountsOf_1 rfl (Nat.le_of_ble_eq_true rfl) rfl ?_
  refine qr_iconst (v := 0) (pc := 2) d_ib_amountsOf_2 (by decide) ?_
  refine qr_istore (lv' := [(5, .int 0), (3, .long 0), (0, .ref 14), (1, .int c), (2, .int p)]) (pc := 3) d_ib_amountsOf_3 (Nat.le_of_ble_eq_true rfl) rfl ?_
  have loop5 : ∀ (j k : Nat), z - k < j → k ≤ z → qR (l, y_ib_amountsOf.cls, b_ib_amountsOf, 6, (some .long), false, x, 1, 0, 0, 77, q0) (qD (some (.long (u_amts I L c p z))) 77 (fm I L)) (fun _ _ _ => False) 5 [(5, .int (nI k)), (3, .long (u_amts I L c p k)), (0, .ref 14), (1, .int c), (2, .int p)] [] 77 0 0 (fm I L) := by
    intro j
    induction j with
    | zero => intro k hj; omega
    | succ j ih =>
    intro k hjj hk
    refine qr_iload (pc := 5) d_ib_amountsOf_5 rfl ?_
    refine qr_aload_n (pc := 7) d_ib_amountsOf_7 rfl rfl ?_
    refine qr_get (v := .int (nI z)) (pc := 8) d_ib_amountsOf_8 fl_ib_26 (by decide) (by decide) (c_14 _ _) (congrArg (fun t => some (Value.int t)) hz) ?_
    refine qr_icmp_ge (tgt := 52) (pc := 11) d_ib_amountsOf_11 (by decide) (fun h11 => ?_) (fun h11 => ?_)
    · skip
      have hkz : z = k := by
        have := (nI_leI (a := z) (b := k) (by omega) (by omega)).mp h11
        omega
      subst hkz
      refine qr_lload_n (pc := 52) d_ib_amountsOf_52 rfl rfl ?_
      exact qr_lret (pc := 53) d_ib_amountsOf_53 rfl ⟨rfl, rfl, rfl⟩ (Nat.zero_le _) (Nat.zero_le _)
    · skip
      have hkz : k < z := by
        have := mt (nI_leI (a := z) (b := k) (by omega) (by omega)).mpr h11
        omega
      refine qr_aload_n (pc := 14) d_ib_amountsOf_14 rfl rfl ?_
      refine qr_get (v := .ref 15) (pc := 15) d_ib_amountsOf_15 fl_ib_9 (by decide) (by decide) (c_14 _ _) rfl ?_
      refine qr_iload (pc := 18) d_ib_amountsOf_18 rfl ?_
      refine qr_ialdN (j := k) (pc := 20) d_ib_amountsOf_20 (by decide) (by decide) (c_15 _ _) (by omega) (by decide) ?_
      refine qr_iload_n (pc := 21) d_ib_amountsOf_21 rfl rfl ?_
      refine qr_icmp_ne (tgt := 46) (pc := 22) d_ib_amountsOf_22 (by decide) (fun h22 => ?_) (fun h22 => ?_)
      · skip
        refine qr_iinc (v := nI (k + 1)) (lv' := [(5, .int (nI (k + 1))), (3, .long (u_amts I L c p k)), (0, .ref 14), (1, .int c), (2, .int p)]) (pc := 46) d_ib_amountsOf_46 rfl (nI_1 k) (Nat.le_of_ble_eq_true rfl) rfl ?_
        refine qr_goto (tgt := 5) (pc := 49) d_ib_amountsOf_49 (by decide) ?_
        exact qR_st (by simp [u_amts, *]) rfl (rfl) (ih (k + 1) (by omega) (by omega))
      · skip
        refine qr_aload_n (pc := 25) d_ib_amountsOf_25 rfl rfl ?_
        refine qr_get (v := .ref 16) (pc := 26) d_ib_amountsOf_26 fl_ib_13 (by decide) (by decide) (c_14 _ _) rfl ?_
        refine qr_iload (pc := 29) d_ib_amountsOf_29 rfl ?_
        refine qr_ialdN (j := k) (pc := 31) d_ib_amountsOf_31 (by decide) (by decide) (c_16 _ _) (by omega) (by decide) ?_
        refine qr_iload_n (pc := 32) d_ib_amountsOf_32 rfl rfl ?_
        refine qr_icmp_ne (tgt := 46) (pc := 33) d_ib_amountsOf_33 (by decide) (fun h33 => ?_) (fun h33 => ?_)
        · skip
          refine qr_iinc (v := nI (k + 1)) (lv' := [(5, .int (nI (k + 1))), (3, .long (u_amts I L c p k)), (0, .ref 14), (1, .int c), (2, .int p)]) (pc := 46) d_ib_amountsOf_46 rfl (nI_1 k) (Nat.le_of_ble_eq_true rfl) rfl ?_
          refine qr_goto (tgt := 5) (pc := 49) d_ib_amountsOf_49 (by decide) ?_
          exact qR_st (by simp [u_amts, *]) rfl (rfl) (ih (k + 1) (by omega) (by omega))
        · skip
          refine qr_lload_n (pc := 36) d_ib_amountsOf_36 rfl rfl ?_
          refine qr_aload_n (pc := 37) d_ib_amountsOf_37 rfl rfl ?_
          refine qr_get (v := .ref 17) (pc := 38) d_ib_amountsOf_38 fl_ib_16 (by decide) (by decide) (c_14 _ _) rfl ?_
          refine qr_iload (pc := 41) d_ib_amountsOf_41 rfl ?_
          refine qr_laldN (j := k) (pc := 43) d_ib_amountsOf_43 (by decide) (by decide) (c_17 _ _) (by omega) (by decide) ?_
          refine qr_ladd (pc := 44) d_ib_amountsOf_44 ?_
          refine qr_lstore_n (lv' := [(3, .long ((u_amts I L c p k) + (L 17 k))), (5, .int (nI k)), (0, .ref 14), (1, .int c), (2, .int p)]) (pc := 45) d_ib_amountsOf_45 rfl (Nat.le_of_ble_eq_true rfl) rfl ?_
          refine qr_iinc (v := nI (k + 1)) (lv' := [(5, .int (nI (k + 1))), (3, .long ((u_amts I L c p k) + (L 17 k))), (0, .ref 14), (1, .int c), (2, .int p)]) (pc := 46) d_ib_amountsOf_46 rfl (nI_1 k) (Nat.le_of_ble_eq_true rfl) rfl ?_
          refine qr_goto (tgt := 5) (pc := 49) d_ib_amountsOf_49 (by decide) ?_
          exact qR_st (by simp [u_amts, *]) rfl (rfl) (ih (k + 1) (by omega) (by omega))
  exact loop5 (z + 1) 0 (by omega) (by omega)
set_option maxRecDepth 10000 in
theorem s_ib_allAmounts (l : Launch) (x : Bool) (I : Nat → Nat → Int32) (L : Nat → Nat → Int64) (z : Nat) (hz : I 14 5 = nI z) (hz2 : z ≤ 50) : qSp l y_ib_allAmounts b_ib_allAmounts 4 (some .long) x 1 0 0 [.ref 14] 77 (fm I L) (qD (some (.long (u_all (L 17) z))) 77 (fm I L)) := by
  refine qSp_of (ini := false) (by decide +kernel) (fun h => nomatch h) (Nat.le_of_ble_eq_true rfl) ?_
  show qR _ _ _ 0 [(0, .ref 14)] [] _ _ _ _
  refine qr_lconst (v := 0) (pc := 0) d_ib_allAmounts_0 (by decide) ?_
  refine qr_lstore_n (lv' := [(1, .long 0), (0, .ref 14)]) (pc := 1) d_ib_allAmounts_1 rfl (Nat.le_of_ble_eq_true rfl) rfl ?_
  refine qr_iconst (v := 0) (pc := 2) d_ib_allAmounts_2 (by decide) ?_
  refine qr_istore_n (lv' := [(3, .int 0), (1, .long 0), (0, .ref 14)]) (pc := 3) d_ib_allAmounts_3 rfl (Nat.le_of_ble_eq_true rfl) rfl ?_
  have loop4 : ∀ (j k : Nat), z - k < j → k ≤ z → qR (l, y_ib_allAmounts.cls, b_ib_allAmounts, 4, (some .long), false, x, 1, 0, 0, 77, q0) (qD (some (.long (u_all (L 17) z))) 77 (fm I L)) (fun _ _ _ => False) 4 [(3, .int (nI k)), (1, .long (u_all (L 17) k)), (0, .ref 14)] [] 77 0 0 (fm I L) := by
    intro j
    induction j with
    | zero => intro k hj; omega
    | succ j ih =>
    intro k hjj hk
    refine qr_iload_n (pc := 4) d_ib_allAmounts_4 rfl rfl ?_
    refine qr_aload_n (pc := 5) d_ib_allAmounts_5 rfl rfl ?_
    refine qr_get (v := .int (nI z)) (pc := 6) d_ib_allAmounts_6 fl_ib_26 (by decide) (by decide) (c_14 _ _) (congrArg (fun t => some (Value.int t)) hz) ?_
    refine qr_icmp_ge (tgt := 27) (pc := 9) d_ib_allAmounts_9 (by decide) (fun h9 => ?_) (fun h9 => ?_)
    · skip
      have hkz : z = k := by
        have := (nI_leI (a := z) (b := k) (by omega) (by omega)).mp h9
        omega
      subst hkz
      refine qr_lload_n (pc := 27) d_ib_allAmounts_27 rfl rfl ?_
      exact qr_lret (pc := 28) d_ib_allAmounts_28 rfl ⟨rfl, rfl, rfl⟩ (Nat.zero_le _) (Nat.zero_le _)
    · skip
      have hkz : k < z := by
        have := mt (nI_leI (a := z) (b := k) (by omega) (by omega)).mpr h9
        omega
      refine qr_lload_n (pc := 12) d_ib_allAmounts_12 rfl rfl ?_
      refine qr_aload_n (pc := 13) d_ib_allAmounts_13 rfl rfl ?_
      refine qr_get (v := .ref 17) (pc := 14) d_ib_allAmounts_14 fl_ib_16 (by decide) (by decide) (c_14 _ _) rfl ?_
      refine qr_iload_n (pc := 17) d_ib_allAmounts_17 rfl rfl ?_
      refine qr_laldN (j := k) (pc := 18) d_ib_allAmounts_18 (by decide) (by decide) (c_17 _ _) (by omega) (by decide) ?_
      refine qr_ladd (pc := 19) d_ib_allAmounts_19 ?_
      refine qr_lstore_n (lv' := [(1, .long ((u_all (L 17) k) + (L 17 k))), (3, .int (nI k)), (0, .ref 14)]) (pc := 20) d_ib_allAmounts_20 rfl (Nat.le_of_ble_eq_true rfl) rfl ?_
      refine qr_iinc (v := nI (k + 1)) (lv' := [(3, .int (nI (k + 1))), (1, .long ((u_all (L 17) k) + (L 17 k))), (0, .ref 14)]) (pc := 21) d_ib_allAmounts_21 rfl (nI_1 k) (Nat.le_of_ble_eq_true rfl) rfl ?_
      refine qr_goto (tgt := 4) (pc := 24) d_ib_allAmounts_24 (by decide) ?_
      exact qR_st (by simp [u_all, *]) rfl (rfl) (ih (k + 1) (by omega) (by omega))
  exact loop4 (z + 1) 0 (by omega) (by omega)
set_option maxRecDepth 10000 in
theorem s_ib_openOf (l : Launch) (x : Bool) (I : Nat → Nat → Int32) (L : Nat → Nat → Int64) (z : Nat) (hz : I 14 5 = nI z) (hz2 : z ≤ 50) (c : Int32) : qSp l y_ib_openOf b_ib_openOf 5 (some .long) x 1 0 0 [.ref 14, .int c] 77 (fm I L) (qD (some (.long (u_open I L c z))) 77 (fm I L)) := by
  refine qSp_of (ini := false) (by decide +kernel) (fun h => nomatch h) (Nat.le_of_ble_eq_true rfl) ?_
  show qR _ _ _ 0 [(0, .ref 14), (1, .int c)] [] _ _ _ _
  refine qr_lconst (v := 0) (pc := 0) d_ib_openOf_0 (by decide) ?_
  refine qr_lstore_n (lv' := [(2, .long 0), (0, .ref 14), (1, .int c)]) (pc := 1) d_ib_openOf_1 rfl (Nat.le_of_ble_eq_true rfl) rfl ?_
  refine qr_iconst (v := 0) (pc := 2) d_ib_openOf_2 (by decide) ?_
  refine qr_istore (lv' := [(4, .int 0), (2, .long 0), (0, .ref 14), (1, .int c)]) (pc := 3) d_ib_openOf_3 (Nat.le_of_ble_eq_true rfl) rfl ?_
  have loop5 : ∀ (j k : Nat), z - k < j → k ≤ z → qR (l, y_ib_openOf.cls, b_ib_openOf, 5, (some .long), false, x, 1, 0, 0, 77, q0) (qD (some (.long (u_open I L c z))) 77 (fm I L)) (fun _ _ _ => False) 5 [(4, .int (nI k)), (2, .long (u_open I L c k)), (0, .ref 14), (1, .int c)] [] 77 0 0 (fm I L) := by
    intro j
    induction j with
    | zero => intro k hj; omega
    | succ j ih =>
    intro k hjj hk
    refine qr_iload (pc := 5) d_ib_openOf_5 rfl ?_
    refine qr_aload_n (pc := 7) d_ib_openOf_7 rfl rfl ?_
    refine qr_get (v := .int (nI z)) (pc := 8) d_ib_openOf_8 fl_ib_26 (by decide) (by decide) (c_14 _ _) (congrArg (fun t => some (Value.int t)) hz) ?_
    refine qr_icmp_ge (tgt := 49) (pc := 11) d_ib_openOf_11 (by decide) (fun h11 => ?_) (fun h11 => ?_)
    · skip
      have hkz : z = k := by
        have := (nI_leI (a := z) (b := k) (by omega) (by omega)).mp h11
        omega
      subst hkz
      refine qr_lload_n (pc := 49) d_ib_openOf_49 rfl rfl ?_
      exact qr_lret (pc := 50) d_ib_openOf_50 rfl ⟨rfl, rfl, rfl⟩ (Nat.zero_le _) (Nat.zero_le _)
    · skip
      have hkz : k < z := by
        have := mt (nI_leI (a := z) (b := k) (by omega) (by omega)).mpr h11
        omega
      refine qr_aload_n (pc := 14) d_ib_openOf_14 rfl rfl ?_
      refine qr_get (v := .ref 15) (pc := 15) d_ib_openOf_15 fl_ib_9 (by decide) (by decide) (c_14 _ _) rfl ?_
      refine qr_iload (pc := 18) d_ib_openOf_18 rfl ?_
      refine qr_ialdN (j := k) (pc := 20) d_ib_openOf_20 (by decide) (by decide) (c_15 _ _) (by omega) (by decide) ?_
      refine qr_iload_n (pc := 21) d_ib_openOf_21 rfl rfl ?_
      refine qr_icmp_ne (tgt := 43) (pc := 22) d_ib_openOf_22 (by decide) (fun h22 => ?_) (fun h22 => ?_)
      · skip
        refine qr_iinc (v := nI (k + 1)) (lv' := [(4, .int (nI (k + 1))), (2, .long (u_open I L c k)), (0, .ref 14), (1, .int c)]) (pc := 43) d_ib_openOf_43 rfl (nI_1 k) (Nat.le_of_ble_eq_true rfl) rfl ?_
        refine qr_goto (tgt := 5) (pc := 46) d_ib_openOf_46 (by decide) ?_
        exact qR_st (by simp [u_open, *]) rfl (rfl) (ih (k + 1) (by omega) (by omega))
      · skip
        refine qr_lload_n (pc := 25) d_ib_openOf_25 rfl rfl ?_
        refine qr_aload_n (pc := 26) d_ib_openOf_26 rfl rfl ?_
        refine qr_get (v := .ref 17) (pc := 27) d_ib_openOf_27 fl_ib_16 (by decide) (by decide) (c_14 _ _) rfl ?_
        refine qr_iload (pc := 30) d_ib_openOf_30 rfl ?_
        refine qr_laldN (j := k) (pc := 32) d_ib_openOf_32 (by decide) (by decide) (c_17 _ _) (by omega) (by decide) ?_
        refine qr_aload_n (pc := 33) d_ib_openOf_33 rfl rfl ?_
        refine qr_get (v := .ref 19) (pc := 34) d_ib_openOf_34 fl_ib_23 (by decide) (by decide) (c_14 _ _) rfl ?_
        refine qr_iload (pc := 37) d_ib_openOf_37 rfl ?_
        refine qr_laldN (j := k) (pc := 39) d_ib_openOf_39 (by decide) (by decide) (c_19 _ _) (by omega) (by decide) ?_
        refine qr_lsub (pc := 40) d_ib_openOf_40 ?_
        refine qr_ladd (pc := 41) d_ib_openOf_41 ?_
        refine qr_lstore_n (lv' := [(2, .long ((u_open I L c k) + ((L 17 k) - (L 19 k)))), (4, .int (nI k)), (0, .ref 14), (1, .int c)]) (pc := 42) d_ib_openOf_42 rfl (Nat.le_of_ble_eq_true rfl) rfl ?_
        refine qr_iinc (v := nI (k + 1)) (lv' := [(4, .int (nI (k + 1))), (2, .long ((u_open I L c k) + ((L 17 k) - (L 19 k)))), (0, .ref 14), (1, .int c)]) (pc := 43) d_ib_openOf_43 rfl (nI_1 k) (Nat.le_of_ble_eq_true rfl) rfl ?_
        refine qr_goto (tgt := 5) (pc := 46) d_ib_openOf_46 (by decide) ?_
        exact qR_st (by simp [u_open, *]) rfl (rfl) (ih (k + 1) (by omega) (by omega))
  exact loop5 (z + 1) 0 (by omega) (by omega)
