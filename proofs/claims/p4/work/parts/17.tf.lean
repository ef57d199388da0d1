/-! BillForge$Tariff: the object q with its rows qe, qp -/
def isTf (q qe qp : Nat) : Prop := q < 77 ∧ qe < 77 ∧ qp < 77 ∧ (∀ g h, cellOf q g h = .inr (4, [.int (g 0), .int (g 1), .int (g 2), .int (g 3), .int (g 4), .int (g 5), .ref qe, .ref qp, .int (g 8)])) ∧ (∀ g h, cellOf qe g h = .inl (0, 4, .inl g)) ∧ ∀ g h, cellOf qp g h = .inl (0, 4, .inl g)
theorem isTf_t {t : Nat} (ht : t < 3) : isTf (28 + 3 * t) (29 + 3 * t) (30 + 3 * t) := by
  refine ⟨by omega, by omega, by omega, ?_, ?_, ?_⟩ <;> (intro g h; rcases (show t = 0 ∨ t = 1 ∨ t = 2 by omega) with rfl | rfl | rfl <;> rfl)
theorem i2l_ne {x : Int32} (h : 1 ≤ x) : ¬ Int32.toInt64 x = 0 := by
  intro e
  have h1 := congrArg Int64.toInt e
  rw [Int32.toInt_toInt64] at h1
  have h2 := Int32.le_iff_toInt_le.mp h
  have h3 : (1 : Int32).toInt = 1 := by decide
  have h4 : (0 : Int64).toInt = 0 := by decide
  omega
/-- price and priced behind the first k tiers -/
def u_pt (e p : Nat → Int32) (u : Int64) : Nat → Int64 × Int64
  | 0 => (0, 0)
  | k + 1 => ((u_pt e p u k).1 + (qmminl u (Int32.toInt64 (e k)) - (u_pt e p u k).2) * Int32.toInt64 (p k), qmminl u (Int32.toInt64 (e k)))
def u_tiers (I : Nat → Nat → Int32) (q qe qp z : Nat) (u : Int64) : Int64 := (u_pt (I qe) (I qp) u z).1 + (u - (u_pt (I qe) (I qp) u z).2) * Int32.toInt64 (I q 8)
def u_packs (I : Nat → Nat → Int32) (q : Nat) (u : Int64) : Int64 := if 1 ≤ I q 3 then (u + Int32.toInt64 (I q 3) - 1) / Int32.toInt64 (I q 3) * Int32.toInt64 (I q 4) else 0
def u_paid (I : Nat → Nat → Int32) (q : Nat) (u : Int64) (d D : Int32) : Int64 := qmmaxl 0 (u - u_share (Int32.toInt64 (I q 1)) (Int32.toInt64 d) (Int32.toInt64 D))
def u_use (I : Nat → Nat → Int32) (q qe qp z : Nat) (u : Int64) (d D : Int32) : Int64 := qmmaxl (if I q 3 ≤ 0 then u_tiers I q qe qp z (u_paid I q u d D) else u_packs I q (u_paid I q u d D)) (u_share (Int32.toInt64 (I q 2)) (Int32.toInt64 d) (Int32.toInt64 D))
set_option maxRecDepth 10000 in
theorem s_tf_clear (l : Launch) (x : Bool) (I : Nat → Nat → Int32) (L : Nat → Nat → Int64)  : qSp l y_tf_clear b_tf_clear 1 none x 1 0 0 [.ref 4] 77 (fm I L) (qD none 77 (fm (wI (wI (wI (wI (wI (wI (wI I 4 0 0) 4 1 0) 4 2 0) 4 3 0) 4 4 0) 4 5 0) 4 8 0) L)) := by
  refine qSp_of (ini := false) (by decide +kernel) (fun h => nomatch h) (Nat.le_of_ble_eq_true rfl) ?_
  show qR _ _ _ 0 [(0, .ref 4)] [] _ _ _ _
  refine qr_aload_n (pc := 0) d_tf_clear_0 rfl rfl ?_
  refine qr_iconst (v := 0) (pc := 1) d_tf_clear_1 (by decide) ?_
  refine qr_putI (pc := 2) d_tf_clear_2 fl_tf_7 (by decide) (by decide) (c_4 _ _) (Nat.le_of_ble_eq_true rfl) (qFit_i _) (fun w => rfl) ?_
  refine qr_aload_n (pc := 5) d_tf_clear_5 rfl rfl ?_
  refine qr_iconst (v := 0) (pc := 6) d_tf_clear_6 (by decide) ?_
  refine qr_putI (pc := 7) d_tf_clear_7 fl_tf_13 (by decide) (by decide) (c_4 _ _) (Nat.le_of_ble_eq_true rfl) (qFit_i _) (fun w => rfl) ?_
  refine qr_aload_n (pc := 10) d_tf_clear_10 rfl rfl ?_
  refine qr_iconst (v := 0) (pc := 11) d_tf_clear_11 (by decide) ?_
  refine qr_putI (pc := 12) d_tf_clear_12 fl_tf_16 (by decide) (by decide) (c_4 _ _) (Nat.le_of_ble_eq_true rfl) (qFit_i _) (fun w => rfl) ?_
  refine qr_aload_n (pc := 15) d_tf_clear_15 rfl rfl ?_
  refine qr_iconst (v := 0) (pc := 16) d_tf_clear_16 (by decide) ?_
  refine qr_putI (pc := 17) d_tf_clear_17 fl_tf_19 (by decide) (by decide) (c_4 _ _) (Nat.le_of_ble_eq_true rfl) (qFit_i _) (fun w => rfl) ?_
  refine qr_aload_n (pc := 20) d_tf_clear_20 rfl rfl ?_
  refine qr_iconst (v := 0) (pc := 21) d_tf_clear_21 (by decide) ?_
  refine qr_putI (pc := 22) d_tf_clear_22 fl_tf_22 (by decide) (by decide) (c_4 _ _) (Nat.le_of_ble_eq_true rfl) (qFit_i _) (fun w => rfl) ?_
  refine qr_aload_n (pc := 25) d_tf_clear_25 rfl rfl ?_
  refine qr_iconst (v := 0) (pc := 26) d_tf_clear_26 (by decide) ?_
  refine qr_putI (pc := 27) d_tf_clear_27 fl_tf_25 (by decide) (by decide) (c_4 _ _) (Nat.le_of_ble_eq_true rfl) (qFit_i _) (fun w => rfl) ?_
  refine qr_aload_n (pc := 30) d_tf_clear_30 rfl rfl ?_
  refine qr_iconst (v := 0) (pc := 31) d_tf_clear_31 (by decide) ?_
  refine qr_putI (pc := 32) d_tf_clear_32 fl_tf_35 (by decide) (by decide) (c_4 _ _) (Nat.le_of_ble_eq_true rfl) (qFit_i _) (fun w => rfl) ?_
  exact qr_vret (pc := 35) d_tf_clear_35 rfl ⟨rfl, rfl, rfl⟩ (Nat.zero_le _) (Nat.zero_le _)
set_option maxRecDepth 10000 in
theorem s_tf_setFee (l : Launch) (x : Bool) (I : Nat → Nat → Int32) (L : Nat → Nat → Int64) (v : Int32) : qSp l y_tf_setFee b_tf_setFee 2 none x 1 0 0 [.ref 4, .int v] 77 (fm I L) (qD none 77 (fm (wI I 4 0 v) L)) := by
  refine qSp_of (ini := false) (by decide +kernel) (fun h => nomatch h) (Nat.le_of_ble_eq_true rfl) ?_
  show qR _ _ _ 0 [(0, .ref 4), (1, .int v)] [] _ _ _ _
  refine qr_aload_n (pc := 0) d_tf_setFee_0 rfl rfl ?_
  refine qr_iload_n (pc := 1) d_tf_setFee_1 rfl rfl ?_
  refine qr_putI (pc := 2) d_tf_setFee_2 fl_tf_7 (by decide) (by decide) (c_4 _ _) (Nat.le_of_ble_eq_true rfl) (qFit_i _) (fun w => rfl) ?_
  exact qr_vret (pc := 5) d_tf_setFee_5 rfl ⟨rfl, rfl, rfl⟩ (Nat.zero_le _) (Nat.zero_le _)
set_option maxRecDepth 10000 in
theorem s_tf_setFree (l : Launch) (x : Bool) (I : Nat → Nat → Int32) (L : Nat → Nat → Int64) (v : Int32) : qSp l y_tf_setFree b_tf_setFree 2 none x 1 0 0 [.ref 4, .int v] 77 (fm I L) (qD none 77 (fm (wI I 4 1 v) L)) := by
  refine qSp_of (ini := false) (by decide +kernel) (fun h => nomatch h) (Nat.le_of_ble_eq_true rfl) ?_
  show qR _ _ _ 0 [(0, .ref 4), (1, .int v)] [] _ _ _ _
  refine qr_aload_n (pc := 0) d_tf_setFree_0 rfl rfl ?_
  refine qr_iload_n (pc := 1) d_tf_setFree_1 rfl rfl ?_
  refine qr_putI (pc := 2) d_tf_setFree_2 fl_tf_13 (by decide) (by decide) (c_4 _ _) (Nat.le_of_ble_eq_true rfl) (qFit_i _) (fun w => rfl) ?_
  exact qr_vret (pc := 5) d_tf_setFree_5 rfl ⟨rfl, rfl, rfl⟩ (Nat.zero_le _) (Nat.zero_le _)
set_option maxRecDepth 10000 in
theorem s_tf_setLeast (l : Launch) (x : Bool) (I : Nat → Nat → Int32) (L : Nat → Nat → Int64) (v : Int32) : qSp l y_tf_setLeast b_tf_setLeast 2 none x 1 0 0 [.ref 4, .int v] 77 (fm I L) (qD none 77 (fm (wI I 4 2 v) L)) := by
  refine qSp_of (ini := false) (by decide +kernel) (fun h => nomatch h) (Nat.le_of_ble_eq_true rfl) ?_
  show qR _ _ _ 0 [(0, .ref 4), (1, .int v)] [] _ _ _ _
  refine qr_aload_n (pc := 0) d_tf_setLeast_0 rfl rfl ?_
  refine qr_iload_n (pc := 1) d_tf_setLeast_1 rfl rfl ?_
  refine qr_putI (pc := 2) d_tf_setLeast_2 fl_tf_16 (by decide) (by decide) (c_4 _ _) (Nat.le_of_ble_eq_true rfl) (qFit_i _) (fun w => rfl) ?_
  exact qr_vret (pc := 5) d_tf_setLeast_5 rfl ⟨rfl, rfl, rfl⟩ (Nat.zero_le _) (Nat.zero_le _)
set_option maxRecDepth 10000 in
theorem s_tf_setRestPrice (l : Launch) (x : Bool) (I : Nat → Nat → Int32) (L : Nat → Nat → Int64) (v : Int32) : qSp l y_tf_setRestPrice b_tf_setRestPrice 2 none x 1 0 0 [.ref 4, .int v] 77 (fm I L) (qD none 77 (fm (wI I 4 8 v) L)) := by
  refine qSp_of (ini := false) (by decide +kernel) (fun h => nomatch h) (Nat.le_of_ble_eq_true rfl) ?_
  show qR _ _ _ 0 [(0, .ref 4), (1, .int v)] [] _ _ _ _
  refine qr_aload_n (pc := 0) d_tf_setRestPrice_0 rfl rfl ?_
  refine qr_iload_n (pc := 1) d_tf_setRestPrice_1 rfl rfl ?_
  refine qr_putI (pc := 2) d_tf_setRestPrice_2 fl_tf_35 (by decide) (by decide) (c_4 _ _) (Nat.le_of_ble_eq_true rfl) (qFit_i _) (fun w => rfl) ?_
  exact qr_vret (pc := 5) d_tf_setRestPrice_5 rfl ⟨rfl, rfl, rfl⟩ (Nat.zero_le _) (Nat.zero_le _)
set_option maxRecDepth 10000 in
theorem s_tf_setPack (l : Launch) (x : Bool) (I : Nat → Nat → Int32) (L : Nat → Nat → Int64) (a b : Int32) : qSp l y_tf_setPack b_tf_setPack 3 none x 1 0 0 [.ref 4, .int a, .int b] 77 (fm I L) (qD none 77 (fm (wI (wI I 4 3 a) 4 4 b) L)) := by
  refine qSp_of (ini := false) (by decide +kernel) (fun h => nomatch h) (Nat.le_of_ble_eq_true rfl) ?_
  show qR _ _ _ 0 [(0, .ref 4), (1, .int a), (2, .int b)] [] _ _ _ _
  refine qr_aload_n (pc := 0) d_tf_setPack_0 rfl rfl ?_
  refine qr_iload_n (pc := 1) d_tf_setPack_1 rfl rfl ?_
  refine qr_putI (pc := 2) d_tf_setPack_2 fl_tf_19 (by decide) (by decide) (c_4 _ _) (Nat.le_of_ble_eq_true rfl) (qFit_i _) (fun w => rfl) ?_
  refine qr_aload_n (pc := 5) d_tf_setPack_5 rfl rfl ?_
  refine qr_iload_n (pc := 6) d_tf_setPack_6 rfl rfl ?_
  refine qr_putI (pc := 7) d_tf_setPack_7 fl_tf_22 (by decide) (by decide) (c_4 _ _) (Nat.le_of_ble_eq_true rfl) (qFit_i _) (fun w => rfl) ?_
  exact qr_vret (pc := 10) d_tf_setPack_10 rfl ⟨rfl, rfl, rfl⟩ (Nat.zero_le _) (Nat.zero_le _)
set_option maxRecDepth 10000 in
theorem s_tf_hasPack (l : Launch) (x : Bool) (I : Nat → Nat → Int32) (L : Nat → Nat → Int64)  : qSp l y_tf_hasPack b_tf_hasPack 1 (some .boolean) x 1 0 0 [.ref 4] 77 (fm I L) (qD (some (.int (if 0 < I 4 3 then 1 else 0))) 77 (fm I L)) := by
  refine qSp_of (ini := false) (by decide +kernel) (fun h => nomatch h) (Nat.le_of_ble_eq_true rfl) ?_
  show qR _ _ _ 0 [(0, .ref 4)] [] _ _ _ _
  refine qr_aload_n (pc := 0) d_tf_hasPack_0 rfl rfl ?_
  refine qr_get (v := .int (I 4 3)) (pc := 1) d_tf_hasPack_1 fl_tf_19 (by decide) (by decide) (c_4 _ _) rfl ?_
  refine qr_if_le (tgt := 11) (pc := 4) d_tf_hasPack_4 (by decide) (fun h4 => ?_) (fun h4 => ?_)
  · skip
    refine qr_iconst (v := 0) (pc := 11) d_tf_hasPack_11 (by decide) ?_
    exact qr_iret (pc := 12) d_tf_hasPack_12 rfl rfl ⟨(by simp [Int32.not_le, *]), rfl, rfl⟩ (Nat.zero_le _) (Nat.zero_le _)
  · skip
    refine qr_iconst (v := 1) (pc := 7) d_tf_hasPack_7 (by decide) ?_
    refine qr_goto (tgt := 12) (pc := 8) d_tf_hasPack_8 (by decide) ?_
    exact qr_iret (pc := 12) d_tf_hasPack_12 rfl rfl ⟨(by simp [Int32.not_le, *]), rfl, rfl⟩ (Nat.zero_le _) (Nat.zero_le _)
set_option maxRecDepth 10000 in
theorem s_tf_tiers (l : Launch) (x : Bool) (I : Nat → Nat → Int32) (L : Nat → Nat → Int64)  : qSp l y_tf_tiers b_tf_tiers 1 (some .int) x 1 0 0 [.ref 4] 77 (fm I L) (qD (some (.int (I 4 5))) 77 (fm I L)) := by
  refine qSp_of (ini := false) (by decide +kernel) (fun h => nomatch h) (Nat.le_of_ble_eq_true rfl) ?_
  show qR _ _ _ 0 [(0, .ref 4)] [] _ _ _ _
  refine qr_aload_n (pc := 0) d_tf_tiers_0 rfl rfl ?_
  refine qr_get (v := .int (I 4 5)) (pc := 1) d_tf_tiers_1 fl_tf_25 (by decide) (by decide) (c_4 _ _) rfl ?_
  exact qr_iret (pc := 4) d_tf_tiers_4 rfl rfl ⟨rfl, rfl, rfl⟩ (Nat.zero_le _) (Nat.zero_le _)
set_option maxRecDepth 10000 in
theorem s_tf_addTier (l : Launch) (x : Bool) (I : Nat → Nat → Int32) (L : Nat → Nat → Int64) (z : Nat) (hz : I 4 5 = nI z) (hz2 : z ≤ 4) (e p : Int32) : qSp l y_tf_addTier b_tf_addTier 3 none x 1 0 0 [.ref 4, .int e, .int p] 77 (fm I L) (qD none 77 (fm (if 4 ≤ nI z then I else wI (wI (wI I 5 z e) 6 z p) 4 5 (nI (z + 1))) L)) := by
  refine qSp_of (ini := false) (by decide +kernel) (fun h => nomatch h) (Nat.le_of_ble_eq_true rfl) ?_
  show qR _ _ _ 0 [(0, .ref 4), (1, .int e), (2, .int p)] [] _ _ _ _
  refine qr_aload_n (pc := 0) d_tf_addTier_0 rfl rfl ?_
  refine qr_get (v := .int (nI z)) (pc := 1) d_tf_addTier_1 fl_tf_25 (by decide) (by decide) (c_4 _ _) (congrArg (fun t => some (Value.int t)) hz) ?_
  refine qr_iconst (v := 4) (pc := 4) d_tf_addTier_4 (by decide) ?_
  refine qr_icmp_ge (tgt := 38) (pc := 5) d_tf_addTier_5 (by decide) (fun h5 => ?_) (fun h5 => ?_)
  · skip
    exact qr_vret (pc := 38) d_tf_addTier_38 rfl ⟨rfl, rfl, (by simp [*, nI_1])⟩ (Nat.zero_le _) (Nat.zero_le _)
  · skip
    have hlt : z < 4 := by
      have := mt (nI_leI (a := 4) (b := z) (by omega) (by omega)).mpr h5
      omega
    refine qr_aload_n (pc := 8) d_tf_addTier_8 rfl rfl ?_
    refine qr_get (v := .ref 5) (pc := 9) d_tf_addTier_9 fl_tf_28 (by decide) (by decide) (c_4 _ _) rfl ?_
    refine qr_aload_n (pc := 12) d_tf_addTier_12 rfl rfl ?_
    refine qr_get (v := .int (nI z)) (pc := 13) d_tf_addTier_13 fl_tf_25 (by decide) (by decide) (c_4 _ _) (congrArg (fun t => some (Value.int t)) hz) ?_
    refine qr_iload_n (pc := 16) d_tf_addTier_16 rfl rfl ?_
    refine qr_iastMN (j := z) (pc := 17) d_tf_addTier_17 (by decide) (by decide) (c_5 _ _) (by omega) (by decide) (fun w => rfl) ?_
    refine qr_aload_n (pc := 18) d_tf_addTier_18 rfl rfl ?_
    refine qr_get (v := .ref 6) (pc := 19) d_tf_addTier_19 fl_tf_32 (by decide) (by decide) (c_4 _ _) rfl ?_
    refine qr_aload_n (pc := 22) d_tf_addTier_22 rfl rfl ?_
    refine qr_get (v := .int (nI z)) (pc := 23) d_tf_addTier_23 fl_tf_25 (by decide) (by decide) (c_4 _ _) (congrArg (fun t => some (Value.int t)) hz) ?_
    refine qr_iload_n (pc := 26) d_tf_addTier_26 rfl rfl ?_
    refine qr_iastMN (j := z) (pc := 27) d_tf_addTier_27 (by decide) (by decide) (c_6 _ _) (by omega) (by decide) (fun w => rfl) ?_
    refine qr_aload_n (pc := 28) d_tf_addTier_28 rfl rfl ?_
    refine qr_dup (pc := 29) d_tf_addTier_29 rfl ?_
    refine qr_get (v := .int (nI z)) (pc := 30) d_tf_addTier_30 fl_tf_25 (by decide) (by decide) (c_4 _ _) (congrArg (fun t => some (Value.int t)) hz) ?_
    refine qr_iconst (v := 1) (pc := 33) d_tf_addTier_33 (by decide) ?_
    refine qr_iadd (pc := 34) d_tf_addTier_34 ?_
    refine qr_putI (pc := 35) d_tf_addTier_35 fl_tf_25 (by decide) (by decide) (c_4 _ _) (Nat.le_of_ble_eq_true rfl) (qFit_i _) (fun w => rfl) ?_
    exact qr_vret (pc := 38) d_tf_addTier_38 rfl ⟨rfl, rfl, (by simp [*, nI_1])⟩ (Nat.zero_le _) (Nat.zero_le _)
set_option maxRecDepth 10000 in
theorem s_tf_lastTierEnd (l : Launch) (x : Bool) (I : Nat → Nat → Int32) (L : Nat → Nat → Int64) (z : Nat) (hz : I 4 5 = nI z) (hz2 : z ≤ 4) : qSp l y_tf_lastTierEnd b_tf_lastTierEnd 1 (some .int) x 1 0 0 [.ref 4] 77 (fm I L) (qD (some (.int (if z = 0 then 0 else I 5 (z - 1)))) 77 (fm I L)) := by
  refine qSp_of (ini := false) (by decide +kernel) (fun h => nomatch h) (Nat.le_of_ble_eq_true rfl) ?_
  show qR _ _ _ 0 [(0, .ref 4)] [] _ _ _ _
  refine qr_aload_n (pc := 0) d_tf_lastTierEnd_0 rfl rfl ?_
  refine qr_get (v := .int (nI z)) (pc := 1) d_tf_lastTierEnd_1 fl_tf_25 (by decide) (by decide) (c_4 _ _) (congrArg (fun t => some (Value.int t)) hz) ?_
  refine qr_if_ne (tgt := 11) (pc := 4) d_tf_lastTierEnd_4 (by decide) (fun h4 => ?_) (fun h4 => ?_)
  · skip
    have hz0 : 0 < z := by
      rcases Nat.eq_zero_or_pos z with e | e
      · exact absurd (by rw [e]; rfl) h4
      · exact e
    have hix : nI z - 1 = nI (z - 1) := by
      rw [show (1 : Int32) = nI 1 from rfl, pk_sub hz0]
    refine qr_aload_n (pc := 11) d_tf_lastTierEnd_11 rfl rfl ?_
    refine qr_get (v := .ref 5) (pc := 12) d_tf_lastTierEnd_12 fl_tf_28 (by decide) (by decide) (c_4 _ _) rfl ?_
    refine qr_aload_n (pc := 15) d_tf_lastTierEnd_15 rfl rfl ?_
    refine qr_get (v := .int (nI z)) (pc := 16) d_tf_lastTierEnd_16 fl_tf_25 (by decide) (by decide) (c_4 _ _) (congrArg (fun t => some (Value.int t)) hz) ?_
    refine qr_iconst (v := 1) (pc := 19) d_tf_lastTierEnd_19 (by decide) ?_
    refine qr_isub (pc := 20) d_tf_lastTierEnd_20 ?_
    refine qr_iald (pc := 21) d_tf_lastTierEnd_21 (by decide) (by decide) (c_5 _ _) (by rw [hix]; exact vp_in_nI (by omega) (by decide)) ?_
    exact qr_iret (pc := 22) d_tf_lastTierEnd_22 rfl rfl ⟨(by rw [if_neg (by omega), hix, nI_clamp (by omega)]), rfl, rfl⟩ (Nat.zero_le _) (Nat.zero_le _)
  · skip
    have hz0 : z = 0 := by
      rcases Nat.eq_zero_or_pos z with e | e
      · exact e
      · exact absurd h4 (nI_ne0 e (by omega))
    refine qr_iconst (v := 0) (pc := 7) d_tf_lastTierEnd_7 (by decide) ?_
    refine qr_goto (tgt := 22) (pc := 8) d_tf_lastTierEnd_8 (by decide) ?_
    exact qr_iret (pc := 22) d_tf_lastTierEnd_22 rfl rfl ⟨(by rw [if_pos hz0]), rfl, rfl⟩ (Nat.zero_le _) (Nat.zero_le _)
set_option maxRecDepth 10000 in
theorem s_tf_feeOf (l : Launch) (x : Bool) (I : Nat → Nat → Int32) (L : Nat → Nat → Int64) (q qe qp : Nat) (hq : isTf q qe qp) (d D : Int32) : qSp l y_tf_feeOf b_tf_feeOf 3 (some .long) x 2 0 0 [.ref q, .int d, .int D] 77 (fm I L) (qD (some (.long (u_share (Int32.toInt64 (I q 0)) (Int32.toInt64 d) (Int32.toInt64 D)))) 77 (fm I L)) := by
  refine qSp_of (ini := false) (by decide +kernel) (fun h => nomatch h) (Nat.le_of_ble_eq_true rfl) ?_
  show qR _ _ _ 0 [(0, .ref q), (1, .int d), (2, .int D)] [] _ _ _ _
  refine qr_aload_n (pc := 0) d_tf_feeOf_0 rfl rfl ?_
  refine qr_get (v := .int (I q 0)) (pc := 1) d_tf_feeOf_1 fl_tf_7 hq.1 hq.1 (hq.2.2.2.1 _ _) rfl ?_
  refine qr_i2l (pc := 4) d_tf_feeOf_4 ?_
  refine qr_iload_n (pc := 5) d_tf_feeOf_5 rfl rfl ?_
  refine qr_i2l (pc := 6) d_tf_feeOf_6 ?_
  refine qr_iload_n (pc := 7) d_tf_feeOf_7 rfl rfl ?_
  refine qr_i2l (pc := 8) d_tf_feeOf_8 ?_
  refine qr_callSN (As := [.long (Int32.toInt64 (I q 0)), .long (Int32.toInt64 d), .long (Int32.toInt64 D)]) (pc := 9) d_tf_feeOf_9 ln_tf_38 sm_bf_shareOf (s_bf_shareOf _ x _ _ (Int32.toInt64 (I q 0)) (Int32.toInt64 d) (Int32.toInt64 D)) rfl rfl (Nat.le_of_ble_eq_true rfl) (Nat.le_of_ble_eq_true rfl) (Nat.le_of_ble_eq_true rfl) (Nat.zero_le _) (Nat.zero_le _) (fun h => ⟨h, rfl, Or.inl rfl⟩) (fun v n9 f9 hE9 => ?_)
  obtain ⟨rfl, rfl, rfl⟩ := hE9
  exact qr_lret (pc := 12) d_tf_feeOf_12 rfl ⟨rfl, rfl, rfl⟩ (Nat.zero_le _) (Nat.zero_le _)
set_option maxRecDepth 10000 in
theorem s_tf_priceByPacks (l : Launch) (x : Bool) (I : Nat → Nat → Int32) (L : Nat → Nat → Int64) (q qe qp : Nat) (hq : isTf q qe qp) (u : Int64) : qSp l y_tf_priceByPacks b_tf_priceByPacks 3 (some .long) x 1 0 0 [.ref q, .long u] 77 (fm I L) (qD (some (.long (u_packs I q u))) 77 (fm I L)) := by
  refine qSp_of (ini := false) (by decide +kernel) (fun h => nomatch h) (Nat.le_of_ble_eq_true rfl) ?_
  show qR _ _ _ 0 [(0, .ref q), (1, .long u)] [] _ _ _ _
  refine qr_aload_n (pc := 0) d_tf_priceByPacks_0 rfl rfl ?_
  refine qr_get (v := .int (I q 3)) (pc := 1) d_tf_priceByPacks_1 fl_tf_19 hq.1 hq.1 (hq.2.2.2.1 _ _) rfl ?_
  refine qr_iconst (v := 1) (pc := 4) d_tf_priceByPacks_4 (by decide) ?_
  refine qr_icmp_ge (tgt := 12) (pc := 5) d_tf_priceByPacks_5 (by decide) (fun h5 => ?_) (fun h5 => ?_)
  · skip
    refine qr_lload_n (pc := 12) d_tf_priceByPacks_12 rfl rfl ?_
    refine qr_aload_n (pc := 13) d_tf_priceByPacks_13 rfl rfl ?_
    refine qr_get (v := .int (I q 3)) (pc := 14) d_tf_priceByPacks_14 fl_tf_19 hq.1 hq.1 (hq.2.2.2.1 _ _) rfl ?_
    refine qr_i2l (pc := 17) d_tf_priceByPacks_17 ?_
    refine qr_ladd (pc := 18) d_tf_priceByPacks_18 ?_
    refine qr_lconst (v := 1) (pc := 19) d_tf_priceByPacks_19 (by decide) ?_
    refine qr_lsub (pc := 20) d_tf_priceByPacks_20 ?_
    refine qr_aload_n (pc := 21) d_tf_priceByPacks_21 rfl rfl ?_
    refine qr_get (v := .int (I q 3)) (pc := 22) d_tf_priceByPacks_22 fl_tf_19 hq.1 hq.1 (hq.2.2.2.1 _ _) rfl ?_
    refine qr_i2l (pc := 25) d_tf_priceByPacks_25 ?_
    refine qr_ldiv (pc := 26) d_tf_priceByPacks_26 (i2l_ne h5) ?_
    refine qr_aload_n (pc := 27) d_tf_priceByPacks_27 rfl rfl ?_
    refine qr_get (v := .int (I q 4)) (pc := 28) d_tf_priceByPacks_28 fl_tf_22 hq.1 hq.1 (hq.2.2.2.1 _ _) rfl ?_
    refine qr_i2l (pc := 31) d_tf_priceByPacks_31 ?_
    refine qr_lmul (pc := 32) d_tf_priceByPacks_32 ?_
    exact qr_lret (pc := 33) d_tf_priceByPacks_33 rfl ⟨(by simp [u_packs, *]), rfl, rfl⟩ (Nat.zero_le _) (Nat.zero_le _)
  · skip
    refine qr_lconst (v := 0) (pc := 8) d_tf_priceByPacks_8 (by decide) ?_
    refine qr_goto (tgt := 33) (pc := 9) d_tf_priceByPacks_9 (by decide) ?_
    exact qr_lret (pc := 33) d_tf_priceByPacks_33 rfl ⟨(by simp [u_packs, *]), rfl, rfl⟩ (Nat.zero_le _) (Nat.zero_le _)
set_option maxRecDepth 10000 in
theorem s_tf_priceByTiers (l : Launch) (x : Bool) (I : Nat → Nat → Int32) (L : Nat → Nat → Int64) (q qe qp : Nat) (hq : isTf q qe qp) (z : Nat) (hz : I q 5 = nI z) (hz2 : z ≤ 4) (u : Int64) : qSp l y_tf_priceByTiers b_tf_priceByTiers 10 (some .long) x 1 0 0 [.ref q, .long u] 77 (fm I L) (qD (some (.long (u_tiers I q qe qp z u))) 77 (fm I L)) := by
  refine qSp_of (ini := false) (by decide +kernel) (fun h => nomatch h) (Nat.le_of_ble_eq_true rfl) ?_
  show qR _ _ _ 0 [(0, .ref q), (1, .long u)] [] _ _ _ _
  refine qr_lconst (v := 0) (pc := 0) d_tf_priceByTiers_0 (by decide) ?_
  refine qr_lstore_n (lv' := [(3, .long 0), (0, .ref q), (1, .long u)]) (pc := 1) d_tf_priceByTiers_1 rfl (Nat.le_of_ble_eq_true rfl) rfl ?_
  refine qr_lconst (v := 0) (pc := 2) d_tf_priceByTiers_2 (by decide) ?_
  refine qr_lstore (lv' := [(5, .long 0), (3, .long 0), (0, .ref q), (1, .long u)]) (pc := 3) d_tf_priceByTiers_3 (Nat.le_of_ble_eq_true rfl) rfl ?_
  refine qr_iconst (v := 0) (pc := 5) d_tf_priceByTiers_5 (by decide) ?_
  refine qr_istore (lv' := [(7, .int 0), (5, .long 0), (3, .long 0), (0, .ref q), (1, .long u)]) (pc := 6) d_tf_priceByTiers_6 (Nat.le_of_ble_eq_true rfl) rfl ?_
  have loop8 : ∀ (j k : Nat), z - k < j → k ≤ z → qR (l, y_tf_priceByTiers.cls, b_tf_priceByTiers, 10, (some .long), false, x, 1, 0, 0, 77, q0) (qD (some (.long (u_tiers I q qe qp z u))) 77 (fm I L)) (fun _ _ _ => False) 8 [(7, .int (nI k)), (5, .long ((u_pt (I qe) (I qp) u k).2)), (3, .long ((u_pt (I qe) (I qp) u k).1)), (0, .ref q), (1, .long u)] [] 77 0 0 (fm I L) := by
    intro j
    induction j with
    | zero => intro k hj; omega
    | succ j ih =>
    intro k hjj hk
    refine qr_iload (pc := 8) d_tf_priceByTiers_8 rfl ?_
    refine qr_aload_n (pc := 10) d_tf_priceByTiers_10 rfl rfl ?_
    refine qr_get (v := .int (nI z)) (pc := 11) d_tf_priceByTiers_11 fl_tf_25 hq.1 hq.1 (hq.2.2.2.1 _ _) (congrArg (fun t => some (Value.int t)) hz) ?_
    refine qr_icmp_ge (tgt := 58) (pc := 14) d_tf_priceByTiers_14 (by decide) (fun h14 => ?_) (fun h14 => ?_)
    · skip
      have hkz : z = k := by
        have := (nI_leI (a := z) (b := k) (by omega) (by omega)).mp h14
        omega
      subst hkz
      refine qr_lload_n (pc := 58) d_tf_priceByTiers_58 rfl rfl ?_
      refine qr_lload_n (pc := 59) d_tf_priceByTiers_59 rfl rfl ?_
      refine qr_lload (pc := 60) d_tf_priceByTiers_60 rfl ?_
      refine qr_lsub (pc := 62) d_tf_priceByTiers_62 ?_
      refine qr_aload_n (pc := 63) d_tf_priceByTiers_63 rfl rfl ?_
      refine qr_get (v := .int (I q 8)) (pc := 64) d_tf_priceByTiers_64 fl_tf_35 hq.1 hq.1 (hq.2.2.2.1 _ _) rfl ?_
      refine qr_i2l (pc := 67) d_tf_priceByTiers_67 ?_
      refine qr_lmul (pc := 68) d_tf_priceByTiers_68 ?_
      refine qr_ladd (pc := 69) d_tf_priceByTiers_69 ?_
      exact qr_lret (pc := 70) d_tf_priceByTiers_70 rfl ⟨rfl, rfl, rfl⟩ (Nat.zero_le _) (Nat.zero_le _)
    · skip
      have hkz : k < z := by
        have := mt (nI_leI (a := z) (b := k) (by omega) (by omega)).mpr h14
        omega
      refine qr_lload_n (pc := 17) d_tf_priceByTiers_17 rfl rfl ?_
      refine qr_aload_n (pc := 18) d_tf_priceByTiers_18 rfl rfl ?_
      refine qr_get (v := .ref qe) (pc := 19) d_tf_priceByTiers_19 fl_tf_28 hq.1 hq.1 (hq.2.2.2.1 _ _) rfl ?_
      refine qr_iload (pc := 22) d_tf_priceByTiers_22 rfl ?_
      refine qr_ialdN (j := k) (pc := 24) d_tf_priceByTiers_24 hq.2.1 hq.2.1 (hq.2.2.2.2.1 _ _) (by omega) (by decide) ?_
      refine qr_i2l (pc := 25) d_tf_priceByTiers_25 ?_
      refine qr_mminl (pc := 26) d_tf_priceByTiers_26 lk_tf_57 s_mminl i_math c_mminl (Nat.le_of_ble_eq_true rfl) (Nat.le_of_ble_eq_true rfl) (Nat.zero_le _) (Nat.zero_le _) ?_
      refine qr_lstore (lv' := [(8, .long (qmminl u (Int32.toInt64 (I qe k)))), (7, .int (nI k)), (5, .long ((u_pt (I qe) (I qp) u k).2)), (3, .long ((u_pt (I qe) (I qp) u k).1)), (0, .ref q), (1, .long u)]) (pc := 29) d_tf_priceByTiers_29 (Nat.le_of_ble_eq_true rfl) rfl ?_
      refine qr_lload_n (pc := 31) d_tf_priceByTiers_31 rfl rfl ?_
      refine qr_lload (pc := 32) d_tf_priceByTiers_32 rfl ?_
      refine qr_lload (pc := 34) d_tf_priceByTiers_34 rfl ?_
      refine qr_lsub (pc := 36) d_tf_priceByTiers_36 ?_
      refine qr_aload_n (pc := 37) d_tf_priceByTiers_37 rfl rfl ?_
      refine qr_get (v := .ref qp) (pc := 38) d_tf_priceByTiers_38 fl_tf_32 hq.1 hq.1 (hq.2.2.2.1 _ _) rfl ?_
      refine qr_iload (pc := 41) d_tf_priceByTiers_41 rfl ?_
      refine qr_ialdN (j := k) (pc := 43) d_tf_priceByTiers_43 hq.2.2.1 hq.2.2.1 (hq.2.2.2.2.2 _ _) (by omega) (by decide) ?_
      refine qr_i2l (pc := 44) d_tf_priceByTiers_44 ?_
      refine qr_lmul (pc := 45) d_tf_priceByTiers_45 ?_
      refine qr_ladd (pc := 46) d_tf_priceByTiers_46 ?_
      refine qr_lstore_n (lv' := [(3, .long (((u_pt (I qe) (I qp) u k).1) + (((qmminl u (Int32.toInt64 (I qe k))) - ((u_pt (I qe) (I qp) u k).2)) * (Int32.toInt64 (I qp k))))), (8, .long (qmminl u (Int32.toInt64 (I qe k)))), (7, .int (nI k)), (5, .long ((u_pt (I qe) (I qp) u k).2)), (0, .ref q), (1, .long u)]) (pc := 47) d_tf_priceByTiers_47 rfl (Nat.le_of_ble_eq_true rfl) rfl ?_
      refine qr_lload (pc := 48) d_tf_priceByTiers_48 rfl ?_
      refine qr_lstore (lv' := [(5, .long (qmminl u (Int32.toInt64 (I qe k)))), (3, .long (((u_pt (I qe) (I qp) u k).1) + (((qmminl u (Int32.toInt64 (I qe k))) - ((u_pt (I qe) (I qp) u k).2)) * (Int32.toInt64 (I qp k))))), (8, .long (qmminl u (Int32.toInt64 (I qe k)))), (7, .int (nI k)), (0, .ref q), (1, .long u)]) (pc := 50) d_tf_priceByTiers_50 (Nat.le_of_ble_eq_true rfl) rfl ?_
      refine qr_iinc (v := nI (k + 1)) (lv' := [(7, .int (nI (k + 1))), (5, .long (qmminl u (Int32.toInt64 (I qe k)))), (3, .long (((u_pt (I qe) (I qp) u k).1) + (((qmminl u (Int32.toInt64 (I qe k))) - ((u_pt (I qe) (I qp) u k).2)) * (Int32.toInt64 (I qp k))))), (8, .long (qmminl u (Int32.toInt64 (I qe k)))), (0, .ref q), (1, .long u)]) (pc := 52) d_tf_priceByTiers_52 rfl (nI_1 k) (Nat.le_of_ble_eq_true rfl) rfl ?_
      refine qr_goto (tgt := 8) (pc := 55) d_tf_priceByTiers_55 (by decide) ?_
      refine qR_sub (lv' := [(7, .int (nI (k + 1))), (5, .long (qmminl u (Int32.toInt64 (I qe k)))), (3, .long (((u_pt (I qe) (I qp) u k).1) + (((qmminl u (Int32.toInt64 (I qe k))) - ((u_pt (I qe) (I qp) u k).2)) * (Int32.toInt64 (I qp k))))), (0, .ref q), (1, .long u)]) [0, 1, 2, 4, 5] rfl ?_
      exact qR_st (by simp [u_pt, *]) rfl (rfl) (ih (k + 1) (by omega) (by omega))
  exact loop8 (z + 1) 0 (by omega) (by omega)
set_option maxRecDepth 10000 in
theorem s_tf_useOf (l : Launch) (x : Bool) (I : Nat → Nat → Int32) (L : Nat → Nat → Int64) (q qe qp : Nat) (hq : isTf q qe qp) (z : Nat) (hz : I q 5 = nI z) (hz2 : z ≤ 4) (u : Int64) (d D : Int32) : qSp l y_tf_useOf b_tf_useOf 9 (some .long) x 2 0 0 [.ref q, .long u, .int d, .int D] 77 (fm I L) (qD (some (.long (u_use I q qe qp z u d D))) 77 (fm I L)) := by
  refine qSp_of (ini := false) (by decide +kernel) (fun h => nomatch h) (Nat.le_of_ble_eq_true rfl) ?_
  show qR _ _ _ 0 [(0, .ref q), (1, .long u), (3, .int d), (4, .int D)] [] _ _ _ _
  refine qr_lconst (v := 0) (pc := 0) d_tf_useOf_0 (by decide) ?_
  refine qr_lload_n (pc := 1) d_tf_useOf_1 rfl rfl ?_
  refine qr_aload_n (pc := 2) d_tf_useOf_2 rfl rfl ?_
  refine qr_get (v := .int (I q 1)) (pc := 3) d_tf_useOf_3 fl_tf_13 hq.1 hq.1 (hq.2.2.2.1 _ _) rfl ?_
  refine qr_i2l (pc := 6) d_tf_useOf_6 ?_
  refine qr_iload_n (pc := 7) d_tf_useOf_7 rfl rfl ?_
  refine qr_i2l (pc := 8) d_tf_useOf_8 ?_
  refine qr_iload (pc := 9) d_tf_useOf_9 rfl ?_
  refine qr_i2l (pc := 11) d_tf_useOf_11 ?_
  refine qr_callSN (As := [.long (Int32.toInt64 (I q 1)), .long (Int32.toInt64 d), .long (Int32.toInt64 D)]) (pc := 12) d_tf_useOf_12 ln_tf_38 sm_bf_shareOf (s_bf_shareOf _ x _ _ (Int32.toInt64 (I q 1)) (Int32.toInt64 d) (Int32.toInt64 D)) rfl rfl (Nat.le_of_ble_eq_true rfl) (Nat.le_of_ble_eq_true rfl) (Nat.le_of_ble_eq_true rfl) (Nat.zero_le _) (Nat.zero_le _) (fun h => ⟨h, rfl, Or.inl rfl⟩) (fun v n9 f9 hE12 => ?_)
  obtain ⟨rfl, rfl, rfl⟩ := hE12
  refine qr_lsub (pc := 15) d_tf_useOf_15 ?_
  refine qr_mmaxl (pc := 16) d_tf_useOf_16 lk_tf_44 s_mmaxl i_math c_mmaxl (Nat.le_of_ble_eq_true rfl) (Nat.le_of_ble_eq_true rfl) (Nat.zero_le _) (Nat.zero_le _) ?_
  refine qr_lstore (lv' := [(5, .long (qmmaxl 0 (u - (u_share (Int32.toInt64 (I q 1)) (Int32.toInt64 d) (Int32.toInt64 D))))), (0, .ref q), (1, .long u), (3, .int d), (4, .int D)]) (pc := 19) d_tf_useOf_19 (Nat.le_of_ble_eq_true rfl) rfl ?_
  refine qr_aload_n (pc := 21) d_tf_useOf_21 rfl rfl ?_
  refine qr_get (v := .int (I q 3)) (pc := 22) d_tf_useOf_22 fl_tf_19 hq.1 hq.1 (hq.2.2.2.1 _ _) rfl ?_
  refine qr_if_le (tgt := 37) (pc := 25) d_tf_useOf_25 (by decide) (fun h25 => ?_) (fun h25 => ?_)
  · skip
    refine qr_aload_n (pc := 37) d_tf_useOf_37 rfl rfl ?_
    refine qr_lload (pc := 38) d_tf_useOf_38 rfl ?_
    refine qr_callV (q := q) (As := [.long (qmmaxl 0 (u - (u_share (Int32.toInt64 (I q 1)) (Int32.toInt64 d) (Int32.toInt64 D))))]) (pc := 40) d_tf_useOf_40 lk_tf_54 im_tf_priceByTiers se_tf_priceByTiers rfl hq.1 hq.1 (hq.2.2.2.1 _ _) (s_tf_priceByTiers _ x I L q qe qp hq z hz hz2 (qmmaxl 0 (u - (u_share (Int32.toInt64 (I q 1)) (Int32.toInt64 d) (Int32.toInt64 D))))) rfl rfl (Nat.le_of_ble_eq_true rfl) (Nat.le_of_ble_eq_true rfl) (Nat.le_of_ble_eq_true rfl) (Nat.zero_le _) (Nat.zero_le _) (fun h => ⟨h, rfl, Or.inl rfl⟩) (fun v n9 f9 hE40 => ?_)
    obtain ⟨rfl, rfl, rfl⟩ := hE40
    refine qr_lstore (lv' := [(7, .long (u_tiers I q qe qp z (qmmaxl 0 (u - (u_share (Int32.toInt64 (I q 1)) (Int32.toInt64 d) (Int32.toInt64 D)))))), (5, .long (qmmaxl 0 (u - (u_share (Int32.toInt64 (I q 1)) (Int32.toInt64 d) (Int32.toInt64 D))))), (0, .ref q), (1, .long u), (3, .int d), (4, .int D)]) (pc := 43) d_tf_useOf_43 (Nat.le_of_ble_eq_true rfl) rfl ?_
    refine qr_lload (pc := 45) d_tf_useOf_45 rfl ?_
    refine qr_aload_n (pc := 47) d_tf_useOf_47 rfl rfl ?_
    refine qr_get (v := .int (I q 2)) (pc := 48) d_tf_useOf_48 fl_tf_16 hq.1 hq.1 (hq.2.2.2.1 _ _) rfl ?_
    refine qr_i2l (pc := 51) d_tf_useOf_51 ?_
    refine qr_iload_n (pc := 52) d_tf_useOf_52 rfl rfl ?_
    refine qr_i2l (pc := 53) d_tf_useOf_53 ?_
    refine qr_iload (pc := 54) d_tf_useOf_54 rfl ?_
    refine qr_i2l (pc := 56) d_tf_useOf_56 ?_
    refine qr_callSN (As := [.long (Int32.toInt64 (I q 2)), .long (Int32.toInt64 d), .long (Int32.toInt64 D)]) (pc := 57) d_tf_useOf_57 ln_tf_38 sm_bf_shareOf (s_bf_shareOf _ x _ _ (Int32.toInt64 (I q 2)) (Int32.toInt64 d) (Int32.toInt64 D)) rfl rfl (Nat.le_of_ble_eq_true rfl) (Nat.le_of_ble_eq_true rfl) (Nat.le_of_ble_eq_true rfl) (Nat.zero_le _) (Nat.zero_le _) (fun h => ⟨h, rfl, Or.inl rfl⟩) (fun v n9 f9 hE57 => ?_)
    obtain ⟨rfl, rfl, rfl⟩ := hE57
    refine qr_mmaxl (pc := 60) d_tf_useOf_60 lk_tf_44 s_mmaxl i_math c_mmaxl (Nat.le_of_ble_eq_true rfl) (Nat.le_of_ble_eq_true rfl) (Nat.zero_le _) (Nat.zero_le _) ?_
    exact qr_lret (pc := 63) d_tf_useOf_63 rfl ⟨(by simp [u_use, u_paid, *]), rfl, rfl⟩ (Nat.zero_le _) (Nat.zero_le _)
  · skip
    refine qr_aload_n (pc := 28) d_tf_useOf_28 rfl rfl ?_
    refine qr_lload (pc := 29) d_tf_useOf_29 rfl ?_
    refine qr_callV (q := q) (As := [.long (qmmaxl 0 (u - (u_share (Int32.toInt64 (I q 1)) (Int32.toInt64 d) (Int32.toInt64 D))))]) (pc := 31) d_tf_useOf_31 lk_tf_50 im_tf_priceByPacks se_tf_priceByPacks rfl hq.1 hq.1 (hq.2.2.2.1 _ _) (s_tf_priceByPacks _ x I L q qe qp hq (qmmaxl 0 (u - (u_share (Int32.toInt64 (I q 1)) (Int32.toInt64 d) (Int32.toInt64 D))))) rfl rfl (Nat.le_of_ble_eq_true rfl) (Nat.le_of_ble_eq_true rfl) (Nat.le_of_ble_eq_true rfl) (Nat.zero_le _) (Nat.zero_le _) (fun h => ⟨h, rfl, Or.inl rfl⟩) (fun v n9 f9 hE31 => ?_)
    obtain ⟨rfl, rfl, rfl⟩ := hE31
    refine qr_goto (tgt := 43) (pc := 34) d_tf_useOf_34 (by decide) ?_
    refine qr_lstore (lv' := [(7, .long (u_packs I q (qmmaxl 0 (u - (u_share (Int32.toInt64 (I q 1)) (Int32.toInt64 d) (Int32.toInt64 D)))))), (5, .long (qmmaxl 0 (u - (u_share (Int32.toInt64 (I q 1)) (Int32.toInt64 d) (Int32.toInt64 D))))), (0, .ref q), (1, .long u), (3, .int d), (4, .int D)]) (pc := 43) d_tf_useOf_43 (Nat.le_of_ble_eq_true rfl) rfl ?_
    refine qr_lload (pc := 45) d_tf_useOf_45 rfl ?_
    refine qr_aload_n (pc := 47) d_tf_useOf_47 rfl rfl ?_
    refine qr_get (v := .int (I q 2)) (pc := 48) d_tf_useOf_48 fl_tf_16 hq.1 hq.1 (hq.2.2.2.1 _ _) rfl ?_
    refine qr_i2l (pc := 51) d_tf_useOf_51 ?_
    refine qr_iload_n (pc := 52) d_tf_useOf_52 rfl rfl ?_
    refine qr_i2l (pc := 53) d_tf_useOf_53 ?_
    refine qr_iload (pc := 54) d_tf_useOf_54 rfl ?_
    refine qr_i2l (pc := 56) d_tf_useOf_56 ?_
    refine qr_callSN (As := [.long (Int32.toInt64 (I q 2)), .long (Int32.toInt64 d), .long (Int32.toInt64 D)]) (pc := 57) d_tf_useOf_57 ln_tf_38 sm_bf_shareOf (s_bf_shareOf _ x _ _ (Int32.toInt64 (I q 2)) (Int32.toInt64 d) (Int32.toInt64 D)) rfl rfl (Nat.le_of_ble_eq_true rfl) (Nat.le_of_ble_eq_true rfl) (Nat.le_of_ble_eq_true rfl) (Nat.zero_le _) (Nat.zero_le _) (fun h => ⟨h, rfl, Or.inl rfl⟩) (fun v n9 f9 hE57 => ?_)
    obtain ⟨rfl, rfl, rfl⟩ := hE57
    refine qr_mmaxl (pc := 60) d_tf_useOf_60 lk_tf_44 s_mmaxl i_math c_mmaxl (Nat.le_of_ble_eq_true rfl) (Nat.le_of_ble_eq_true rfl) (Nat.zero_le _) (Nat.zero_le _) ?_
    exact qr_lret (pc := 63) d_tf_useOf_63 rfl ⟨(by simp [u_use, u_paid, *]), rfl, rfl⟩ (Nat.zero_le _) (Nat.zero_le _)
