/-! BillForge (object 0): its private methods -/
def u_ls (I : Nat → Nat → Int32) (L : Nat → Nat → Int64) (c z : Nat) : Nat → Nat → Int32 := u_look I (37 + 2 * c) (u_most I L (nI c) (I 0 9) z)
def u_spL (I : Nat → Nat → Int32) (L : Nat → Nat → Int64) (c z : Nat) : Nat → Nat → Int64 := wL (u_po I L (nI c) (L (37 + 2 * c) 4) z).2 (37 + 2 * c) 4 ((u_po I L (nI c) (L (37 + 2 * c) 4) z).2 (37 + 2 * c) 4 + -(L (37 + 2 * c) 4 - (u_po I L (nI c) (L (37 + 2 * c) 4) z).1))
def u_spend (I : Nat → Nat → Int32) (L : Nat → Nat → Int64) (c z : Nat) : (Nat → Nat → Int32) × (Nat → Nat → Int64) := if L (37 + 2 * c) 4 - (u_po I L (nI c) (L (37 + 2 * c) 4) z).1 ≤ 0 then (I, (u_po I L (nI c) (L (37 + 2 * c) 4) z).2) else (u_ls I (u_spL I L c z) c z, u_spL I L c z)
def u_allOpen (I : Nat → Nat → Int32) (L : Nat → Nat → Int64) (z : Nat) : Nat → Int64
  | 0 => 0
  | c + 1 => u_allOpen I L z c + u_open I L (nI c) z
def u_allCr (L : Nat → Nat → Int64) : Nat → Int64
  | 0 => 0
  | c + 1 => u_allCr L c + L (37 + 2 * c) 4
def u_allEa (I : Nat → Nat → Int32) (L : Nat → Nat → Int64) (z : Nat) : Nat → Int64
  | 0 => 0
  | c + 1 => u_allEa I L z c + u_earn I L (nI c) (I 0 9) z
theorem u_look_ne {I : Nat → Nat → Int32} {q a b : Nat} {d : Int32} (h : a ≠ q) : u_look I q d a b = I a b := by
  unfold u_look
  rw [wI_ne (Or.inl h)]
  unfold u_look2 u_look1
  split <;> split <;> simp [wI_ne, h]
theorem u_keep_ne {I : Nat → Nat → Int32} {q q2 a b : Nat} {d : Int32} (h : a ≠ q2) : u_keep I q q2 d a b = I a b := by
  unfold u_keep
  split
  · rfl
  · split
    · rfl
    · rw [wI_ne (Or.inl h)]
def u_kps (I : Nat → Nat → Int32) : Nat → Nat → Nat → Int32
  | 0 => I
  | c + 1 => u_keep (u_kps I c) (37 + 2 * c) (38 + 2 * c) (u_kps I c 0 9)
def u_lks (I : Nat → Nat → Int32) (L : Nat → Nat → Int64) (z : Nat) : Nat → Nat → Nat → Int32
  | 0 => I
  | c + 1 => u_ls (u_lks I L z c) L c z
theorem u_kps_ne {I : Nat → Nat → Int32} {a b : Nat} (h : a < 37) : ∀ c, u_kps I c a b = I a b
  | 0 => rfl
  | c + 1 => by rw [u_kps, u_keep_ne (by omega), u_kps_ne h c]
theorem u_lks_ne {I : Nat → Nat → Int32} {L : Nat → Nat → Int64} {z a b : Nat} (h : a < 37) : ∀ c, u_lks I L z c a b = I a b
  | 0 => rfl
  | c + 1 => by rw [u_lks, u_ls, u_look_ne (by omega), u_lks_ne h c]
def u_pass (I : Nat → Nat → Int32) (L : Nat → Nat → Int64) (z : Nat) : Nat → Nat → Int32 := u_lks (wI (u_kps I 5) 0 9 (u_kps I 5 0 9 + 1)) L z 5
set_option maxRecDepth 10000 in
theorem s_bf_isTariff (l : Launch) (x : Bool) (n : Nat) (f : Nat → va_E) (t : Int32) : qSp l y_bf_isTariff b_bf_isTariff 1 (some .boolean) x 1 0 0 [.int t] n f (qD (some (.int (if t < 0 then 0 else if 3 ≤ t then 0 else 1))) n f) := by
  refine qSp_of (ini := false) (by decide +kernel) (fun h => nomatch h) (Nat.le_of_ble_eq_true rfl) ?_
  show qR _ _ _ 0 [(0, .int t)] [] _ _ _ _
  refine qr_iload_n (pc := 0) d_bf_isTariff_0 rfl rfl ?_
  refine qr_if_lt (tgt := 13) (pc := 1) d_bf_isTariff_1 (by decide) (fun h1 => ?_) (fun h1 => ?_)
  · skip
    refine qr_iconst (v := 0) (pc := 13) d_bf_isTariff_13 (by decide) ?_
    exact qr_iret (pc := 14) d_bf_isTariff_14 rfl rfl ⟨(by simp [*]), rfl, rfl⟩ (Nat.zero_le _) (Nat.zero_le _)
  · skip
    refine qr_iload_n (pc := 4) d_bf_isTariff_4 rfl rfl ?_
    refine qr_iconst (v := 3) (pc := 5) d_bf_isTariff_5 (by decide) ?_
    refine qr_icmp_ge (tgt := 13) (pc := 6) d_bf_isTariff_6 (by decide) (fun h6 => ?_) (fun h6 => ?_)
    · skip
      refine qr_iconst (v := 0) (pc := 13) d_bf_isTariff_13 (by decide) ?_
      exact qr_iret (pc := 14) d_bf_isTariff_14 rfl rfl ⟨(by simp [*]), rfl, rfl⟩ (Nat.zero_le _) (Nat.zero_le _)
    · skip
      refine qr_iconst (v := 1) (pc := 9) d_bf_isTariff_9 (by decide) ?_
      refine qr_goto (tgt := 14) (pc := 10) d_bf_isTariff_10 (by decide) ?_
      exact qr_iret (pc := 14) d_bf_isTariff_14 rfl rfl ⟨(by simp [*]), rfl, rfl⟩ (Nat.zero_le _) (Nat.zero_le _)
set_option maxRecDepth 10000 in
theorem s_bf_isCustomer (l : Launch) (x : Bool) (n : Nat) (f : Nat → va_E) (t : Int32) : qSp l y_bf_isCustomer b_bf_isCustomer 1 (some .boolean) x 1 0 0 [.int t] n f (qD (some (.int (if t < 0 then 0 else if 5 ≤ t then 0 else 1))) n f) := by
  refine qSp_of (ini := false) (by decide +kernel) (fun h => nomatch h) (Nat.le_of_ble_eq_true rfl) ?_
  show qR _ _ _ 0 [(0, .int t)] [] _ _ _ _
  refine qr_iload_n (pc := 0) d_bf_isCustomer_0 rfl rfl ?_
  refine qr_if_lt (tgt := 13) (pc := 1) d_bf_isCustomer_1 (by decide) (fun h1 => ?_) (fun h1 => ?_)
  · skip
    refine qr_iconst (v := 0) (pc := 13) d_bf_isCustomer_13 (by decide) ?_
    exact qr_iret (pc := 14) d_bf_isCustomer_14 rfl rfl ⟨(by simp [*]), rfl, rfl⟩ (Nat.zero_le _) (Nat.zero_le _)
  · skip
    refine qr_iload_n (pc := 4) d_bf_isCustomer_4 rfl rfl ?_
    refine qr_iconst (v := 5) (pc := 5) d_bf_isCustomer_5 (by decide) ?_
    refine qr_icmp_ge (tgt := 13) (pc := 6) d_bf_isCustomer_6 (by decide) (fun h6 => ?_) (fun h6 => ?_)
    · skip
      refine qr_iconst (v := 0) (pc := 13) d_bf_isCustomer_13 (by decide) ?_
      exact qr_iret (pc := 14) d_bf_isCustomer_14 rfl rfl ⟨(by simp [*]), rfl, rfl⟩ (Nat.zero_le _) (Nat.zero_le _)
    · skip
      refine qr_iconst (v := 1) (pc := 9) d_bf_isCustomer_9 (by decide) ?_
      refine qr_goto (tgt := 14) (pc := 10) d_bf_isCustomer_10 (by decide) ?_
      exact qr_iret (pc := 14) d_bf_isCustomer_14 rfl rfl ⟨(by simp [*]), rfl, rfl⟩ (Nat.zero_le _) (Nat.zero_le _)
set_option maxRecDepth 10000 in
theorem s_bf_isPayable (l : Launch) (x : Bool) (n : Nat) (f : Nat → va_E) (a : Int64) : qSp l y_bf_isPayable b_bf_isPayable 2 (some .boolean) x 1 0 0 [.long a] n f (qD (some (.int (if a < 1 then 0 else if 1000000 < a then 0 else 1))) n f) := by
  refine qSp_of (ini := false) (by decide +kernel) (fun h => nomatch h) (Nat.le_of_ble_eq_true rfl) ?_
  show qR _ _ _ 0 [(0, .long a)] [] _ _ _ _
  refine qr_lload_n (pc := 0) d_bf_isPayable_0 rfl rfl ?_
  refine qr_lconst (v := 1) (pc := 1) d_bf_isPayable_1 (by decide) ?_
  refine qr_lcmp (pc := 2) d_bf_isPayable_2 ?_
  refine qr_if_lt (tgt := 18) (pc := 3) d_bf_isPayable_3 (by decide) (fun h3 => ?_) (fun h3 => ?_)
  · skip
    rw [lgc_lt] at h3
    refine qr_iconst (v := 0) (pc := 18) d_bf_isPayable_18 (by decide) ?_
    exact qr_iret (pc := 19) d_bf_isPayable_19 rfl rfl ⟨(by simp [*]), rfl, rfl⟩ (Nat.zero_le _) (Nat.zero_le _)
  · skip
    rw [lgc_lt] at h3
    refine qr_lload_n (pc := 6) d_bf_isPayable_6 rfl rfl ?_
    refine qr_ldc2 (v := 1000000) (pc := 7) d_bf_isPayable_7 kl_bf_251 ?_
    refine qr_lcmp (pc := 10) d_bf_isPayable_10 ?_
    refine qr_if_gt (tgt := 18) (pc := 11) d_bf_isPayable_11 (by decide) (fun h11 => ?_) (fun h11 => ?_)
    · skip
      rw [lgc_gt] at h11
      refine qr_iconst (v := 0) (pc := 18) d_bf_isPayable_18 (by decide) ?_
      exact qr_iret (pc := 19) d_bf_isPayable_19 rfl rfl ⟨(by simp [*]), rfl, rfl⟩ (Nat.zero_le _) (Nat.zero_le _)
    · skip
      rw [lgc_gt] at h11
      refine qr_iconst (v := 1) (pc := 14) d_bf_isPayable_14 (by decide) ?_
      refine qr_goto (tgt := 19) (pc := 15) d_bf_isPayable_15 (by decide) ?_
      exact qr_iret (pc := 19) d_bf_isPayable_19 rfl rfl ⟨(by simp [*]), rfl, rfl⟩ (Nat.zero_le _) (Nat.zero_le _)
set_option maxRecDepth 10000 in
theorem s_bf_lookAtStage (l : Launch) (x : Bool) (I : Nat → Nat → Int32) (L : Nat → Nat → Int64) (z c : Nat) (hz : I 14 5 = nI z) (hz2 : z ≤ 50) (hc : c < 5) : qSp l y_bf_lookAtStage b_bf_lookAtStage 2 none x 3 0 0 [.ref 0, .int (nI c)] 77 (fm I L) (qD none 77 (fm (u_ls I L c z) L)) := by
  refine qSp_of (ini := false) (by decide +kernel) (fun h => nomatch h) (Nat.le_of_ble_eq_true rfl) ?_
  show qR _ _ _ 0 [(0, .ref 0), (1, .int (nI c))] [] _ _ _ _
  refine qr_aload_n (pc := 0) d_bf_lookAtStage_0 rfl rfl ?_
  refine qr_get (v := .ref 8) (pc := 1) d_bf_lookAtStage_1 fl_bf_24 (by decide) (by decide) (c_0 _ _) rfl ?_
  refine qr_iload_n (pc := 4) d_bf_lookAtStage_4 rfl rfl ?_
  refine qr_aald (w := 37 + 2 * c) (pc := 5) d_bf_lookAtStage_5 (by decide) (by decide) (c_8 _ _) rfl (vp_in_nI (by omega) (by decide)) (aal_8 (by omega)) ?_
  refine qr_aload_n (pc := 6) d_bf_lookAtStage_6 rfl rfl ?_
  refine qr_get (v := .ref 14) (pc := 7) d_bf_lookAtStage_7 fl_bf_38 (by decide) (by decide) (c_0 _ _) rfl ?_
  refine qr_iload_n (pc := 10) d_bf_lookAtStage_10 rfl rfl ?_
  refine qr_aload_n (pc := 11) d_bf_lookAtStage_11 rfl rfl ?_
  refine qr_get (v := .int (I 0 9)) (pc := 12) d_bf_lookAtStage_12 fl_bf_60 (by decide) (by decide) (c_0 _ _) rfl ?_
  refine qr_callV (q := 14) (As := [.int (nI c), .int (I 0 9)]) (pc := 15) d_bf_lookAtStage_15 lk_bf_259 im_ib_mostOverdueDays se_ib_mostOverdueDays rfl (by decide) (by decide) (c_14 _ _) (s_ib_mostOverdueDays _ x I L z hz hz2 (nI c) (I 0 9)) rfl rfl (Nat.le_of_ble_eq_true rfl) (Nat.le_of_ble_eq_true rfl) (Nat.le_of_ble_eq_true rfl) (Nat.zero_le _) (Nat.zero_le _) (fun h => ⟨h, rfl, Or.inl rfl⟩) (fun v n9 f9 hE15 => ?_)
  obtain ⟨rfl, rfl, rfl⟩ := hE15
  refine qr_callV (q := 37 + 2 * c) (As := [.int (u_most I L (nI c) (I 0 9) z)]) (pc := 18) d_bf_lookAtStage_18 lk_bf_262 im_cu_lookAtStage se_cu_lookAtStage rfl (isCu_c hc).1 (isCu_c hc).1 ((isCu_c hc).2.2.1 _ _) (s_cu_lookAtStage _ x I L (37 + 2 * c) (38 + 2 * c) (isCu_c hc) (u_most I L (nI c) (I 0 9) z)) rfl rfl (Nat.le_of_ble_eq_true rfl) (Nat.le_of_ble_eq_true rfl) (Nat.le_of_ble_eq_true rfl) (Nat.zero_le _) (Nat.zero_le _) (fun h => ⟨h, rfl, Or.inl rfl⟩) (fun v n9 f9 hE18 => ?_)
  obtain ⟨rfl, rfl, rfl⟩ := hE18
  exact qr_vret (pc := 21) d_bf_lookAtStage_21 rfl ⟨rfl, rfl, rfl⟩ (Nat.zero_le _) (Nat.zero_le _)
set_option maxRecDepth 10000 in
theorem s_bf_spendCredit (l : Launch) (x : Bool) (I : Nat → Nat → Int32) (L : Nat → Nat → Int64) (z c : Nat) (hz : I 14 5 = nI z) (hz2 : z ≤ 50) (hc : c < 5) : qSp l y_bf_spendCredit b_bf_spendCredit 4 none x 4 0 0 [.ref 0, .int (nI c)] 77 (fm I L) (qD none 77 (fm (u_spend I L c z).1 (u_spend I L c z).2)) := by
  refine qSp_of (ini := false) (by decide +kernel) (fun h => nomatch h) (Nat.le_of_ble_eq_true rfl) ?_
  show qR _ _ _ 0 [(0, .ref 0), (1, .int (nI c))] [] _ _ _ _
  refine qr_aload_n (pc := 0) d_bf_spendCredit_0 rfl rfl ?_
  refine qr_get (v := .ref 14) (pc := 1) d_bf_spendCredit_1 fl_bf_38 (by decide) (by decide) (c_0 _ _) rfl ?_
  refine qr_iload_n (pc := 4) d_bf_spendCredit_4 rfl rfl ?_
  refine qr_aload_n (pc := 5) d_bf_spendCredit_5 rfl rfl ?_
  refine qr_get (v := .ref 8) (pc := 6) d_bf_spendCredit_6 fl_bf_24 (by decide) (by decide) (c_0 _ _) rfl ?_
  refine qr_iload_n (pc := 9) d_bf_spendCredit_9 rfl rfl ?_
  refine qr_aald (w := 37 + 2 * c) (pc := 10) d_bf_spendCredit_10 (by decide) (by decide) (c_8 _ _) rfl (vp_in_nI (by omega) (by decide)) (aal_8 (by omega)) ?_
  refine qr_callV (q := 37 + 2 * c) (As := []) (pc := 11) d_bf_spendCredit_11 lk_bf_175 im_cu_credit se_cu_credit rfl (isCu_c hc).1 (isCu_c hc).1 ((isCu_c hc).2.2.1 _ _) (s_cu_credit _ x I L (37 + 2 * c) (38 + 2 * c) (isCu_c hc)) rfl rfl (Nat.le_of_ble_eq_true rfl) (Nat.le_of_ble_eq_true rfl) (Nat.le_of_ble_eq_true rfl) (Nat.zero_le _) (Nat.zero_le _) (fun h => ⟨h, rfl, Or.inl rfl⟩) (fun v n9 f9 hE11 => ?_)
  obtain ⟨rfl, rfl, rfl⟩ := hE11
  refine qr_callV (q := 14) (As := [.int (nI c), .long (L (37 + 2 * c) 4)]) (pc := 14) d_bf_spendCredit_14 lk_bf_269 im_ib_payOpen se_ib_payOpen rfl (by decide) (by decide) (c_14 _ _) (s_ib_payOpen _ x I L z hz hz2 (nI c) (L (37 + 2 * c) 4)) rfl rfl (Nat.le_of_ble_eq_true rfl) (Nat.le_of_ble_eq_true rfl) (Nat.le_of_ble_eq_true rfl) (Nat.zero_le _) (Nat.zero_le _) (fun h => ⟨h, rfl, Or.inl rfl⟩) (fun v n9 f9 hE14 => ?_)
  obtain ⟨rfl, rfl, rfl⟩ := hE14
  refine qr_lstore_n (lv' := [(2, .long ((L (37 + 2 * c) 4) - (u_po I L (nI c) (L (37 + 2 * c) 4) z).1)), (0, .ref 0), (1, .int (nI c))]) (pc := 17) d_bf_spendCredit_17 rfl (Nat.le_of_ble_eq_true rfl) rfl ?_
  refine qr_lload_n (pc := 18) d_bf_spendCredit_18 rfl rfl ?_
  refine qr_lconst (v := 0) (pc := 19) d_bf_spendCredit_19 (by decide) ?_
  refine qr_lcmp (pc := 20) d_bf_spendCredit_20 ?_
  refine qr_if_le (tgt := 40) (pc := 21) d_bf_spendCredit_21 (by decide) (fun h21 => ?_) (fun h21 => ?_)
  · skip
    rw [lgc_le] at h21
    exact qr_vret (pc := 40) d_bf_spendCredit_40 rfl ⟨rfl, rfl, (by simp only [u_spend, u_spL, h21, if_true, if_false, reduceIte])⟩ (Nat.zero_le _) (Nat.zero_le _)
  · skip
    rw [lgc_le] at h21
    refine qr_aload_n (pc := 24) d_bf_spendCredit_24 rfl rfl ?_
    refine qr_get (v := .ref 8) (pc := 25) d_bf_spendCredit_25 fl_bf_24 (by decide) (by decide) (c_0 _ _) rfl ?_
    refine qr_iload_n (pc := 28) d_bf_spendCredit_28 rfl rfl ?_
    refine qr_aald (w := 37 + 2 * c) (pc := 29) d_bf_spendCredit_29 (by decide) (by decide) (c_8 _ _) rfl (vp_in_nI (by omega) (by decide)) (aal_8 (by omega)) ?_
    refine qr_lload_n (pc := 30) d_bf_spendCredit_30 rfl rfl ?_
    refine qr_lneg (pc := 31) d_bf_spendCredit_31 ?_
    refine qr_callV (q := 37 + 2 * c) (As := [.long (-((L (37 + 2 * c) 4) - (u_po I L (nI c) (L (37 + 2 * c) 4) z).1))]) (pc := 32) d_bf_spendCredit_32 lk_bf_179 im_cu_addCredit se_cu_addCredit rfl (isCu_c hc).1 (isCu_c hc).1 ((isCu_c hc).2.2.1 _ _) (s_cu_addCredit _ x I (u_po I L (nI c) (L (37 + 2 * c) 4) z).2 (37 + 2 * c) (38 + 2 * c) (isCu_c hc) (-((L (37 + 2 * c) 4) - (u_po I L (nI c) (L (37 + 2 * c) 4) z).1))) rfl rfl (Nat.le_of_ble_eq_true rfl) (Nat.le_of_ble_eq_true rfl) (Nat.le_of_ble_eq_true rfl) (Nat.zero_le _) (Nat.zero_le _) (fun h => ⟨h, rfl, Or.inl rfl⟩) (fun v n9 f9 hE32 => ?_)
    obtain ⟨rfl, rfl, rfl⟩ := hE32
    refine qr_aload_n (pc := 35) d_bf_spendCredit_35 rfl rfl ?_
    refine qr_iload_n (pc := 36) d_bf_spendCredit_36 rfl rfl ?_
    refine qr_callV (q := 0) (As := [.int (nI c)]) (pc := 37) d_bf_spendCredit_37 lk_bf_256 im_bf_lookAtStage se_bf_lookAtStage rfl (by decide) (by decide) (c_0 _ _) (s_bf_lookAtStage _ x I (wL (u_po I L (nI c) (L (37 + 2 * c) 4) z).2 (37 + 2 * c) 4 ((u_po I L (nI c) (L (37 + 2 * c) 4) z).2 (37 + 2 * c) 4 + (-((L (37 + 2 * c) 4) - (u_po I L (nI c) (L (37 + 2 * c) 4) z).1)))) z c hz hz2 hc) rfl rfl (Nat.le_of_ble_eq_true rfl) (Nat.le_of_ble_eq_true rfl) (Nat.le_of_ble_eq_true rfl) (Nat.zero_le _) (Nat.zero_le _) (fun h => ⟨h, rfl, Or.inl rfl⟩) (fun v n9 f9 hE37 => ?_)
    obtain ⟨rfl, rfl, rfl⟩ := hE37
    exact qr_vret (pc := 40) d_bf_spendCredit_40 rfl ⟨rfl, rfl, (by simp only [u_spend, u_spL, h21, if_true, if_false, reduceIte])⟩ (Nat.zero_le _) (Nat.zero_le _)
set_option maxRecDepth 10000 in
theorem s_bf_allOpen (l : Launch) (x : Bool) (I : Nat → Nat → Int32) (L : Nat → Nat → Int64) (z : Nat) (hz : I 14 5 = nI z) (hz2 : z ≤ 50) : qSp l y_bf_allOpen b_bf_allOpen 4 (some .long) x 2 0 0 [.ref 0] 77 (fm I L) (qD (some (.long (u_allOpen I L z 5))) 77 (fm I L)) := by
  refine qSp_of (ini := false) (by decide +kernel) (fun h => nomatch h) (Nat.le_of_ble_eq_true rfl) ?_
  show qR _ _ _ 0 [(0, .ref 0)] [] _ _ _ _
  refine qr_lconst (v := 0) (pc := 0) d_bf_allOpen_0 (by decide) ?_
  refine qr_lstore_n (lv' := [(1, .long 0), (0, .ref 0)]) (pc := 1) d_bf_allOpen_1 rfl (Nat.le_of_ble_eq_true rfl) rfl ?_
  refine qr_iconst (v := 0) (pc := 2) d_bf_allOpen_2 (by decide) ?_
  refine qr_istore_n (lv' := [(3, .int 0), (1, .long 0), (0, .ref 0)]) (pc := 3) d_bf_allOpen_3 rfl (Nat.le_of_ble_eq_true rfl) rfl ?_
  have loop4 : ∀ (j c : Nat), 5 - c < j → c ≤ 5 → qR (l, y_bf_allOpen.cls, b_bf_allOpen, 4, (some .long), false, x, 2, 0, 0, 77, q0) (qD (some (.long (u_allOpen I L z 5))) 77 (fm I L)) (fun _ _ _ => False) 4 [(3, .int (nI c)), (1, .long (u_allOpen I L z c)), (0, .ref 0)] [] 77 0 0 (fm I L) := by
    intro j
    induction j with
    | zero => intro c hj; omega
    | succ j ih =>
    intro c hjj hcc
    refine qr_iload_n (pc := 4) d_bf_allOpen_4 rfl rfl ?_
    refine qr_iconst (v := 5) (pc := 5) d_bf_allOpen_5 (by decide) ?_
    refine qr_icmp_ge (tgt := 26) (pc := 6) d_bf_allOpen_6 (by decide) (fun h6 => ?_) (fun h6 => ?_)
    · skip
      have hccz : 5 = c := by
        have := (nI_leI (a := 5) (b := c) (by omega) (by omega)).mp h6
        omega
      subst hccz
      refine qr_lload_n (pc := 26) d_bf_allOpen_26 rfl rfl ?_
      exact qr_lret (pc := 27) d_bf_allOpen_27 rfl ⟨rfl, rfl, rfl⟩ (Nat.zero_le _) (Nat.zero_le _)
    · skip
      have hccz : c < 5 := by
        have := mt (nI_leI (a := 5) (b := c) (by omega) (by omega)).mpr h6
        omega
      refine qr_lload_n (pc := 9) d_bf_allOpen_9 rfl rfl ?_
      refine qr_aload_n (pc := 10) d_bf_allOpen_10 rfl rfl ?_
      refine qr_get (v := .ref 14) (pc := 11) d_bf_allOpen_11 fl_bf_38 (by decide) (by decide) (c_0 _ _) rfl ?_
      refine qr_iload_n (pc := 14) d_bf_allOpen_14 rfl rfl ?_
      refine qr_callV (q := 14) (As := [.int (nI c)]) (pc := 15) d_bf_allOpen_15 lk_bf_221 im_ib_openOf se_ib_openOf rfl (by decide) (by decide) (c_14 _ _) (s_ib_openOf _ x I L z hz hz2 (nI c)) rfl rfl (Nat.le_of_ble_eq_true rfl) (Nat.le_of_ble_eq_true rfl) (Nat.le_of_ble_eq_true rfl) (Nat.zero_le _) (Nat.zero_le _) (fun h => ⟨h, rfl, Or.inl rfl⟩) (fun v n9 f9 hE15 => ?_)
      obtain ⟨rfl, rfl, rfl⟩ := hE15
      refine qr_ladd (pc := 18) d_bf_allOpen_18 ?_
      refine qr_lstore_n (lv' := [(1, .long ((u_allOpen I L z c) + (u_open I L (nI c) z))), (3, .int (nI c)), (0, .ref 0)]) (pc := 19) d_bf_allOpen_19 rfl (Nat.le_of_ble_eq_true rfl) rfl ?_
      refine qr_iinc (v := nI (c + 1)) (lv' := [(3, .int (nI (c + 1))), (1, .long ((u_allOpen I L z c) + (u_open I L (nI c) z))), (0, .ref 0)]) (pc := 20) d_bf_allOpen_20 rfl (nI_1 c) (Nat.le_of_ble_eq_true rfl) rfl ?_
      refine qr_goto (tgt := 4) (pc := 23) d_bf_allOpen_23 (by decide) ?_
      exact qR_st (by rfl) rfl (rfl) (ih (c + 1) (by omega) (by omega))
  exact loop4 (5 + 1) 0 (by omega) (by omega)
set_option maxRecDepth 10000 in
theorem s_bf_allCredit (l : Launch) (x : Bool) (I : Nat → Nat → Int32) (L : Nat → Nat → Int64)  : qSp l y_bf_allCredit b_bf_allCredit 4 (some .long) x 2 0 0 [.ref 0] 77 (fm I L) (qD (some (.long (u_allCr L 5))) 77 (fm I L)) := by
  refine qSp_of (ini := false) (by decide +kernel) (fun h => nomatch h) (Nat.le_of_ble_eq_true rfl) ?_
  show qR _ _ _ 0 [(0, .ref 0)] [] _ _ _ _
  refine qr_lconst (v := 0) (pc := 0) d_bf_allCredit_0 (by decide) ?_
  refine qr_lstore_n (lv' := [(1, .long 0), (0, .ref 0)]) (pc := 1) d_bf_allCredit_1 rfl (Nat.le_of_ble_eq_true rfl) rfl ?_
  refine qr_iconst (v := 0) (pc := 2) d_bf_allCredit_2 (by decide) ?_
  refine qr_istore_n (lv' := [(3, .int 0), (1, .long 0), (0, .ref 0)]) (pc := 3) d_bf_allCredit_3 rfl (Nat.le_of_ble_eq_true rfl) rfl ?_
  have loop4 : ∀ (j c : Nat), 5 - c < j → c ≤ 5 → qR (l, y_bf_allCredit.cls, b_bf_allCredit, 4, (some .long), false, x, 2, 0, 0, 77, q0) (qD (some (.long (u_allCr L 5))) 77 (fm I L)) (fun _ _ _ => False) 4 [(3, .int (nI c)), (1, .long (u_allCr L c)), (0, .ref 0)] [] 77 0 0 (fm I L) := by
    intro j
    induction j with
    | zero => intro c hj; omega
    | succ j ih =>
    intro c hjj hcc
    refine qr_iload_n (pc := 4) d_bf_allCredit_4 rfl rfl ?_
    refine qr_iconst (v := 5) (pc := 5) d_bf_allCredit_5 (by decide) ?_
    refine qr_icmp_ge (tgt := 27) (pc := 6) d_bf_allCredit_6 (by decide) (fun h6 => ?_) (fun h6 => ?_)
    · skip
      have hccz : 5 = c := by
        have := (nI_leI (a := 5) (b := c) (by omega) (by omega)).mp h6
        omega
      subst hccz
      refine qr_lload_n (pc := 27) d_bf_allCredit_27 rfl rfl ?_
      exact qr_lret (pc := 28) d_bf_allCredit_28 rfl ⟨rfl, rfl, rfl⟩ (Nat.zero_le _) (Nat.zero_le _)
    · skip
      have hccz : c < 5 := by
        have := mt (nI_leI (a := 5) (b := c) (by omega) (by omega)).mpr h6
        omega
      have hc : c < 5 := hccz
      refine qr_lload_n (pc := 9) d_bf_allCredit_9 rfl rfl ?_
      refine qr_aload_n (pc := 10) d_bf_allCredit_10 rfl rfl ?_
      refine qr_get (v := .ref 8) (pc := 11) d_bf_allCredit_11 fl_bf_24 (by decide) (by decide) (c_0 _ _) rfl ?_
      refine qr_iload_n (pc := 14) d_bf_allCredit_14 rfl rfl ?_
      refine qr_aald (w := 37 + 2 * c) (pc := 15) d_bf_allCredit_15 (by decide) (by decide) (c_8 _ _) rfl (vp_in_nI (by omega) (by decide)) (aal_8 (by omega)) ?_
      refine qr_callV (q := 37 + 2 * c) (As := []) (pc := 16) d_bf_allCredit_16 lk_bf_175 im_cu_credit se_cu_credit rfl (isCu_c hc).1 (isCu_c hc).1 ((isCu_c hc).2.2.1 _ _) (s_cu_credit _ x I L (37 + 2 * c) (38 + 2 * c) (isCu_c hc)) rfl rfl (Nat.le_of_ble_eq_true rfl) (Nat.le_of_ble_eq_true rfl) (Nat.le_of_ble_eq_true rfl) (Nat.zero_le _) (Nat.zero_le _) (fun h => ⟨h, rfl, Or.inl rfl⟩) (fun v n9 f9 hE16 => ?_)
      obtain ⟨rfl, rfl, rfl⟩ := hE16
      refine qr_ladd (pc := 19) d_bf_allCredit_19 ?_
      refine qr_lstore_n (lv' := [(1, .long ((u_allCr L c) + (L (37 + 2 * c) 4))), (3, .int (nI c)), (0, .ref 0)]) (pc := 20) d_bf_allCredit_20 rfl (Nat.le_of_ble_eq_true rfl) rfl ?_
      refine qr_iinc (v := nI (c + 1)) (lv' := [(3, .int (nI (c + 1))), (1, .long ((u_allCr L c) + (L (37 + 2 * c) 4))), (0, .ref 0)]) (pc := 21) d_bf_allCredit_21 rfl (nI_1 c) (Nat.le_of_ble_eq_true rfl) rfl ?_
      refine qr_goto (tgt := 4) (pc := 24) d_bf_allCredit_24 (by decide) ?_
      exact qR_st (by rfl) rfl (rfl) (ih (c + 1) (by omega) (by omega))
  exact loop4 (5 + 1) 0 (by omega) (by omega)
set_option maxRecDepth 10000 in
theorem s_bf_allEarned (l : Launch) (x : Bool) (I : Nat → Nat → Int32) (L : Nat → Nat → Int64) (z : Nat) (hz : I 20 4 = nI z) (hz2 : z ≤ 10) : qSp l y_bf_allEarned b_bf_allEarned 4 (some .long) x 3 0 0 [.ref 0] 77 (fm I L) (qD (some (.long (u_allEa I L z 5))) 77 (fm I L)) := by
  refine qSp_of (ini := false) (by decide +kernel) (fun h => nomatch h) (Nat.le_of_ble_eq_true rfl) ?_
  show qR _ _ _ 0 [(0, .ref 0)] [] _ _ _ _
  refine qr_lconst (v := 0) (pc := 0) d_bf_allEarned_0 (by decide) ?_
  refine qr_lstore_n (lv' := [(1, .long 0), (0, .ref 0)]) (pc := 1) d_bf_allEarned_1 rfl (Nat.le_of_ble_eq_true rfl) rfl ?_
  refine qr_iconst (v := 0) (pc := 2) d_bf_allEarned_2 (by decide) ?_
  refine qr_istore_n (lv' := [(3, .int 0), (1, .long 0), (0, .ref 0)]) (pc := 3) d_bf_allEarned_3 rfl (Nat.le_of_ble_eq_true rfl) rfl ?_
  have loop4 : ∀ (j c : Nat), 5 - c < j → c ≤ 5 → qR (l, y_bf_allEarned.cls, b_bf_allEarned, 4, (some .long), false, x, 3, 0, 0, 77, q0) (qD (some (.long (u_allEa I L z 5))) 77 (fm I L)) (fun _ _ _ => False) 4 [(3, .int (nI c)), (1, .long (u_allEa I L z c)), (0, .ref 0)] [] 77 0 0 (fm I L) := by
    intro j
    induction j with
    | zero => intro c hj; omega
    | succ j ih =>
    intro c hjj hcc
    refine qr_iload_n (pc := 4) d_bf_allEarned_4 rfl rfl ?_
    refine qr_iconst (v := 5) (pc := 5) d_bf_allEarned_5 (by decide) ?_
    refine qr_icmp_ge (tgt := 30) (pc := 6) d_bf_allEarned_6 (by decide) (fun h6 => ?_) (fun h6 => ?_)
    · skip
      have hccz : 5 = c := by
        have := (nI_leI (a := 5) (b := c) (by omega) (by omega)).mp h6
        omega
      subst hccz
      refine qr_lload_n (pc := 30) d_bf_allEarned_30 rfl rfl ?_
      exact qr_lret (pc := 31) d_bf_allEarned_31 rfl ⟨rfl, rfl, rfl⟩ (Nat.zero_le _) (Nat.zero_le _)
    · skip
      have hccz : c < 5 := by
        have := mt (nI_leI (a := 5) (b := c) (by omega) (by omega)).mpr h6
        omega
      refine qr_lload_n (pc := 9) d_bf_allEarned_9 rfl rfl ?_
      refine qr_aload_n (pc := 10) d_bf_allEarned_10 rfl rfl ?_
      refine qr_get (v := .ref 20) (pc := 11) d_bf_allEarned_11 fl_bf_45 (by decide) (by decide) (c_0 _ _) rfl ?_
      refine qr_iload_n (pc := 14) d_bf_allEarned_14 rfl rfl ?_
      refine qr_aload_n (pc := 15) d_bf_allEarned_15 rfl rfl ?_
      refine qr_get (v := .int (I 0 9)) (pc := 16) d_bf_allEarned_16 fl_bf_60 (by decide) (by decide) (c_0 _ _) rfl ?_
      refine qr_callV (q := 20) (As := [.int (nI c), .int (I 0 9)]) (pc := 19) d_bf_allEarned_19 lk_bf_227 im_pb_earnedOf se_pb_earnedOf rfl (by decide) (by decide) (c_20 _ _) (s_pb_earnedOf _ x I L z hz hz2 (nI c) (I 0 9)) rfl rfl (Nat.le_of_ble_eq_true rfl) (Nat.le_of_ble_eq_true rfl) (Nat.le_of_ble_eq_true rfl) (Nat.zero_le _) (Nat.zero_le _) (fun h => ⟨h, rfl, Or.inl rfl⟩) (fun v n9 f9 hE19 => ?_)
      obtain ⟨rfl, rfl, rfl⟩ := hE19
      refine qr_ladd (pc := 22) d_bf_allEarned_22 ?_
      refine qr_lstore_n (lv' := [(1, .long ((u_allEa I L z c) + (u_earn I L (nI c) (I 0 9) z))), (3, .int (nI c)), (0, .ref 0)]) (pc := 23) d_bf_allEarned_23 rfl (Nat.le_of_ble_eq_true rfl) rfl ?_
      refine qr_iinc (v := nI (c + 1)) (lv' := [(3, .int (nI (c + 1))), (1, .long ((u_allEa I L z c) + (u_earn I L (nI c) (I 0 9) z))), (0, .ref 0)]) (pc := 24) d_bf_allEarned_24 rfl (nI_1 c) (Nat.le_of_ble_eq_true rfl) rfl ?_
      refine qr_goto (tgt := 4) (pc := 27) d_bf_allEarned_27 (by decide) ?_
      exact qR_st (by rfl) rfl (rfl) (ih (c + 1) (by omega) (by omega))
  exact loop4 (5 + 1) 0 (by omega) (by omega)
set_option maxRecDepth 10000 in
theorem s_bf_passDay (l : Launch) (x : Bool) (I : Nat → Nat → Int32) (L : Nat → Nat → Int64) (z : Nat) (hz : I 14 5 = nI z) (hz2 : z ≤ 50) : qSp l y_bf_passDay b_bf_passDay 2 none x 4 0 0 [.ref 0] 77 (fm I L) (qD none 77 (fm (u_pass I L z) L)) := by
  refine qSp_of (ini := false) (by decide +kernel) (fun h => nomatch h) (Nat.le_of_ble_eq_true rfl) ?_
  show qR _ _ _ 0 [(0, .ref 0)] [] _ _ _ _
  refine qr_iconst (v := 0) (pc := 0) d_bf_passDay_0 (by decide) ?_
  refine qr_istore_n (lv' := [(1, .int 0), (0, .ref 0)]) (pc := 1) d_bf_passDay_1 rfl (Nat.le_of_ble_eq_true rfl) rfl ?_
  have loop2 : ∀ (j1 c : Nat), 5 - c < j1 → c ≤ 5 → qR (l, y_bf_passDay.cls, b_bf_passDay, 2, none, false, x, 4, 0, 0, 77, q0) (qD none 77 (fm (u_pass I L z) L)) (fun _ _ _ => False) 2 [(1, .int (nI c)), (0, .ref 0)] [] 77 0 0 (fm (u_kps I c) L) := by
    intro j1
    induction j1 with
    | zero => intro c hj; omega
    | succ j1 ih1 =>
    intro c hjj1 hc1
    refine qr_iload_n (pc := 2) d_bf_passDay_2 rfl rfl ?_
    refine qr_iconst (v := 5) (pc := 3) d_bf_passDay_3 (by decide) ?_
    refine qr_icmp_ge (tgt := 26) (pc := 4) d_bf_passDay_4 (by decide) (fun h4 => ?_) (fun h4 => ?_)
    · skip
      have hc1z : 5 = c := by
        have := (nI_leI (a := 5) (b := c) (by omega) (by omega)).mp h4
        omega
      subst hc1z
      refine qr_aload_n (pc := 26) d_bf_passDay_26 rfl rfl ?_
      refine qr_dup (pc := 27) d_bf_passDay_27 rfl ?_
      refine qr_get (v := .int ((u_kps I 5) 0 9)) (pc := 28) d_bf_passDay_28 fl_bf_60 (by decide) (by decide) (c_0 _ _) rfl ?_
      refine qr_iconst (v := 1) (pc := 31) d_bf_passDay_31 (by decide) ?_
      refine qr_iadd (pc := 32) d_bf_passDay_32 ?_
      refine qr_putI (pc := 33) d_bf_passDay_33 fl_bf_60 (by decide) (by decide) (c_0 _ _) (Nat.le_of_ble_eq_true rfl) (qFit_i _) (fun w => rfl) ?_
      refine qr_iconst (v := 0) (pc := 36) d_bf_passDay_36 (by decide) ?_
      refine qr_istore_n (lv' := [(1, .int 0), (0, .ref 0)]) (pc := 37) d_bf_passDay_37 rfl (Nat.le_of_ble_eq_true rfl) rfl ?_
      have loop38 : ∀ (j2 c : Nat), 5 - c < j2 → c ≤ 5 → qR (l, y_bf_passDay.cls, b_bf_passDay, 2, none, false, x, 4, 0, 0, 77, q0) (qD none 77 (fm (u_pass I L z) L)) (fun _ _ _ => False) 38 [(1, .int (nI c)), (0, .ref 0)] [] 77 0 0 (fm (u_lks (wI (u_kps I 5) 0 9 (u_kps I 5 0 9 + 1)) L z c) L) := by
        intro j2
        induction j2 with
        | zero => intro c hj; omega
        | succ j2 ih2 =>
        intro c hjj2 hc2
        refine qr_iload_n (pc := 38) d_bf_passDay_38 rfl rfl ?_
        refine qr_iconst (v := 5) (pc := 39) d_bf_passDay_39 (by decide) ?_
        refine qr_icmp_ge (tgt := 54) (pc := 40) d_bf_passDay_40 (by decide) (fun h40 => ?_) (fun h40 => ?_)
        · skip
          have hc2z : 5 = c := by
            have := (nI_leI (a := 5) (b := c) (by omega) (by omega)).mp h40
            omega
          subst hc2z
          exact qr_vret (pc := 54) d_bf_passDay_54 rfl ⟨rfl, rfl, rfl⟩ (Nat.zero_le _) (Nat.zero_le _)
        · skip
          have hc2z : c < 5 := by
            have := mt (nI_leI (a := 5) (b := c) (by omega) (by omega)).mpr h40
            omega
          have hc : c < 5 := hc2z
          have hl14 : (u_lks (wI (u_kps I 5) 0 9 (u_kps I 5 0 9 + 1)) L z c) 14 5 = nI z := by
            rw [u_lks_ne (by decide), wI_ne (Or.inl (by decide)), u_kps_ne (by decide)]
            exact hz
          refine qr_aload_n (pc := 43) d_bf_passDay_43 rfl rfl ?_
          refine qr_iload_n (pc := 44) d_bf_passDay_44 rfl rfl ?_
          refine qr_callV (q := 0) (As := [.int (nI c)]) (pc := 45) d_bf_passDay_45 lk_bf_256 im_bf_lookAtStage se_bf_lookAtStage rfl (by decide) (by decide) (c_0 _ _) (s_bf_lookAtStage _ x (u_lks (wI (u_kps I 5) 0 9 (u_kps I 5 0 9 + 1)) L z c) L z c hl14 hz2 hc) rfl rfl (Nat.le_of_ble_eq_true rfl) (Nat.le_of_ble_eq_true rfl) (Nat.le_of_ble_eq_true rfl) (Nat.zero_le _) (Nat.zero_le _) (fun h => ⟨h, rfl, Or.inl rfl⟩) (fun v n9 f9 hE45 => ?_)
          obtain ⟨rfl, rfl, rfl⟩ := hE45
          refine qr_iinc (v := nI (c + 1)) (lv' := [(1, .int (nI (c + 1))), (0, .ref 0)]) (pc := 48) d_bf_passDay_48 rfl (nI_1 c) (Nat.le_of_ble_eq_true rfl) rfl ?_
          refine qr_goto (tgt := 38) (pc := 51) d_bf_passDay_51 (by decide) ?_
          exact qR_st (by rfl) rfl (rfl) (ih2 (c + 1) (by omega) (by omega))
      exact loop38 (5 + 1) 0 (by omega) (by omega)
    · skip
      have hc1z : c < 5 := by
        have := mt (nI_leI (a := 5) (b := c) (by omega) (by omega)).mpr h4
        omega
      have hc : c < 5 := hc1z
      refine qr_aload_n (pc := 7) d_bf_passDay_7 rfl rfl ?_
      refine qr_get (v := .ref 8) (pc := 8) d_bf_passDay_8 fl_bf_24 (by decide) (by decide) (c_0 _ _) rfl ?_
      refine qr_iload_n (pc := 11) d_bf_passDay_11 rfl rfl ?_
      refine qr_aald (w := 37 + 2 * c) (pc := 12) d_bf_passDay_12 (by decide) (by decide) (c_8 _ _) rfl (vp_in_nI (by omega) (by decide)) (aal_8 (by omega)) ?_
      refine qr_aload_n (pc := 13) d_bf_passDay_13 rfl rfl ?_
      refine qr_get (v := .int ((u_kps I c) 0 9)) (pc := 14) d_bf_passDay_14 fl_bf_60 (by decide) (by decide) (c_0 _ _) rfl ?_
      refine qr_callV (q := 37 + 2 * c) (As := [.int ((u_kps I c) 0 9)]) (pc := 17) d_bf_passDay_17 lk_bf_253 im_cu_keepDay se_cu_keepDay rfl (isCu_c hc).1 (isCu_c hc).1 ((isCu_c hc).2.2.1 _ _) (s_cu_keepDay _ x (u_kps I c) L (37 + 2 * c) (38 + 2 * c) (isCu_c hc) ((u_kps I c) 0 9)) rfl rfl (Nat.le_of_ble_eq_true rfl) (Nat.le_of_ble_eq_true rfl) (Nat.le_of_ble_eq_true rfl) (Nat.zero_le _) (Nat.zero_le _) (fun h => ⟨h, rfl, Or.inl rfl⟩) (fun v n9 f9 hE17 => ?_)
      obtain ⟨rfl, rfl, rfl⟩ := hE17
      refine qr_iinc (v := nI (c + 1)) (lv' := [(1, .int (nI (c + 1))), (0, .ref 0)]) (pc := 20) d_bf_passDay_20 rfl (nI_1 c) (Nat.le_of_ble_eq_true rfl) rfl ?_
      refine qr_goto (tgt := 2) (pc := 23) d_bf_passDay_23 (by decide) ?_
      exact qR_st (by rfl) rfl (rfl) (ih1 (c + 1) (by omega) (by omega))
  exact loop2 (5 + 1) 0 (by omega) (by omega)
