/-- an int that is a boolean -/
def qB (v : Int32) : Prop := v = 0 ∨ v = 1
theorem qB.nar {v : Int32} (h : qB v) : narrow .boolean (.int v) = .int v := by rcases h with rfl | rfl <;> rfl
theorem qB.fit {v : Int32} (h : qB v) : qFit .boolean (.int v) := by rcases h with rfl | rfl <;> exact fun _ _ => ⟨rfl, rfl⟩
theorem qB_if (c : Prop) [Decidable c] : qB (if c then 1 else 0) := by by_cases h : c <;> simp [h, qB]
/-! BillForge$Customer: the object q with its days q2 -/
def isCu (q q2 : Nat) : Prop := q < 77 ∧ q2 < 77 ∧ (∀ g h, cellOf q g h = .inr (0, [.ref q2, .int (g 1), .int (g 2), .int (g 3), .long (h 4)])) ∧ ∀ g h, cellOf q2 g h = .inl (4, 401, .inl g)
theorem isCu_c {c : Nat} (hc : c < 5) : isCu (37 + 2 * c) (38 + 2 * c) := by
  refine ⟨by omega, by omega, ?_, ?_⟩ <;> (intro g h; rcases (show c = 0 ∨ c = 1 ∨ c = 2 ∨ c = 3 ∨ c = 4 by omega) with rfl | rfl | rfl | rfl | rfl <;> rfl)
theorem aal_8 {k : Nat} (hk : k < 5) : (fun j => if j < 5 then some (37 + 2 * j) else none) ((nI k).toNatClampNeg) = some (37 + 2 * k) := by
  rw [nI_clamp (by omega)]
  exact if_pos hk
theorem aal_7 {k : Nat} (hk : k < 3) : (fun j => if j < 3 then some (28 + 3 * j) else none) ((nI k).toNatClampNeg) = some (28 + 3 * k) := by
  rw [nI_clamp (by omega)]
  exact if_pos hk
def u_stage (d : Int32) : Int32 := if 10 < d then (if 20 < d then 3 else 2) else 1
def u_liveNow (I : Nat → Nat → Int32) (q : Nat) : Int32 := if I q 2 = 0 then I q 1 else -1
def u_next (I : Nat → Nat → Int32) (q : Nat) (d : Int32) : Int32 := if d = 0 then 0 else qmmax (I q 3) (u_stage d)
def u_look1 (I : Nat → Nat → Int32) (q : Nat) (x : Int32) : Nat → Nat → Int32 := if x = 3 ∧ ¬ I q 3 = 3 then wI I q 2 1 else I
def u_look2 (I : Nat → Nat → Int32) (q : Nat) (x : Int32) : Nat → Nat → Int32 := if x = 0 ∧ I q 3 = 3 then wI (u_look1 I q x) q 2 0 else u_look1 I q x
def u_look (I : Nat → Nat → Int32) (q : Nat) (d : Int32) : Nat → Nat → Int32 := wI (u_look2 I q (u_next I q d)) q 3 (u_next I q d)
def u_live (I : Nat → Nat → Int32) (q q2 : Nat) (day today : Int32) : Int32 := if day = today then u_liveNow I q else if day < 0 then -1 else if today ≤ day then -1 else if 401 ≤ day then -1 else I q2 day.toNatClampNeg
def u_keep (I : Nat → Nat → Int32) (q q2 : Nat) (day : Int32) : Nat → Nat → Int32 := if day < 0 then I else if 401 ≤ day then I else wI I q2 day.toNatClampNeg (vp_nar .byte ((Int32.toInt8 (u_liveNow I q)).toInt32))
set_option maxRecDepth 10000 in
theorem s_cu_tariffNow (l : Launch) (x : Bool) (I : Nat → Nat → Int32) (L : Nat → Nat → Int64) (q q2 : Nat) (hq : isCu q q2) : qSp l y_cu_tariffNow b_cu_tariffNow 1 (some .int) x 1 0 0 [.ref q] 77 (fm I L) (qD (some (.int (I q 1))) 77 (fm I L)) := by
  refine qSp_of (ini := false) (by decide +kernel) (fun h => nomatch h) (Nat.le_of_ble_eq_true rfl) ?_
  show qR _ _ _ 0 [(0, .ref q)] [] _ _ _ _
  refine qr_aload_n (pc := 0) d_cu_tariffNow_0 rfl rfl ?_
  refine qr_get (v := .int (I q 1)) (pc := 1) d_cu_tariffNow_1 fl_cu_15 hq.1 hq.1 (hq.2.2.1 _ _) rfl ?_
  exact qr_iret (pc := 4) d_cu_tariffNow_4 rfl rfl ⟨rfl, rfl, rfl⟩ (Nat.zero_le _) (Nat.zero_le _)
set_option maxRecDepth 10000 in
theorem s_cu_isPaused (l : Launch) (x : Bool) (I : Nat → Nat → Int32) (L : Nat → Nat → Int64) (q q2 : Nat) (hq : isCu q q2) (hb : qB (I q 2)) : qSp l y_cu_isPaused b_cu_isPaused 1 (some .boolean) x 1 0 0 [.ref q] 77 (fm I L) (qD (some (.int (I q 2))) 77 (fm I L)) := by
  refine qSp_of (ini := false) (by decide +kernel) (fun h => nomatch h) (Nat.le_of_ble_eq_true rfl) ?_
  show qR _ _ _ 0 [(0, .ref q)] [] _ _ _ _
  refine qr_aload_n (pc := 0) d_cu_isPaused_0 rfl rfl ?_
  refine qr_get (v := .int (I q 2)) (pc := 1) d_cu_isPaused_1 fl_cu_19 hq.1 hq.1 (hq.2.2.1 _ _) rfl ?_
  exact qr_iret (pc := 4) d_cu_isPaused_4 rfl hb.nar ⟨rfl, rfl, rfl⟩ (Nat.zero_le _) (Nat.zero_le _)
set_option maxRecDepth 10000 in
theorem s_cu_stage (l : Launch) (x : Bool) (I : Nat → Nat → Int32) (L : Nat → Nat → Int64) (q q2 : Nat) (hq : isCu q q2) : qSp l y_cu_stage b_cu_stage 1 (some .int) x 1 0 0 [.ref q] 77 (fm I L) (qD (some (.int (I q 3))) 77 (fm I L)) := by
  refine qSp_of (ini := false) (by decide +kernel) (fun h => nomatch h) (Nat.le_of_ble_eq_true rfl) ?_
  show qR _ _ _ 0 [(0, .ref q)] [] _ _ _ _
  refine qr_aload_n (pc := 0) d_cu_stage_0 rfl rfl ?_
  refine qr_get (v := .int (I q 3)) (pc := 1) d_cu_stage_1 fl_cu_23 hq.1 hq.1 (hq.2.2.1 _ _) rfl ?_
  exact qr_iret (pc := 4) d_cu_stage_4 rfl rfl ⟨rfl, rfl, rfl⟩ (Nat.zero_le _) (Nat.zero_le _)
set_option maxRecDepth 10000 in
theorem s_cu_credit (l : Launch) (x : Bool) (I : Nat → Nat → Int32) (L : Nat → Nat → Int64) (q q2 : Nat) (hq : isCu q q2) : qSp l y_cu_credit b_cu_credit 1 (some .long) x 1 0 0 [.ref q] 77 (fm I L) (qD (some (.long (L q 4))) 77 (fm I L)) := by
  refine qSp_of (ini := false) (by decide +kernel) (fun h => nomatch h) (Nat.le_of_ble_eq_true rfl) ?_
  show qR _ _ _ 0 [(0, .ref q)] [] _ _ _ _
  refine qr_aload_n (pc := 0) d_cu_credit_0 rfl rfl ?_
  refine qr_get (v := .long (L q 4)) (pc := 1) d_cu_credit_1 fl_cu_26 hq.1 hq.1 (hq.2.2.1 _ _) rfl ?_
  exact qr_lret (pc := 4) d_cu_credit_4 rfl ⟨rfl, rfl, rfl⟩ (Nat.zero_le _) (Nat.zero_le _)
set_option maxRecDepth 10000 in
theorem s_cu_isStopped (l : Launch) (x : Bool) (I : Nat → Nat → Int32) (L : Nat → Nat → Int64) (q q2 : Nat) (hq : isCu q q2) : qSp l y_cu_isStopped b_cu_isStopped 1 (some .boolean) x 1 0 0 [.ref q] 77 (fm I L) (qD (some (.int (if I q 3 = 3 then 1 else 0))) 77 (fm I L)) := by
  refine qSp_of (ini := false) (by decide +kernel) (fun h => nomatch h) (Nat.le_of_ble_eq_true rfl) ?_
  show qR _ _ _ 0 [(0, .ref q)] [] _ _ _ _
  refine qr_aload_n (pc := 0) d_cu_isStopped_0 rfl rfl ?_
  refine qr_get (v := .int (I q 3)) (pc := 1) d_cu_isStopped_1 fl_cu_23 hq.1 hq.1 (hq.2.2.1 _ _) rfl ?_
  refine qr_iconst (v := 3) (pc := 4) d_cu_isStopped_4 (by decide) ?_
  refine qr_icmp_ne (tgt := 12) (pc := 5) d_cu_isStopped_5 (by decide) (fun h5 => ?_) (fun h5 => ?_)
  · skip
    refine qr_iconst (v := 0) (pc := 12) d_cu_isStopped_12 (by decide) ?_
    exact qr_iret (pc := 13) d_cu_isStopped_13 rfl rfl ⟨(by simp [*]), rfl, rfl⟩ (Nat.zero_le _) (Nat.zero_le _)
  · skip
    refine qr_iconst (v := 1) (pc := 8) d_cu_isStopped_8 (by decide) ?_
    refine qr_goto (tgt := 13) (pc := 9) d_cu_isStopped_9 (by decide) ?_
    exact qr_iret (pc := 13) d_cu_isStopped_13 rfl rfl ⟨(by simp [*]), rfl, rfl⟩ (Nat.zero_le _) (Nat.zero_le _)
set_option maxRecDepth 10000 in
theorem s_cu_stageFor (l : Launch) (x : Bool) (n : Nat) (f : Nat → va_E) (d : Int32) : qSp l y_cu_stageFor b_cu_stageFor 1 (some .int) x 1 0 0 [.int d] n f (qD (some (.int (u_stage d))) n f) := by
  refine qSp_of (ini := false) (by decide +kernel) (fun h => nomatch h) (Nat.le_of_ble_eq_true rfl) ?_
  show qR _ _ _ 0 [(0, .int d)] [] _ _ _ _
  refine qr_iload_n (pc := 0) d_cu_stageFor_0 rfl rfl ?_
  refine qr_bipush (v := 10) (pc := 1) d_cu_stageFor_1 (by decide) ?_
  refine qr_icmp_gt (tgt := 8) (pc := 3) d_cu_stageFor_3 (by decide) (fun h3 => ?_) (fun h3 => ?_)
  · skip
    refine qr_iload_n (pc := 8) d_cu_stageFor_8 rfl rfl ?_
    refine qr_bipush (v := 20) (pc := 9) d_cu_stageFor_9 (by decide) ?_
    refine qr_icmp_gt (tgt := 18) (pc := 11) d_cu_stageFor_11 (by decide) (fun h11 => ?_) (fun h11 => ?_)
    · skip
      refine qr_iconst (v := 3) (pc := 18) d_cu_stageFor_18 (by decide) ?_
      exact qr_iret (pc := 19) d_cu_stageFor_19 rfl rfl ⟨(by simp [u_stage, *]), rfl, rfl⟩ (Nat.zero_le _) (Nat.zero_le _)
    · skip
      refine qr_iconst (v := 2) (pc := 14) d_cu_stageFor_14 (by decide) ?_
      refine qr_goto (tgt := 19) (pc := 15) d_cu_stageFor_15 (by decide) ?_
      exact qr_iret (pc := 19) d_cu_stageFor_19 rfl rfl ⟨(by simp [u_stage, *]), rfl, rfl⟩ (Nat.zero_le _) (Nat.zero_le _)
  · skip
    refine qr_iconst (v := 1) (pc := 6) d_cu_stageFor_6 (by decide) ?_
    exact qr_iret (pc := 7) d_cu_stageFor_7 rfl rfl ⟨(by simp [u_stage, *]), rfl, rfl⟩ (Nat.zero_le _) (Nat.zero_le _)
set_option maxRecDepth 10000 in
theorem s_cu_liveTariffNow (l : Launch) (x : Bool) (I : Nat → Nat → Int32) (L : Nat → Nat → Int64) (q q2 : Nat) (hq : isCu q q2) : qSp l y_cu_liveTariffNow b_cu_liveTariffNow 1 (some .int) x 1 0 0 [.ref q] 77 (fm I L) (qD (some (.int (u_liveNow I q))) 77 (fm I L)) := by
  refine qSp_of (ini := false) (by decide +kernel) (fun h => nomatch h) (Nat.le_of_ble_eq_true rfl) ?_
  show qR _ _ _ 0 [(0, .ref q)] [] _ _ _ _
  refine qr_aload_n (pc := 0) d_cu_liveTariffNow_0 rfl rfl ?_
  refine qr_get (v := .int (I q 2)) (pc := 1) d_cu_liveTariffNow_1 fl_cu_19 hq.1 hq.1 (hq.2.2.1 _ _) rfl ?_
  refine qr_if_eq (tgt := 11) (pc := 4) d_cu_liveTariffNow_4 (by decide) (fun h4 => ?_) (fun h4 => ?_)
  · skip
    refine qr_aload_n (pc := 11) d_cu_liveTariffNow_11 rfl rfl ?_
    refine qr_get (v := .int (I q 1)) (pc := 12) d_cu_liveTariffNow_12 fl_cu_15 hq.1 hq.1 (hq.2.2.1 _ _) rfl ?_
    exact qr_iret (pc := 15) d_cu_liveTariffNow_15 rfl rfl ⟨(by simp [u_liveNow, *]), rfl, rfl⟩ (Nat.zero_le _) (Nat.zero_le _)
  · skip
    refine qr_iconst (v := (-1)) (pc := 7) d_cu_liveTariffNow_7 (by decide) ?_
    refine qr_goto (tgt := 15) (pc := 8) d_cu_liveTariffNow_8 (by decide) ?_
    exact qr_iret (pc := 15) d_cu_liveTariffNow_15 rfl rfl ⟨(by simp [u_liveNow, *]), rfl, rfl⟩ (Nat.zero_le _) (Nat.zero_le _)
set_option maxRecDepth 10000 in
theorem s_cu_setPaused (l : Launch) (x : Bool) (I : Nat → Nat → Int32) (L : Nat → Nat → Int64) (q q2 : Nat) (hq : isCu q q2) (on : Int32) (hb : qB on) : qSp l y_cu_setPaused b_cu_setPaused 2 none x 1 0 0 [.ref q, .int on] 77 (fm I L) (qD none 77 (fm (wI I q 2 on) L)) := by
  refine qSp_of (ini := false) (by decide +kernel) (fun h => nomatch h) (Nat.le_of_ble_eq_true rfl) ?_
  show qR _ _ _ 0 [(0, .ref q), (1, .int on)] [] _ _ _ _
  refine qr_aload_n (pc := 0) d_cu_setPaused_0 rfl rfl ?_
  refine qr_iload_n (pc := 1) d_cu_setPaused_1 rfl rfl ?_
  refine qr_putI (pc := 2) d_cu_setPaused_2 fl_cu_19 hq.1 hq.1 (hq.2.2.1 _ _) (Nat.le_of_ble_eq_true rfl) hb.fit (fun w => (hq.2.2.1 (upd (I q) 2 w) (L q)).symm) ?_
  exact qr_vret (pc := 5) d_cu_setPaused_5 rfl ⟨rfl, rfl, rfl⟩ (Nat.zero_le _) (Nat.zero_le _)
set_option maxRecDepth 10000 in
theorem s_cu_addCredit (l : Launch) (x : Bool) (I : Nat → Nat → Int32) (L : Nat → Nat → Int64) (q q2 : Nat) (hq : isCu q q2) (a : Int64) : qSp l y_cu_addCredit b_cu_addCredit 3 none x 1 0 0 [.ref q, .long a] 77 (fm I L) (qD none 77 (fm I (wL L q 4 (L q 4 + a)))) := by
  refine qSp_of (ini := false) (by decide +kernel) (fun h => nomatch h) (Nat.le_of_ble_eq_true rfl) ?_
  show qR _ _ _ 0 [(0, .ref q), (1, .long a)] [] _ _ _ _
  refine qr_aload_n (pc := 0) d_cu_addCredit_0 rfl rfl ?_
  refine qr_dup (pc := 1) d_cu_addCredit_1 rfl ?_
  refine qr_get (v := .long (L q 4)) (pc := 2) d_cu_addCredit_2 fl_cu_26 hq.1 hq.1 (hq.2.2.1 _ _) rfl ?_
  refine qr_lload_n (pc := 5) d_cu_addCredit_5 rfl rfl ?_
  refine qr_ladd (pc := 6) d_cu_addCredit_6 ?_
  refine qr_putL (pc := 7) d_cu_addCredit_7 fl_cu_26 hq.1 hq.1 (hq.2.2.1 _ _) (Nat.le_of_ble_eq_true rfl) (qFit_l _) (fun w => (hq.2.2.1 (I q) (vp_updL (L q) 4 w)).symm) ?_
  exact qr_vret (pc := 10) d_cu_addCredit_10 rfl ⟨rfl, rfl, rfl⟩ (Nat.zero_le _) (Nat.zero_le _)
set_option maxRecDepth 10000 in
theorem s_cu_changeTariff (l : Launch) (x : Bool) (I : Nat → Nat → Int32) (L : Nat → Nat → Int64) (q q2 : Nat) (hq : isCu q q2) (t : Int32) : qSp l y_cu_changeTariff b_cu_changeTariff 2 none x 2 0 0 [.ref q, .int t] 77 (fm I L) (qD none 77 (fm (wI (wI I q 1 t) q 2 (if I q 3 = 3 then 1 else 0)) L)) := by
  refine qSp_of (ini := false) (by decide +kernel) (fun h => nomatch h) (Nat.le_of_ble_eq_true rfl) ?_
  show qR _ _ _ 0 [(0, .ref q), (1, .int t)] [] _ _ _ _
  refine qr_aload_n (pc := 0) d_cu_changeTariff_0 rfl rfl ?_
  refine qr_iload_n (pc := 1) d_cu_changeTariff_1 rfl rfl ?_
  refine qr_putI (pc := 2) d_cu_changeTariff_2 fl_cu_15 hq.1 hq.1 (hq.2.2.1 _ _) (Nat.le_of_ble_eq_true rfl) (qFit_i _) (fun w => (hq.2.2.1 (upd (I q) 1 w) (L q)).symm) ?_
  refine qr_aload_n (pc := 5) d_cu_changeTariff_5 rfl rfl ?_
  refine qr_aload_n (pc := 6) d_cu_changeTariff_6 rfl rfl ?_
  refine qr_callV (q := q) (As := []) (pc := 7) d_cu_changeTariff_7 lk_cu_30 im_cu_isStopped se_cu_isStopped rfl hq.1 hq.1 (hq.2.2.1 _ _) (s_cu_isStopped _ x (wI I q 1 t) L q q2 hq) rfl rfl (Nat.le_of_ble_eq_true rfl) (Nat.le_of_ble_eq_true rfl) (Nat.le_of_ble_eq_true rfl) (Nat.zero_le _) (Nat.zero_le _) (fun h => ⟨h, rfl, Or.inl rfl⟩) (fun v n9 f9 hE7 => ?_)
  obtain ⟨rfl, rfl, rfl⟩ := hE7
  refine qr_putI (pc := 10) d_cu_changeTariff_10 fl_cu_19 hq.1 hq.1 (hq.2.2.1 _ _) (Nat.le_of_ble_eq_true rfl) (qB.fit (qB_if _)) (fun w => (hq.2.2.1 (upd ((wI I q 1 t) q) 2 w) (L q)).symm) ?_
  exact qr_vret (pc := 13) d_cu_changeTariff_13 rfl ⟨rfl, rfl, (by simp [wI_ne])⟩ (Nat.zero_le _) (Nat.zero_le _)
set_option maxRecDepth 10000 in
theorem s_cu_keepDay (l : Launch) (x : Bool) (I : Nat → Nat → Int32) (L : Nat → Nat → Int64) (q q2 : Nat) (hq : isCu q q2) (day : Int32) : qSp l y_cu_keepDay b_cu_keepDay 2 none x 2 0 0 [.ref q, .int day] 77 (fm I L) (qD none 77 (fm (u_keep I q q2 day) L)) := by
  refine qSp_of (ini := false) (by decide +kernel) (fun h => nomatch h) (Nat.le_of_ble_eq_true rfl) ?_
  show qR _ _ _ 0 [(0, .ref q), (1, .int day)] [] _ _ _ _
  refine qr_iload_n (pc := 0) d_cu_keepDay_0 rfl rfl ?_
  refine qr_if_lt (tgt := 24) (pc := 1) d_cu_keepDay_1 (by decide) (fun h1 => ?_) (fun h1 => ?_)
  · skip
    exact qr_vret (pc := 24) d_cu_keepDay_24 rfl ⟨rfl, rfl, (by simp [u_keep, *])⟩ (Nat.zero_le _) (Nat.zero_le _)
  · skip
    refine qr_iload_n (pc := 4) d_cu_keepDay_4 rfl rfl ?_
    refine qr_aload_n (pc := 5) d_cu_keepDay_5 rfl rfl ?_
    refine qr_get (v := .ref q2) (pc := 6) d_cu_keepDay_6 fl_cu_9 hq.1 hq.1 (hq.2.2.1 _ _) rfl ?_
    refine qr_alen (v := 401) (pc := 9) d_cu_keepDay_9 hq.2.1 hq.2.1 (hq.2.2.2 _ _) rfl rfl ?_
    refine qr_icmp_ge (tgt := 24) (pc := 10) d_cu_keepDay_10 (by decide) (fun h10 => ?_) (fun h10 => ?_)
    · skip
      exact qr_vret (pc := 24) d_cu_keepDay_24 rfl ⟨rfl, rfl, (by simp [u_keep, *])⟩ (Nat.zero_le _) (Nat.zero_le _)
    · skip
      have hi : vp_in day 401 := by
        rw [vp_in_iff]
        constructor
        · exact Int.not_lt.mp (fun w => h1 (Int32.lt_iff_toInt_lt.mpr w))
        · exact Int.not_le.mp (fun w => h10 (Int32.le_iff_toInt_le.mpr w))
      refine qr_aload_n (pc := 13) d_cu_keepDay_13 rfl rfl ?_
      refine qr_get (v := .ref q2) (pc := 14) d_cu_keepDay_14 fl_cu_9 hq.1 hq.1 (hq.2.2.1 _ _) rfl ?_
      refine qr_iload_n (pc := 17) d_cu_keepDay_17 rfl rfl ?_
      refine qr_aload_n (pc := 18) d_cu_keepDay_18 rfl rfl ?_
      refine qr_callV (q := q) (As := []) (pc := 19) d_cu_keepDay_19 lk_cu_34 im_cu_liveTariffNow se_cu_liveTariffNow rfl hq.1 hq.1 (hq.2.2.1 _ _) (s_cu_liveTariffNow _ x I L q q2 hq) rfl rfl (Nat.le_of_ble_eq_true rfl) (Nat.le_of_ble_eq_true rfl) (Nat.le_of_ble_eq_true rfl) (Nat.zero_le _) (Nat.zero_le _) (fun h => ⟨h, rfl, Or.inl rfl⟩) (fun v n9 f9 hE19 => ?_)
      obtain ⟨rfl, rfl, rfl⟩ := hE19
      refine qr_i2b (pc := 22) d_cu_keepDay_22 ?_
      refine qr_bastM (j := (day.toNatClampNeg)) (pc := 23) d_cu_keepDay_23 hq.2.1 hq.2.1 (hq.2.2.2 _ _) (by assumption) rfl (fun w => (hq.2.2.2 (upd (I q2) (day.toNatClampNeg) w) (L q2)).symm) ?_
      exact qr_vret (pc := 24) d_cu_keepDay_24 rfl ⟨rfl, rfl, (by simp [u_keep, *])⟩ (Nat.zero_le _) (Nat.zero_le _)
set_option maxRecDepth 10000 in
theorem s_cu_liveTariff (l : Launch) (x : Bool) (I : Nat → Nat → Int32) (L : Nat → Nat → Int64) (q q2 : Nat) (hq : isCu q q2) (day today : Int32) : qSp l y_cu_liveTariff b_cu_liveTariff 3 (some .int) x 2 0 0 [.ref q, .int day, .int today] 77 (fm I L) (qD (some (.int (u_live I q q2 day today))) 77 (fm I L)) := by
  refine qSp_of (ini := false) (by decide +kernel) (fun h => nomatch h) (Nat.le_of_ble_eq_true rfl) ?_
  show qR _ _ _ 0 [(0, .ref q), (1, .int day), (2, .int today)] [] _ _ _ _
  refine qr_iload_n (pc := 0) d_cu_liveTariff_0 rfl rfl ?_
  refine qr_iload_n (pc := 1) d_cu_liveTariff_1 rfl rfl ?_
  refine qr_icmp_ne (tgt := 10) (pc := 2) d_cu_liveTariff_2 (by decide) (fun h2 => ?_) (fun h2 => ?_)
  · skip
    refine qr_iload_n (pc := 10) d_cu_liveTariff_10 rfl rfl ?_
    refine qr_if_lt (tgt := 37) (pc := 11) d_cu_liveTariff_11 (by decide) (fun h11 => ?_) (fun h11 => ?_)
    · skip
      refine qr_iconst (v := (-1)) (pc := 37) d_cu_liveTariff_37 (by decide) ?_
      exact qr_iret (pc := 38) d_cu_liveTariff_38 rfl rfl ⟨(by simp [u_live, *]), rfl, rfl⟩ (Nat.zero_le _) (Nat.zero_le _)
    · skip
      refine qr_iload_n (pc := 14) d_cu_liveTariff_14 rfl rfl ?_
      refine qr_iload_n (pc := 15) d_cu_liveTariff_15 rfl rfl ?_
      refine qr_icmp_ge (tgt := 37) (pc := 16) d_cu_liveTariff_16 (by decide) (fun h16 => ?_) (fun h16 => ?_)
      · skip
        refine qr_iconst (v := (-1)) (pc := 37) d_cu_liveTariff_37 (by decide) ?_
        exact qr_iret (pc := 38) d_cu_liveTariff_38 rfl rfl ⟨(by simp [u_live, *]), rfl, rfl⟩ (Nat.zero_le _) (Nat.zero_le _)
      · skip
        refine qr_iload_n (pc := 19) d_cu_liveTariff_19 rfl rfl ?_
        refine qr_aload_n (pc := 20) d_cu_liveTariff_20 rfl rfl ?_
        refine qr_get (v := .ref q2) (pc := 21) d_cu_liveTariff_21 fl_cu_9 hq.1 hq.1 (hq.2.2.1 _ _) rfl ?_
        refine qr_alen (v := 401) (pc := 24) d_cu_liveTariff_24 hq.2.1 hq.2.1 (hq.2.2.2 _ _) rfl rfl ?_
        refine qr_icmp_ge (tgt := 37) (pc := 25) d_cu_liveTariff_25 (by decide) (fun h25 => ?_) (fun h25 => ?_)
        · skip
          refine qr_iconst (v := (-1)) (pc := 37) d_cu_liveTariff_37 (by decide) ?_
          exact qr_iret (pc := 38) d_cu_liveTariff_38 rfl rfl ⟨(by simp [u_live, *]), rfl, rfl⟩ (Nat.zero_le _) (Nat.zero_le _)
        · skip
          have hi : vp_in day 401 := by
            rw [vp_in_iff]
            constructor
            · exact Int.not_lt.mp (fun w => h11 (Int32.lt_iff_toInt_lt.mpr w))
            · exact Int.not_le.mp (fun w => h25 (Int32.le_iff_toInt_le.mpr w))
          refine qr_aload_n (pc := 28) d_cu_liveTariff_28 rfl rfl ?_
          refine qr_get (v := .ref q2) (pc := 29) d_cu_liveTariff_29 fl_cu_9 hq.1 hq.1 (hq.2.2.1 _ _) rfl ?_
          refine qr_iload_n (pc := 32) d_cu_liveTariff_32 rfl rfl ?_
          refine qr_bald (pc := 33) d_cu_liveTariff_33 hq.2.1 hq.2.1 (hq.2.2.2 _ _) (by assumption) ?_
          refine qr_goto (tgt := 38) (pc := 34) d_cu_liveTariff_34 (by decide) ?_
          exact qr_iret (pc := 38) d_cu_liveTariff_38 rfl rfl ⟨(by simp [u_live, *]), rfl, rfl⟩ (Nat.zero_le _) (Nat.zero_le _)
  · skip
    refine qr_aload_n (pc := 5) d_cu_liveTariff_5 rfl rfl ?_
    refine qr_callV (q := q) (As := []) (pc := 6) d_cu_liveTariff_6 lk_cu_34 im_cu_liveTariffNow se_cu_liveTariffNow rfl hq.1 hq.1 (hq.2.2.1 _ _) (s_cu_liveTariffNow _ x I L q q2 hq) rfl rfl (Nat.le_of_ble_eq_true rfl) (Nat.le_of_ble_eq_true rfl) (Nat.le_of_ble_eq_true rfl) (Nat.zero_le _) (Nat.zero_le _) (fun h => ⟨h, rfl, Or.inl rfl⟩) (fun v n9 f9 hE6 => ?_)
    obtain ⟨rfl, rfl, rfl⟩ := hE6
    exact qr_iret (pc := 9) d_cu_liveTariff_9 rfl rfl ⟨(by simp [u_live, *]), rfl, rfl⟩ (Nat.zero_le _) (Nat.zero_le _)
set_option maxRecDepth 10000 in
theorem s_cu_lookAtStage (l : Launch) (x : Bool) (I : Nat → Nat → Int32) (L : Nat → Nat → Int64) (q q2 : Nat) (hq : isCu q q2) (d : Int32) : qSp l y_cu_lookAtStage b_cu_lookAtStage 3 none x 2 0 0 [.ref q, .int d] 77 (fm I L) (qD none 77 (fm (u_look I q d) L)) := by
  refine qSp_of (ini := false) (by decide +kernel) (fun h => nomatch h) (Nat.le_of_ble_eq_true rfl) ?_
  show qR _ _ _ 0 [(0, .ref q), (1, .int d)] [] _ _ _ _
  refine qr_iload_n (pc := 0) d_cu_lookAtStage_0 rfl rfl ?_
  refine qr_if_ne (tgt := 8) (pc := 1) d_cu_lookAtStage_1 (by decide) (fun h1 => ?_) (fun h1 => ?_)
  · skip
    refine qr_aload_n (pc := 8) d_cu_lookAtStage_8 rfl rfl ?_
    refine qr_get (v := .int (I q 3)) (pc := 9) d_cu_lookAtStage_9 fl_cu_23 hq.1 hq.1 (hq.2.2.1 _ _) rfl ?_
    refine qr_iload_n (pc := 12) d_cu_lookAtStage_12 rfl rfl ?_
    refine qr_callS (As := [.int d]) (pc := 13) d_cu_lookAtStage_13 lk_cu_38 sm_cu_stageFor (s_cu_stageFor _ x _ _ d) rfl rfl (Nat.le_of_ble_eq_true rfl) (Nat.le_of_ble_eq_true rfl) (Nat.le_of_ble_eq_true rfl) (Nat.zero_le _) (Nat.zero_le _) (fun h => ⟨h, rfl, Or.inl rfl⟩) (fun v n9 f9 hE13 => ?_)
    obtain ⟨rfl, rfl, rfl⟩ := hE13
    refine qr_mmax (pc := 16) d_cu_lookAtStage_16 lk_cu_42 s_mmax i_math c_mmax (Nat.le_of_ble_eq_true rfl) (Nat.le_of_ble_eq_true rfl) (Nat.zero_le _) (Nat.zero_le _) ?_
    refine qr_istore_n (lv' := [(2, .int (qmmax (I q 3) (u_stage d))), (0, .ref q), (1, .int d)]) (pc := 19) d_cu_lookAtStage_19 rfl (Nat.le_of_ble_eq_true rfl) rfl ?_
    refine qr_iload_n (pc := 20) d_cu_lookAtStage_20 rfl rfl ?_
    refine qr_iconst (v := 3) (pc := 21) d_cu_lookAtStage_21 (by decide) ?_
    refine qr_icmp_ne (tgt := 38) (pc := 22) d_cu_lookAtStage_22 (by decide) (fun h22 => ?_) (fun h22 => ?_)
    · skip
      refine qr_iload_n (pc := 38) d_cu_lookAtStage_38 rfl rfl ?_
      refine qr_if_ne (tgt := 55) (pc := 39) d_cu_lookAtStage_39 (by decide) (fun h39 => ?_) (fun h39 => ?_)
      · skip
        refine qr_aload_n (pc := 55) d_cu_lookAtStage_55 rfl rfl ?_
        refine qr_iload_n (pc := 56) d_cu_lookAtStage_56 rfl rfl ?_
        refine qr_putI (pc := 57) d_cu_lookAtStage_57 fl_cu_23 hq.1 hq.1 (hq.2.2.1 _ _) (Nat.le_of_ble_eq_true rfl) (qFit_i _) (fun w => (hq.2.2.1 (upd (I q) 3 w) (L q)).symm) ?_
        exact qr_vret (pc := 60) d_cu_lookAtStage_60 rfl ⟨rfl, rfl, (by grind [u_look, u_look1, u_look2, u_next])⟩ (Nat.zero_le _) (Nat.zero_le _)
      · skip
        refine qr_aload_n (pc := 42) d_cu_lookAtStage_42 rfl rfl ?_
        refine qr_get (v := .int (I q 3)) (pc := 43) d_cu_lookAtStage_43 fl_cu_23 hq.1 hq.1 (hq.2.2.1 _ _) rfl ?_
        refine qr_iconst (v := 3) (pc := 46) d_cu_lookAtStage_46 (by decide) ?_
        refine qr_icmp_ne (tgt := 55) (pc := 47) d_cu_lookAtStage_47 (by decide) (fun h47 => ?_) (fun h47 => ?_)
        · skip
          refine qr_aload_n (pc := 55) d_cu_lookAtStage_55 rfl rfl ?_
          refine qr_iload_n (pc := 56) d_cu_lookAtStage_56 rfl rfl ?_
          refine qr_putI (pc := 57) d_cu_lookAtStage_57 fl_cu_23 hq.1 hq.1 (hq.2.2.1 _ _) (Nat.le_of_ble_eq_true rfl) (qFit_i _) (fun w => (hq.2.2.1 (upd (I q) 3 w) (L q)).symm) ?_
          exact qr_vret (pc := 60) d_cu_lookAtStage_60 rfl ⟨rfl, rfl, (by grind [u_look, u_look1, u_look2, u_next])⟩ (Nat.zero_le _) (Nat.zero_le _)
        · skip
          refine qr_aload_n (pc := 50) d_cu_lookAtStage_50 rfl rfl ?_
          refine qr_iconst (v := 0) (pc := 51) d_cu_lookAtStage_51 (by decide) ?_
          refine qr_putI (pc := 52) d_cu_lookAtStage_52 fl_cu_19 hq.1 hq.1 (hq.2.2.1 _ _) (Nat.le_of_ble_eq_true rfl) (qFit_i _) (fun w => (hq.2.2.1 (upd (I q) 2 w) (L q)).symm) ?_
          refine qr_aload_n (pc := 55) d_cu_lookAtStage_55 rfl rfl ?_
          refine qr_iload_n (pc := 56) d_cu_lookAtStage_56 rfl rfl ?_
          refine qr_putI (pc := 57) d_cu_lookAtStage_57 fl_cu_23 hq.1 hq.1 (hq.2.2.1 _ _) (Nat.le_of_ble_eq_true rfl) (qFit_i _) (fun w => (hq.2.2.1 (upd ((wI I q 2 0) q) 3 w) (L q)).symm) ?_
          exact qr_vret (pc := 60) d_cu_lookAtStage_60 rfl ⟨rfl, rfl, (by grind [u_look, u_look1, u_look2, u_next])⟩ (Nat.zero_le _) (Nat.zero_le _)
    · skip
      refine qr_aload_n (pc := 25) d_cu_lookAtStage_25 rfl rfl ?_
      refine qr_get (v := .int (I q 3)) (pc := 26) d_cu_lookAtStage_26 fl_cu_23 hq.1 hq.1 (hq.2.2.1 _ _) rfl ?_
      refine qr_iconst (v := 3) (pc := 29) d_cu_lookAtStage_29 (by decide) ?_
      refine qr_icmp_eq (tgt := 38) (pc := 30) d_cu_lookAtStage_30 (by decide) (fun h30 => ?_) (fun h30 => ?_)
      · skip
        refine qr_iload_n (pc := 38) d_cu_lookAtStage_38 rfl rfl ?_
        refine qr_if_ne (tgt := 55) (pc := 39) d_cu_lookAtStage_39 (by decide) (fun h39 => ?_) (fun h39 => ?_)
        · skip
          refine qr_aload_n (pc := 55) d_cu_lookAtStage_55 rfl rfl ?_
          refine qr_iload_n (pc := 56) d_cu_lookAtStage_56 rfl rfl ?_
          refine qr_putI (pc := 57) d_cu_lookAtStage_57 fl_cu_23 hq.1 hq.1 (hq.2.2.1 _ _) (Nat.le_of_ble_eq_true rfl) (qFit_i _) (fun w => (hq.2.2.1 (upd (I q) 3 w) (L q)).symm) ?_
          exact qr_vret (pc := 60) d_cu_lookAtStage_60 rfl ⟨rfl, rfl, (by grind [u_look, u_look1, u_look2, u_next])⟩ (Nat.zero_le _) (Nat.zero_le _)
        · skip
          refine qr_aload_n (pc := 42) d_cu_lookAtStage_42 rfl rfl ?_
          refine qr_get (v := .int (I q 3)) (pc := 43) d_cu_lookAtStage_43 fl_cu_23 hq.1 hq.1 (hq.2.2.1 _ _) rfl ?_
          refine qr_iconst (v := 3) (pc := 46) d_cu_lookAtStage_46 (by decide) ?_
          refine qr_icmp_ne (tgt := 55) (pc := 47) d_cu_lookAtStage_47 (by decide) (fun h47 => ?_) (fun h47 => ?_)
          · skip
            refine qr_aload_n (pc := 55) d_cu_lookAtStage_55 rfl rfl ?_
            refine qr_iload_n (pc := 56) d_cu_lookAtStage_56 rfl rfl ?_
            refine qr_putI (pc := 57) d_cu_lookAtStage_57 fl_cu_23 hq.1 hq.1 (hq.2.2.1 _ _) (Nat.le_of_ble_eq_true rfl) (qFit_i _) (fun w => (hq.2.2.1 (upd (I q) 3 w) (L q)).symm) ?_
            exact qr_vret (pc := 60) d_cu_lookAtStage_60 rfl ⟨rfl, rfl, (by grind [u_look, u_look1, u_look2, u_next])⟩ (Nat.zero_le _) (Nat.zero_le _)
          · skip
            refine qr_aload_n (pc := 50) d_cu_lookAtStage_50 rfl rfl ?_
            refine qr_iconst (v := 0) (pc := 51) d_cu_lookAtStage_51 (by decide) ?_
            refine qr_putI (pc := 52) d_cu_lookAtStage_52 fl_cu_19 hq.1 hq.1 (hq.2.2.1 _ _) (Nat.le_of_ble_eq_true rfl) (qFit_i _) (fun w => (hq.2.2.1 (upd (I q) 2 w) (L q)).symm) ?_
            refine qr_aload_n (pc := 55) d_cu_lookAtStage_55 rfl rfl ?_
            refine qr_iload_n (pc := 56) d_cu_lookAtStage_56 rfl rfl ?_
            refine qr_putI (pc := 57) d_cu_lookAtStage_57 fl_cu_23 hq.1 hq.1 (hq.2.2.1 _ _) (Nat.le_of_ble_eq_true rfl) (qFit_i _) (fun w => (hq.2.2.1 (upd ((wI I q 2 0) q) 3 w) (L q)).symm) ?_
            exact qr_vret (pc := 60) d_cu_lookAtStage_60 rfl ⟨rfl, rfl, (by grind [u_look, u_look1, u_look2, u_next])⟩ (Nat.zero_le _) (Nat.zero_le _)
      · skip
        refine qr_aload_n (pc := 33) d_cu_lookAtStage_33 rfl rfl ?_
        refine qr_iconst (v := 1) (pc := 34) d_cu_lookAtStage_34 (by decide) ?_
        refine qr_putI (pc := 35) d_cu_lookAtStage_35 fl_cu_19 hq.1 hq.1 (hq.2.2.1 _ _) (Nat.le_of_ble_eq_true rfl) (qFit_i _) (fun w => (hq.2.2.1 (upd (I q) 2 w) (L q)).symm) ?_
        refine qr_iload_n (pc := 38) d_cu_lookAtStage_38 rfl rfl ?_
        refine qr_if_ne (tgt := 55) (pc := 39) d_cu_lookAtStage_39 (by decide) (fun h39 => ?_) (fun h39 => ?_)
        · skip
          refine qr_aload_n (pc := 55) d_cu_lookAtStage_55 rfl rfl ?_
          refine qr_iload_n (pc := 56) d_cu_lookAtStage_56 rfl rfl ?_
          refine qr_putI (pc := 57) d_cu_lookAtStage_57 fl_cu_23 hq.1 hq.1 (hq.2.2.1 _ _) (Nat.le_of_ble_eq_true rfl) (qFit_i _) (fun w => (hq.2.2.1 (upd ((wI I q 2 1) q) 3 w) (L q)).symm) ?_
          exact qr_vret (pc := 60) d_cu_lookAtStage_60 rfl ⟨rfl, rfl, (by grind [u_look, u_look1, u_look2, u_next])⟩ (Nat.zero_le _) (Nat.zero_le _)
        · skip
          refine qr_aload_n (pc := 42) d_cu_lookAtStage_42 rfl rfl ?_
          refine qr_get (v := .int (I q 3)) (pc := 43) d_cu_lookAtStage_43 fl_cu_23 hq.1 hq.1 (hq.2.2.1 _ _) (by simp [wI, wL, va_up, upd, vp_updL]) ?_
          refine qr_iconst (v := 3) (pc := 46) d_cu_lookAtStage_46 (by decide) ?_
          refine qr_icmp_ne (tgt := 55) (pc := 47) d_cu_lookAtStage_47 (by decide) (fun h47 => ?_) (fun h47 => ?_)
          · skip
            refine qr_aload_n (pc := 55) d_cu_lookAtStage_55 rfl rfl ?_
            refine qr_iload_n (pc := 56) d_cu_lookAtStage_56 rfl rfl ?_
            refine qr_putI (pc := 57) d_cu_lookAtStage_57 fl_cu_23 hq.1 hq.1 (hq.2.2.1 _ _) (Nat.le_of_ble_eq_true rfl) (qFit_i _) (fun w => (hq.2.2.1 (upd ((wI I q 2 1) q) 3 w) (L q)).symm) ?_
            exact qr_vret (pc := 60) d_cu_lookAtStage_60 rfl ⟨rfl, rfl, (by grind [u_look, u_look1, u_look2, u_next])⟩ (Nat.zero_le _) (Nat.zero_le _)
          · skip
            refine qr_aload_n (pc := 50) d_cu_lookAtStage_50 rfl rfl ?_
            refine qr_iconst (v := 0) (pc := 51) d_cu_lookAtStage_51 (by decide) ?_
            refine qr_putI (pc := 52) d_cu_lookAtStage_52 fl_cu_19 hq.1 hq.1 (hq.2.2.1 _ _) (Nat.le_of_ble_eq_true rfl) (qFit_i _) (fun w => (hq.2.2.1 (upd ((wI I q 2 1) q) 2 w) (L q)).symm) ?_
            refine qr_aload_n (pc := 55) d_cu_lookAtStage_55 rfl rfl ?_
            refine qr_iload_n (pc := 56) d_cu_lookAtStage_56 rfl rfl ?_
            refine qr_putI (pc := 57) d_cu_lookAtStage_57 fl_cu_23 hq.1 hq.1 (hq.2.2.1 _ _) (Nat.le_of_ble_eq_true rfl) (qFit_i _) (fun w => (hq.2.2.1 (upd ((wI (wI I q 2 1) q 2 0) q) 3 w) (L q)).symm) ?_
            exact qr_vret (pc := 60) d_cu_lookAtStage_60 rfl ⟨rfl, rfl, (by grind [u_look, u_look1, u_look2, u_next])⟩ (Nat.zero_le _) (Nat.zero_le _)
  · skip
    refine qr_iconst (v := 0) (pc := 4) d_cu_lookAtStage_4 (by decide) ?_
    refine qr_goto (tgt := 19) (pc := 5) d_cu_lookAtStage_5 (by decide) ?_
    refine qr_istore_n (lv' := [(2, .int 0), (0, .ref q), (1, .int d)]) (pc := 19) d_cu_lookAtStage_19 rfl (Nat.le_of_ble_eq_true rfl) rfl ?_
    refine qr_iload_n (pc := 20) d_cu_lookAtStage_20 rfl rfl ?_
    refine qr_iconst (v := 3) (pc := 21) d_cu_lookAtStage_21 (by decide) ?_
    refine qr_icmp_ne (tgt := 38) (pc := 22) d_cu_lookAtStage_22 (by decide) (fun _ => ?_) (fun h22 => absurd h22 (by decide))
    refine qr_iload_n (pc := 38) d_cu_lookAtStage_38 rfl rfl ?_
    refine qr_if_ne (tgt := 55) (pc := 39) d_cu_lookAtStage_39 (by decide) (fun h39 => absurd h39 (by decide)) (fun _ => ?_)
    refine qr_aload_n (pc := 42) d_cu_lookAtStage_42 rfl rfl ?_
    refine qr_get (v := .int (I q 3)) (pc := 43) d_cu_lookAtStage_43 fl_cu_23 hq.1 hq.1 (hq.2.2.1 _ _) rfl ?_
    refine qr_iconst (v := 3) (pc := 46) d_cu_lookAtStage_46 (by decide) ?_
    refine qr_icmp_ne (tgt := 55) (pc := 47) d_cu_lookAtStage_47 (by decide) (fun h47 => ?_) (fun h47 => ?_)
    · skip
      refine qr_aload_n (pc := 55) d_cu_lookAtStage_55 rfl rfl ?_
      refine qr_iload_n (pc := 56) d_cu_lookAtStage_56 rfl rfl ?_
      refine qr_putI (pc := 57) d_cu_lookAtStage_57 fl_cu_23 hq.1 hq.1 (hq.2.2.1 _ _) (Nat.le_of_ble_eq_true rfl) (qFit_i _) (fun w => (hq.2.2.1 (upd (I q) 3 w) (L q)).symm) ?_
      exact qr_vret (pc := 60) d_cu_lookAtStage_60 rfl ⟨rfl, rfl, (by grind [u_look, u_look1, u_look2, u_next])⟩ (Nat.zero_le _) (Nat.zero_le _)
    · skip
      refine qr_aload_n (pc := 50) d_cu_lookAtStage_50 rfl rfl ?_
      refine qr_iconst (v := 0) (pc := 51) d_cu_lookAtStage_51 (by decide) ?_
      refine qr_putI (pc := 52) d_cu_lookAtStage_52 fl_cu_19 hq.1 hq.1 (hq.2.2.1 _ _) (Nat.le_of_ble_eq_true rfl) (qFit_i _) (fun w => (hq.2.2.1 (upd (I q) 2 w) (L q)).symm) ?_
      refine qr_aload_n (pc := 55) d_cu_lookAtStage_55 rfl rfl ?_
      refine qr_iload_n (pc := 56) d_cu_lookAtStage_56 rfl rfl ?_
      refine qr_putI (pc := 57) d_cu_lookAtStage_57 fl_cu_23 hq.1 hq.1 (hq.2.2.1 _ _) (Nat.le_of_ble_eq_true rfl) (qFit_i _) (fun w => (hq.2.2.1 (upd ((wI I q 2 0) q) 3 w) (L q)).symm) ?_
      exact qr_vret (pc := 60) d_cu_lookAtStage_60 rfl ⟨rfl, rfl, (by grind [u_look, u_look1, u_look2, u_next])⟩ (Nat.zero_le _) (Nat.zero_le _)
