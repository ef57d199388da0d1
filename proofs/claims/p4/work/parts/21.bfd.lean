/-- an answer and a world under a condition; a throw with a world, what is thrown under its conditions -/
def qE2 (c : Prop) (v : Option Value) (f : Nat → va_E) : qE := fun v' n' f' => c ∧ v = v' ∧ 77 = n' ∧ f = f'
def qX2 (f : Nat → va_E) (P : String → Prop) : qXC := fun En n' f' => P En ∧ 77 = n' ∧ f = f'
theorem isN0 (t n : Int32) : ((if t < 0 then (0 : Int32) else if n ≤ t then 0 else 1) = 0) ↔ (t < 0 ∨ n ≤ t) := by
  by_cases h1 : t < 0
  · simp [h1]
  · by_cases h2 : n ≤ t <;> simp [h1, h2]
theorem isP0 (a : Int64) : ((if a < 1 then (0 : Int32) else if 1000000 < a then 0 else 1) = 0) ↔ (a < 1 ∨ 1000000 < a) := by
  by_cases h1 : a < 1
  · simp [h1]
  · by_cases h2 : 1000000 < a <;> simp [h1, h2]
theorem isN_nI {t : Int32} (n : Nat) (h : ¬ (t < 0 ∨ nI n ≤ t)) : ∃ k : Nat, k < n ∧ t = nI k := by
  have h1 : ¬ t < 0 := fun q => h (Or.inl q)
  have h2 : ¬ nI n ≤ t := fun q => h (Or.inr q)
  obtain ⟨k, hk, rfl⟩ := nI_of h1
  exact ⟨k, Nat.not_le.mp (fun q => h2 (nI_le q hk)), rfl⟩
abbrev xA : String := "java/lang/IllegalArgumentException"
abbrev xS : String := "java/lang/IllegalStateException"
abbrev xI : String := "java/lang/IndexOutOfBoundsException"
abbrev xN : String := "java/util/NoSuchElementException"
def noC (c : Int32) : Prop := c < 0 ∨ 5 ≤ c
def noT (t : Int32) : Prop := t < 0 ∨ 3 ≤ t
def noP (a : Int64) : Prop := a < 1 ∨ 1000000 < a
set_option maxRecDepth 10000 in
theorem r_bf_subscribe (l : Launch) (x : Bool) (I : Nat → Nat → Int32) (L : Nat → Nat → Int64) (c t : Int32) : qR (l, y_bf_subscribe.cls, b_bf_subscribe, 4, (some .int), false, x, 9, 1, 6, 77, q0) (qE2 (¬ noC c ∧ (t = -1 ∨ ¬ noT t)) (some (.int (I (37 + 2 * c.toNatClampNeg) 1))) (fm (wI (wI I (37 + 2 * c.toNatClampNeg) 1 t) (37 + 2 * c.toNatClampNeg) 2 (if I (37 + 2 * c.toNatClampNeg) 3 = 3 then 1 else 0)) L)) (qX2 (fm I L) (fun En => En = xA ∧ ¬ (¬ noC c ∧ (t = -1 ∨ ¬ noT t)))) 0 [(0, .ref 0), (1, .int c), (2, .int t)] [] 77 0 0 (fm I L) := by
  refine qr_iload_n (pc := 0) d_bf_subscribe_0 rfl rfl ?_
  refine qr_callS (As := [.int c]) (pc := 1) d_bf_subscribe_1 lk_bf_127 sm_bf_isCustomer (s_bf_isCustomer _ x _ _ c) rfl rfl (Nat.le_of_ble_eq_true rfl) (Nat.le_of_ble_eq_true rfl) (Nat.le_of_ble_eq_true rfl) (Nat.zero_le _) (Nat.zero_le _) (fun h => ⟨h, rfl, Or.inl rfl⟩) (fun v n9 f9 hE1 => ?_)
  obtain ⟨rfl, rfl, rfl⟩ := hE1
  refine qr_if_eq (tgt := 19) (pc := 4) d_bf_subscribe_4 (by decide) (fun h4 => ?_) (fun h4 => ?_)
  · skip
    rw [isN0] at h4
    exact qr_throw (pc := 19) ⟨80, 82, d_bf_subscribe_19, d_bf_subscribe_22, d_bf_subscribe_23, d_bf_subscribe_26, cl_bf_80, ie_IllegalArgumentException, th_IllegalArgumentException, (by decide +kernel)⟩ (Nat.le_of_ble_eq_true rfl) ⟨⟨rfl, by simp [noC, noT, *]⟩, rfl, rfl⟩ (Nat.le_of_ble_eq_true rfl) (Nat.le_of_ble_eq_true rfl)
  · skip
    rw [isN0] at h4
    refine qr_iload_n (pc := 7) d_bf_subscribe_7 rfl rfl ?_
    refine qr_iconst (v := (-1)) (pc := 8) d_bf_subscribe_8 (by decide) ?_
    refine qr_icmp_eq (tgt := 27) (pc := 9) d_bf_subscribe_9 (by decide) (fun h9 => ?_) (fun h9 => ?_)
    · skip
      obtain ⟨c9, hc9, rfl⟩ := isN_nI 5 h4
      have hc : c9 < 5 := hc9
      have ccl : (nI c9).toNatClampNeg = c9 := nI_clamp (by omega)
      refine qr_aload_n (pc := 27) d_bf_subscribe_27 rfl rfl ?_
      refine qr_get (v := .ref 8) (pc := 28) d_bf_subscribe_28 fl_bf_24 (by decide) (by decide) (c_0 _ _) rfl ?_
      refine qr_iload_n (pc := 31) d_bf_subscribe_31 rfl rfl ?_
      refine qr_aald (w := 37 + 2 * c9) (pc := 32) d_bf_subscribe_32 (by decide) (by decide) (c_8 _ _) rfl (vp_in_nI (by omega) (by decide)) (aal_8 (by omega)) ?_
      refine qr_callV (q := 37 + 2 * c9) (As := []) (pc := 33) d_bf_subscribe_33 lk_bf_130 im_cu_tariffNow se_cu_tariffNow rfl (isCu_c hc).1 (isCu_c hc).1 ((isCu_c hc).2.2.1 _ _) (s_cu_tariffNow _ x I L (37 + 2 * c9) (38 + 2 * c9) (isCu_c hc)) rfl rfl (Nat.le_of_ble_eq_true rfl) (Nat.le_of_ble_eq_true rfl) (Nat.le_of_ble_eq_true rfl) (Nat.zero_le _) (Nat.zero_le _) (fun h => ⟨h, rfl, Or.inl rfl⟩) (fun v n9 f9 hE33 => ?_)
      obtain ⟨rfl, rfl, rfl⟩ := hE33
      refine qr_istore_n (lv' := [(3, .int (I (37 + 2 * c9) 1)), (0, .ref 0), (1, .int (nI c9)), (2, .int t)]) (pc := 36) d_bf_subscribe_36 rfl (Nat.le_of_ble_eq_true rfl) rfl ?_
      refine qr_aload_n (pc := 37) d_bf_subscribe_37 rfl rfl ?_
      refine qr_get (v := .ref 8) (pc := 38) d_bf_subscribe_38 fl_bf_24 (by decide) (by decide) (c_0 _ _) rfl ?_
      refine qr_iload_n (pc := 41) d_bf_subscribe_41 rfl rfl ?_
      refine qr_aald (w := 37 + 2 * c9) (pc := 42) d_bf_subscribe_42 (by decide) (by decide) (c_8 _ _) rfl (vp_in_nI (by omega) (by decide)) (aal_8 (by omega)) ?_
      refine qr_iload_n (pc := 43) d_bf_subscribe_43 rfl rfl ?_
      refine qr_callV (q := 37 + 2 * c9) (As := [.int t]) (pc := 44) d_bf_subscribe_44 lk_bf_133 im_cu_changeTariff se_cu_changeTariff rfl (isCu_c hc).1 (isCu_c hc).1 ((isCu_c hc).2.2.1 _ _) (s_cu_changeTariff _ x I L (37 + 2 * c9) (38 + 2 * c9) (isCu_c hc) t) rfl rfl (Nat.le_of_ble_eq_true rfl) (Nat.le_of_ble_eq_true rfl) (Nat.le_of_ble_eq_true rfl) (Nat.zero_le _) (Nat.zero_le _) (fun h => ⟨h, rfl, Or.inl rfl⟩) (fun v n9 f9 hE44 => ?_)
      obtain ⟨rfl, rfl, rfl⟩ := hE44
      refine qr_iload_n (pc := 47) d_bf_subscribe_47 rfl rfl ?_
      exact qr_iret (pc := 48) d_bf_subscribe_48 rfl rfl ⟨(by simp [noC, noT, *]), (by simp [*]), rfl, (by simp [*])⟩ (Nat.zero_le _) (Nat.zero_le _)
    · skip
      refine qr_iload_n (pc := 12) d_bf_subscribe_12 rfl rfl ?_
      refine qr_callS (As := [.int t]) (pc := 13) d_bf_subscribe_13 lk_bf_94 sm_bf_isTariff (s_bf_isTariff _ x _ _ t) rfl rfl (Nat.le_of_ble_eq_true rfl) (Nat.le_of_ble_eq_true rfl) (Nat.le_of_ble_eq_true rfl) (Nat.zero_le _) (Nat.zero_le _) (fun h => ⟨h, rfl, Or.inl rfl⟩) (fun v n9 f9 hE13 => ?_)
      obtain ⟨rfl, rfl, rfl⟩ := hE13
      refine qr_if_ne (tgt := 27) (pc := 16) d_bf_subscribe_16 (by decide) (fun h16 => ?_) (fun h16 => ?_)
      · skip
        rw [isN0] at h16
        obtain ⟨c9, hc9, rfl⟩ := isN_nI 5 h4
        have hc : c9 < 5 := hc9
        have ccl : (nI c9).toNatClampNeg = c9 := nI_clamp (by omega)
        refine qr_aload_n (pc := 27) d_bf_subscribe_27 rfl rfl ?_
        refine qr_get (v := .ref 8) (pc := 28) d_bf_subscribe_28 fl_bf_24 (by decide) (by decide) (c_0 _ _) rfl ?_
        refine qr_iload_n (pc := 31) d_bf_subscribe_31 rfl rfl ?_
        refine qr_aald (w := 37 + 2 * c9) (pc := 32) d_bf_subscribe_32 (by decide) (by decide) (c_8 _ _) rfl (vp_in_nI (by omega) (by decide)) (aal_8 (by omega)) ?_
        refine qr_callV (q := 37 + 2 * c9) (As := []) (pc := 33) d_bf_subscribe_33 lk_bf_130 im_cu_tariffNow se_cu_tariffNow rfl (isCu_c hc).1 (isCu_c hc).1 ((isCu_c hc).2.2.1 _ _) (s_cu_tariffNow _ x I L (37 + 2 * c9) (38 + 2 * c9) (isCu_c hc)) rfl rfl (Nat.le_of_ble_eq_true rfl) (Nat.le_of_ble_eq_true rfl) (Nat.le_of_ble_eq_true rfl) (Nat.zero_le _) (Nat.zero_le _) (fun h => ⟨h, rfl, Or.inl rfl⟩) (fun v n9 f9 hE33 => ?_)
        obtain ⟨rfl, rfl, rfl⟩ := hE33
        refine qr_istore_n (lv' := [(3, .int (I (37 + 2 * c9) 1)), (0, .ref 0), (1, .int (nI c9)), (2, .int t)]) (pc := 36) d_bf_subscribe_36 rfl (Nat.le_of_ble_eq_true rfl) rfl ?_
        refine qr_aload_n (pc := 37) d_bf_subscribe_37 rfl rfl ?_
        refine qr_get (v := .ref 8) (pc := 38) d_bf_subscribe_38 fl_bf_24 (by decide) (by decide) (c_0 _ _) rfl ?_
        refine qr_iload_n (pc := 41) d_bf_subscribe_41 rfl rfl ?_
        refine qr_aald (w := 37 + 2 * c9) (pc := 42) d_bf_subscribe_42 (by decide) (by decide) (c_8 _ _) rfl (vp_in_nI (by omega) (by decide)) (aal_8 (by omega)) ?_
        refine qr_iload_n (pc := 43) d_bf_subscribe_43 rfl rfl ?_
        refine qr_callV (q := 37 + 2 * c9) (As := [.int t]) (pc := 44) d_bf_subscribe_44 lk_bf_133 im_cu_changeTariff se_cu_changeTariff rfl (isCu_c hc).1 (isCu_c hc).1 ((isCu_c hc).2.2.1 _ _) (s_cu_changeTariff _ x I L (37 + 2 * c9) (38 + 2 * c9) (isCu_c hc) t) rfl rfl (Nat.le_of_ble_eq_true rfl) (Nat.le_of_ble_eq_true rfl) (Nat.le_of_ble_eq_true rfl) (Nat.zero_le _) (Nat.zero_le _) (fun h => ⟨h, rfl, Or.inl rfl⟩) (fun v n9 f9 hE44 => ?_)
        obtain ⟨rfl, rfl, rfl⟩ := hE44
        refine qr_iload_n (pc := 47) d_bf_subscribe_47 rfl rfl ?_
        exact qr_iret (pc := 48) d_bf_subscribe_48 rfl rfl ⟨(by simp [noC, noT, *]), (by simp [*]), rfl, (by simp [*])⟩ (Nat.zero_le _) (Nat.zero_le _)
      · skip
        rw [isN0] at h16
        exact qr_throw (pc := 19) ⟨80, 82, d_bf_subscribe_19, d_bf_subscribe_22, d_bf_subscribe_23, d_bf_subscribe_26, cl_bf_80, ie_IllegalArgumentException, th_IllegalArgumentException, (by decide +kernel)⟩ (Nat.le_of_ble_eq_true rfl) ⟨⟨rfl, by simp [noC, noT, *]⟩, rfl, rfl⟩ (Nat.le_of_ble_eq_true rfl) (Nat.le_of_ble_eq_true rfl)
