/-! tariff of the class -/
/-- what is thrown leaves worlds of its own -/
def qX3 (P : String → (Nat → va_E) → Prop) : qXC := fun En n' f' => P En f' ∧ 77 = n'
/-- a TARIFF is laid into the row t, THE TEXT is emptied -/
def u_tr (I : Nat → Nat → Int32) (n t : Nat) : Nat → Nat → Int32 := wI (u_cp (u_ra9 I n) (28 + 3 * t) (29 + 3 * t) (30 + 3 * t) 4) 1 3 0
theorem u_cp_c {I : Nat → Nat → Int32} {q e p k : Nat} (h1 : k ≠ q) (h2 : k ≠ e) (h3 : k ≠ p) : ∀ j, u_cp I q e p j k = I k
  | 0 => by
    show u_cpF I q k = I k
    unfold u_cpF
    rw [wI_c9 h1, wI_c9 h1, wI_c9 h1, wI_c9 h1, wI_c9 h1, wI_c9 h1, wI_c9 h1]
  | j + 1 => by
    show wI (wI (u_cp I q e p j) e j _) p j _ k = I k
    rw [wI_c9 h3, wI_c9 h2, u_cp_c h1 h2 h3 j]
set_option maxRecDepth 10000 in
theorem r_bf_tariff (l : Launch) (x : Bool) (I : Nat → Nat → Int32) (L : Nat → Nat → Int64) (n : Nat) (hn : I 1 3 = nI n) (hn2 : n ≤ 60) (t : Int32) : qR (l, y_bf_tariff.cls, b_bf_tariff, 2, (some .int), false, x, 9, 1, 6, 77, q0) (qE2 (¬ noT t ∧ u_ra9 I n 1 6 = -2) (some (.int (u_ra9 I n 1 5))) (fm (u_tr I n t.toNatClampNeg) L)) (qX3 (fun En f' => En = xA ∧ ((noT t ∧ fm (wI I 1 6 (-2)) L = f') ∨ (¬ noT t ∧ ¬ u_ra9 I n 1 6 = -2 ∧ fm (u_ra9 I n) L = f')))) 0 [(0, .ref 0), (1, .int t)] [] 77 0 0 (fm I L) := by
  refine qr_iload_n (pc := 0) d_bf_tariff_0 rfl rfl ?_
  refine qr_callS (As := [.int t]) (pc := 1) d_bf_tariff_1 lk_bf_94 sm_bf_isTariff (s_bf_isTariff _ x _ _ t) rfl rfl (Nat.le_of_ble_eq_true rfl) (Nat.le_of_ble_eq_true rfl) (Nat.le_of_ble_eq_true rfl) (Nat.zero_le _) (Nat.zero_le _) (fun h => ⟨h, rfl, Or.inl rfl⟩) (fun v n9 f9 hE => ?_)
  obtain ⟨rfl, rfl, rfl⟩ := hE
  refine qr_if_ne (tgt := 22) (pc := 4) d_bf_tariff_4 (by decide) (fun h4 => ?_) (fun h4 => ?_)
  · have hT : ¬ noT t := by
      intro q
      apply h4
      rcases q with q | q
      · rw [if_pos q]
      · by_cases q0 : t < 0
        · rw [if_pos q0]
        · rw [if_neg q0, if_pos q]
    refine qr_aload_n (pc := 22) d_bf_tariff_22 rfl rfl ?_
    refine qr_get (v := .ref 1) (pc := 23) d_bf_tariff_23 fl_bf_10 (by decide) (by decide) (c_0 _ _) rfl ?_
    refine qr_callV (q := 1) (As := []) (pc := 26) d_bf_tariff_26 lk_bf_101 im_tr_readAll se_tr_readAll rfl (by decide) (by decide) (c_1 _ _) (s_tr_readAll _ x I L n hn hn2) rfl rfl (Nat.le_of_ble_eq_true rfl) (Nat.le_of_ble_eq_true rfl) (Nat.le_of_ble_eq_true rfl) (Nat.zero_le _) (Nat.zero_le _) (fun h => ⟨h, rfl, Or.inl rfl⟩) (fun v n9 f9 hE => ?_)
    obtain ⟨rfl, rfl, rfl⟩ := hE
    refine qr_if_ne (tgt := 40) (pc := 29) d_bf_tariff_29 (by decide) (fun h29 => ?_) (fun h29 => ?_)
    · have hF : u_ra9 I n 1 6 = -2 := by
        by_cases q : u_ra9 I n 1 6 = -2
        · exact q
        · rw [if_neg q] at h29
          exact absurd rfl h29
      have h1 : ¬ t < 0 := fun q => hT (Or.inl q)
      obtain ⟨j, hj, rfl⟩ := nI_of h1
      have h2 : ¬ nI 3 ≤ nI j := fun q => hT (Or.inr q)
      rw [nI_leI (by decide) hj] at h2
      rw [nI_clamp hj]
      match j, (show j < 3 by omega) with
      | 0, _ =>
        refine qr_aload_n (pc := 40) d_bf_tariff_40 rfl rfl ?_
        refine qr_get (v := .ref 7) (pc := 41) d_bf_tariff_41 fl_bf_18 (by decide) (by decide) (c_0 _ _) rfl ?_
        refine qr_iload_n (pc := 44) d_bf_tariff_44 rfl rfl ?_
        refine qr_aald (w := 28) (pc := 45) d_bf_tariff_45 (by decide) (by decide) (c_7 _ _) rfl (vp_in_nI (by decide) (by decide)) (aal_7 (by decide)) ?_
        refine qr_aload_n (pc := 46) d_bf_tariff_46 rfl rfl ?_
        refine qr_get (v := .ref 1) (pc := 47) d_bf_tariff_47 fl_bf_10 (by decide) (by decide) (c_0 _ _) rfl ?_
        refine qr_callV (q := 1) (As := []) (pc := 50) d_bf_tariff_50 lk_bf_105 im_tr_draft se_tr_draft rfl (by decide) (by decide) (c_1 _ _) (s_tr_draft _ x _ _) rfl rfl (Nat.le_of_ble_eq_true rfl) (Nat.le_of_ble_eq_true rfl) (Nat.le_of_ble_eq_true rfl) (Nat.zero_le _) (Nat.zero_le _) (fun h => ⟨h, rfl, Or.inl rfl⟩) (fun v n9 f9 hE => ?_)
        obtain ⟨rfl, rfl, rfl⟩ := hE
        refine qr_callV (q := 28) (As := [.ref 4]) (pc := 53) d_bf_tariff_53 lk_bf_109 im_tf_copyFrom se_tf_copyFrom rfl (by decide) (by decide) (c_28 _ _) (s_tf_copyFrom_28 _ x _ _) rfl rfl (Nat.le_of_ble_eq_true rfl) (Nat.le_of_ble_eq_true rfl) (Nat.le_of_ble_eq_true rfl) (Nat.zero_le _) (Nat.zero_le _) (fun h => ⟨h, rfl, Or.inl rfl⟩) (fun v n9 f9 hE => ?_)
        obtain ⟨rfl, rfl, rfl⟩ := hE
        refine qr_aload_n (pc := 56) d_bf_tariff_56 rfl rfl ?_
        refine qr_get (v := .ref 1) (pc := 57) d_bf_tariff_57 fl_bf_10 (by decide) (by decide) (c_0 _ _) rfl ?_
        refine qr_callV (q := 1) (As := []) (pc := 60) d_bf_tariff_60 lk_bf_113 im_tr_empty se_tr_empty rfl (by decide) (by decide) (c_1 _ _) (s_tr_empty _ x _ _) rfl rfl (Nat.le_of_ble_eq_true rfl) (Nat.le_of_ble_eq_true rfl) (Nat.le_of_ble_eq_true rfl) (Nat.zero_le _) (Nat.zero_le _) (fun h => ⟨h, rfl, Or.inl rfl⟩) (fun v n9 f9 hE => ?_)
        obtain ⟨rfl, rfl, rfl⟩ := hE
        refine qr_aload_n (pc := 63) d_bf_tariff_63 rfl rfl ?_
        refine qr_get (v := .ref 1) (pc := 64) d_bf_tariff_64 fl_bf_10 (by decide) (by decide) (c_0 _ _) rfl ?_
        refine qr_callV (q := 1) (As := []) (pc := 67) d_bf_tariff_67 lk_bf_116 im_tr_parts se_tr_parts rfl (by decide) (by decide) (c_1 _ _) (s_tr_parts _ x _ _) rfl rfl (Nat.le_of_ble_eq_true rfl) (Nat.le_of_ble_eq_true rfl) (Nat.le_of_ble_eq_true rfl) (Nat.zero_le _) (Nat.zero_le _) (fun h => ⟨h, rfl, Or.inl rfl⟩) (fun v n9 f9 hE => ?_)
        obtain ⟨rfl, rfl, rfl⟩ := hE
        exact qr_iret (pc := 70) d_bf_tariff_70 rfl rfl ⟨⟨hT, hF⟩, congrArg (fun t => some (Value.int t)) (by rw [wI_ne (Or.inr (by decide)), u_cp_c (by decide) (by decide) (by decide)]), rfl, rfl⟩ (Nat.zero_le _) (Nat.zero_le _)
      | 1, _ =>
        refine qr_aload_n (pc := 40) d_bf_tariff_40 rfl rfl ?_
        refine qr_get (v := .ref 7) (pc := 41) d_bf_tariff_41 fl_bf_18 (by decide) (by decide) (c_0 _ _) rfl ?_
        refine qr_iload_n (pc := 44) d_bf_tariff_44 rfl rfl ?_
        refine qr_aald (w := 31) (pc := 45) d_bf_tariff_45 (by decide) (by decide) (c_7 _ _) rfl (vp_in_nI (by decide) (by decide)) (aal_7 (by decide)) ?_
        refine qr_aload_n (pc := 46) d_bf_tariff_46 rfl rfl ?_
        refine qr_get (v := .ref 1) (pc := 47) d_bf_tariff_47 fl_bf_10 (by decide) (by decide) (c_0 _ _) rfl ?_
        refine qr_callV (q := 1) (As := []) (pc := 50) d_bf_tariff_50 lk_bf_105 im_tr_draft se_tr_draft rfl (by decide) (by decide) (c_1 _ _) (s_tr_draft _ x _ _) rfl rfl (Nat.le_of_ble_eq_true rfl) (Nat.le_of_ble_eq_true rfl) (Nat.le_of_ble_eq_true rfl) (Nat.zero_le _) (Nat.zero_le _) (fun h => ⟨h, rfl, Or.inl rfl⟩) (fun v n9 f9 hE => ?_)
        obtain ⟨rfl, rfl, rfl⟩ := hE
        refine qr_callV (q := 31) (As := [.ref 4]) (pc := 53) d_bf_tariff_53 lk_bf_109 im_tf_copyFrom se_tf_copyFrom rfl (by decide) (by decide) (c_31 _ _) (s_tf_copyFrom_31 _ x _ _) rfl rfl (Nat.le_of_ble_eq_true rfl) (Nat.le_of_ble_eq_true rfl) (Nat.le_of_ble_eq_true rfl) (Nat.zero_le _) (Nat.zero_le _) (fun h => ⟨h, rfl, Or.inl rfl⟩) (fun v n9 f9 hE => ?_)
        obtain ⟨rfl, rfl, rfl⟩ := hE
        refine qr_aload_n (pc := 56) d_bf_tariff_56 rfl rfl ?_
        refine qr_get (v := .ref 1) (pc := 57) d_bf_tariff_57 fl_bf_10 (by decide) (by decide) (c_0 _ _) rfl ?_
        refine qr_callV (q := 1) (As := []) (pc := 60) d_bf_tariff_60 lk_bf_113 im_tr_empty se_tr_empty rfl (by decide) (by decide) (c_1 _ _) (s_tr_empty _ x _ _) rfl rfl (Nat.le_of_ble_eq_true rfl) (Nat.le_of_ble_eq_true rfl) (Nat.le_of_ble_eq_true rfl) (Nat.zero_le _) (Nat.zero_le _) (fun h => ⟨h, rfl, Or.inl rfl⟩) (fun v n9 f9 hE => ?_)
        obtain ⟨rfl, rfl, rfl⟩ := hE
        refine qr_aload_n (pc := 63) d_bf_tariff_63 rfl rfl ?_
        refine qr_get (v := .ref 1) (pc := 64) d_bf_tariff_64 fl_bf_10 (by decide) (by decide) (c_0 _ _) rfl ?_
        refine qr_callV (q := 1) (As := []) (pc := 67) d_bf_tariff_67 lk_bf_116 im_tr_parts se_tr_parts rfl (by decide) (by decide) (c_1 _ _) (s_tr_parts _ x _ _) rfl rfl (Nat.le_of_ble_eq_true rfl) (Nat.le_of_ble_eq_true rfl) (Nat.le_of_ble_eq_true rfl) (Nat.zero_le _) (Nat.zero_le _) (fun h => ⟨h, rfl, Or.inl rfl⟩) (fun v n9 f9 hE => ?_)
        obtain ⟨rfl, rfl, rfl⟩ := hE
        exact qr_iret (pc := 70) d_bf_tariff_70 rfl rfl ⟨⟨hT, hF⟩, congrArg (fun t => some (Value.int t)) (by rw [wI_ne (Or.inr (by decide)), u_cp_c (by decide) (by decide) (by decide)]), rfl, rfl⟩ (Nat.zero_le _) (Nat.zero_le _)
      | 2, _ =>
        refine qr_aload_n (pc := 40) d_bf_tariff_40 rfl rfl ?_
        refine qr_get (v := .ref 7) (pc := 41) d_bf_tariff_41 fl_bf_18 (by decide) (by decide) (c_0 _ _) rfl ?_
        refine qr_iload_n (pc := 44) d_bf_tariff_44 rfl rfl ?_
        refine qr_aald (w := 34) (pc := 45) d_bf_tariff_45 (by decide) (by decide) (c_7 _ _) rfl (vp_in_nI (by decide) (by decide)) (aal_7 (by decide)) ?_
        refine qr_aload_n (pc := 46) d_bf_tariff_46 rfl rfl ?_
        refine qr_get (v := .ref 1) (pc := 47) d_bf_tariff_47 fl_bf_10 (by decide) (by decide) (c_0 _ _) rfl ?_
        refine qr_callV (q := 1) (As := []) (pc := 50) d_bf_tariff_50 lk_bf_105 im_tr_draft se_tr_draft rfl (by decide) (by decide) (c_1 _ _) (s_tr_draft _ x _ _) rfl rfl (Nat.le_of_ble_eq_true rfl) (Nat.le_of_ble_eq_true rfl) (Nat.le_of_ble_eq_true rfl) (Nat.zero_le _) (Nat.zero_le _) (fun h => ⟨h, rfl, Or.inl rfl⟩) (fun v n9 f9 hE => ?_)
        obtain ⟨rfl, rfl, rfl⟩ := hE
        refine qr_callV (q := 34) (As := [.ref 4]) (pc := 53) d_bf_tariff_53 lk_bf_109 im_tf_copyFrom se_tf_copyFrom rfl (by decide) (by decide) (c_34 _ _) (s_tf_copyFrom_34 _ x _ _) rfl rfl (Nat.le_of_ble_eq_true rfl) (Nat.le_of_ble_eq_true rfl) (Nat.le_of_ble_eq_true rfl) (Nat.zero_le _) (Nat.zero_le _) (fun h => ⟨h, rfl, Or.inl rfl⟩) (fun v n9 f9 hE => ?_)
        obtain ⟨rfl, rfl, rfl⟩ := hE
        refine qr_aload_n (pc := 56) d_bf_tariff_56 rfl rfl ?_
        refine qr_get (v := .ref 1) (pc := 57) d_bf_tariff_57 fl_bf_10 (by decide) (by decide) (c_0 _ _) rfl ?_
        refine qr_callV (q := 1) (As := []) (pc := 60) d_bf_tariff_60 lk_bf_113 im_tr_empty se_tr_empty rfl (by decide) (by decide) (c_1 _ _) (s_tr_empty _ x _ _) rfl rfl (Nat.le_of_ble_eq_true rfl) (Nat.le_of_ble_eq_true rfl) (Nat.le_of_ble_eq_true rfl) (Nat.zero_le _) (Nat.zero_le _) (fun h => ⟨h, rfl, Or.inl rfl⟩) (fun v n9 f9 hE => ?_)
        obtain ⟨rfl, rfl, rfl⟩ := hE
        refine qr_aload_n (pc := 63) d_bf_tariff_63 rfl rfl ?_
        refine qr_get (v := .ref 1) (pc := 64) d_bf_tariff_64 fl_bf_10 (by decide) (by decide) (c_0 _ _) rfl ?_
        refine qr_callV (q := 1) (As := []) (pc := 67) d_bf_tariff_67 lk_bf_116 im_tr_parts se_tr_parts rfl (by decide) (by decide) (c_1 _ _) (s_tr_parts _ x _ _) rfl rfl (Nat.le_of_ble_eq_true rfl) (Nat.le_of_ble_eq_true rfl) (Nat.le_of_ble_eq_true rfl) (Nat.zero_le _) (Nat.zero_le _) (fun h => ⟨h, rfl, Or.inl rfl⟩) (fun v n9 f9 hE => ?_)
        obtain ⟨rfl, rfl, rfl⟩ := hE
        exact qr_iret (pc := 70) d_bf_tariff_70 rfl rfl ⟨⟨hT, hF⟩, congrArg (fun t => some (Value.int t)) (by rw [wI_ne (Or.inr (by decide)), u_cp_c (by decide) (by decide) (by decide)]), rfl, rfl⟩ (Nat.zero_le _) (Nat.zero_le _)
    · have hF : ¬ u_ra9 I n 1 6 = -2 := by
        intro q
        rw [if_pos q] at h29
        exact absurd h29 (by decide)
      exact qr_throw (pc := 32) ⟨80, 82, d_bf_tariff_32, d_bf_tariff_35, d_bf_tariff_36, d_bf_tariff_39, cl_bf_80, ie_IllegalArgumentException, th_IllegalArgumentException, (by decide +kernel)⟩ (Nat.le_of_ble_eq_true rfl) ⟨⟨rfl, Or.inr ⟨hT, hF, rfl⟩⟩, rfl⟩ (Nat.le_of_ble_eq_true rfl) (Nat.le_of_ble_eq_true rfl)
  · have hT : noT t := by
      by_cases q : t < 0
      · exact Or.inl q
      · rw [if_neg q] at h4
        by_cases q2 : 3 ≤ t
        · exact Or.inr q2
        · rw [if_neg q2] at h4
          exact absurd h4 (by decide)
    refine qr_aload_n (pc := 7) d_bf_tariff_7 rfl rfl ?_
    refine qr_get (v := .ref 1) (pc := 8) d_bf_tariff_8 fl_bf_10 (by decide) (by decide) (c_0 _ _) rfl ?_
    refine qr_callV (q := 1) (As := []) (pc := 11) d_bf_tariff_11 lk_bf_98 im_tr_forgetFault se_tr_forgetFault rfl (by decide) (by decide) (c_1 _ _) (s_tr_forgetFault _ x _ _) rfl rfl (Nat.le_of_ble_eq_true rfl) (Nat.le_of_ble_eq_true rfl) (Nat.le_of_ble_eq_true rfl) (Nat.zero_le _) (Nat.zero_le _) (fun h => ⟨h, rfl, Or.inl rfl⟩) (fun v n9 f9 hE => ?_)
    obtain ⟨rfl, rfl, rfl⟩ := hE
    exact qr_throw (pc := 14) ⟨80, 82, d_bf_tariff_14, d_bf_tariff_17, d_bf_tariff_18, d_bf_tariff_21, cl_bf_80, ie_IllegalArgumentException, th_IllegalArgumentException, (by decide +kernel)⟩ (Nat.le_of_ble_eq_true rfl) ⟨⟨rfl, Or.inl ⟨hT, rfl⟩⟩, rfl⟩ (Nat.le_of_ble_eq_true rfl) (Nat.le_of_ble_eq_true rfl)
