set_option maxRecDepth 10000 in
theorem r_bf_date (l : Launch) (x : Bool) (I : Nat → Nat → Int32) (L : Nat → Nat → Int64) (d w : Int32) (y0 Y b : Nat) (hY0 : ¬ (d < 0 ∨ 100000 < d) → (2000 + d / 366 = nI y0) ∧ (y0 ≤ Y) ∧ (Y ≤ 2400) ∧ (∀ y, y0 ≤ y → y < Y → u_fdy (nI y + 1) ≤ d) ∧ (Y < 2400 → ¬ u_fdy (nI Y + 1) ≤ d) ∧ (b ≤ 11) ∧ (∀ k, k < b → u_dim (nI Y) (nI (k + 1)) ≤ u_lf (d - u_fdy (nI Y)) (nI Y) k) ∧ (b < 11 → ¬ u_dim (nI Y) (nI (b + 1)) ≤ u_lf (d - u_fdy (nI Y)) (nI Y) b) ∧ ((((nI Y - 2000) * 12 + nI (b + 1) - 1) - ((nI Y - 2000) * 12 + nI (b + 1) - 1) / 12 * 12) + 1 = nI (b + 1))) : qR (l, y_bf_date.cls, b_bf_date, 4, (some .int), false, x, 9, 1, 6, 77, q0) (qE2 (¬ (d < 0 ∨ 100000 < d) ∧ (w = 0 ∨ w = 1 ∨ w = 2 ∨ w = 3)) (some (.int (if w = 0 then 2000 + ((nI Y - 2000) * 12 + nI (b + 1) - 1) / 12 else if w = 1 then (((nI Y - 2000) * 12 + nI (b + 1) - 1) - ((nI Y - 2000) * 12 + nI (b + 1) - 1) / 12 * 12) + 1 else if w = 2 then d - u_md (2000 + ((nI Y - 2000) * 12 + nI (b + 1) - 1) / 12) b + 1 else (nI Y - 2000) * 12 + nI (b + 1) - 1))) (fm I L)) (qX2 (fm I L) (fun En => En = xA ∧ ¬ (¬ (d < 0 ∨ 100000 < d) ∧ (w = 0 ∨ w = 1 ∨ w = 2 ∨ w = 3)))) 0 [(0, .ref 0), (1, .int d), (2, .int w)] [] 77 0 0 (fm I L) := by
  refine qr_iload_n (pc := 0) d_bf_date_0 rfl rfl ?_
  refine qr_if_lt (tgt := 10) (pc := 1) d_bf_date_1 (by decide) (fun h1 => ?_) (fun h1 => ?_)
  · skip
    exact qr_throw (pc := 10) ⟨80, 82, d_bf_date_10, d_bf_date_13, d_bf_date_14, d_bf_date_17, cl_bf_80, ie_IllegalArgumentException, th_IllegalArgumentException, (by decide +kernel)⟩ (Nat.le_of_ble_eq_true rfl) ⟨⟨rfl, by grind⟩, rfl, rfl⟩ (Nat.le_of_ble_eq_true rfl) (Nat.le_of_ble_eq_true rfl)
  · skip
    refine qr_iload_n (pc := 4) d_bf_date_4 rfl rfl ?_
    refine qr_ldc (v := 100000) (pc := 5) d_bf_date_5 ki_bf_243 ?_
    refine qr_icmp_le (tgt := 18) (pc := 7) d_bf_date_7 (by decide) (fun h7 => ?_) (fun h7 => ?_)
    · skip
      have g7 := Int32.not_lt.mpr h7
      have hok : ¬ (d < 0 ∨ 100000 < d) := fun q => q.elim h1 g7
      have hY := hY0 hok
      refine qr_iload_n (pc := 18) d_bf_date_18 rfl rfl ?_
      refine qr_callS (As := [.int d]) (pc := 19) d_bf_date_19 lk_bf_244 sm_al_periodOf (s_al_periodOf _ x _ _ d y0 Y b hY.1 hY.2.1 hY.2.2.1 hY.2.2.2.1 hY.2.2.2.2.1 hY.2.2.2.2.2.1 hY.2.2.2.2.2.2.1 hY.2.2.2.2.2.2.2.1) rfl rfl (Nat.le_of_ble_eq_true rfl) (Nat.le_of_ble_eq_true rfl) (Nat.le_of_ble_eq_true rfl) (Nat.zero_le _) (Nat.zero_le _) (fun h => ⟨h, rfl, Or.inl rfl⟩) (fun v n9 f9 hE19 => ?_)
      obtain ⟨rfl, rfl, rfl⟩ := hE19
      refine qr_istore_n (lv' := [(3, .int ((nI Y - 2000) * 12 + nI (b + 1) - 1)), (0, .ref 0), (1, .int d), (2, .int w)]) (pc := 22) d_bf_date_22 rfl (Nat.le_of_ble_eq_true rfl) rfl ?_
      refine qr_iload_n (pc := 23) d_bf_date_23 rfl rfl ?_
      by_cases hs0 : w = 0
      · subst hs0
        refine qr_tableIn (x := 0) (off := 32) (tgt := 56) (pc := 24) d_bf_date_24 (by decide) (by decide) (by decide) (by decide) ?_
        refine qr_iload_n (pc := 56) d_bf_date_56 rfl rfl ?_
        refine qr_callS (As := [.int ((nI Y - 2000) * 12 + nI (b + 1) - 1)]) (pc := 57) d_bf_date_57 lk_bf_245 sm_al_yearOf (s_al_yearOf _ x _ _ ((nI Y - 2000) * 12 + nI (b + 1) - 1)) rfl rfl (Nat.le_of_ble_eq_true rfl) (Nat.le_of_ble_eq_true rfl) (Nat.le_of_ble_eq_true rfl) (Nat.zero_le _) (Nat.zero_le _) (fun h => ⟨h, rfl, Or.inl rfl⟩) (fun v n9 f9 hE57 => ?_)
        obtain ⟨rfl, rfl, rfl⟩ := hE57
        exact qr_iret (pc := 60) d_bf_date_60 rfl rfl ⟨⟨hok, by simp⟩, (by simp), rfl, rfl⟩ (Nat.zero_le _) (Nat.zero_le _)
      by_cases hs1 : w = 1
      · subst hs1
        refine qr_tableIn (x := 1) (off := 37) (tgt := 61) (pc := 24) d_bf_date_24 (by decide) (by decide) (by decide) (by decide) ?_
        refine qr_iload_n (pc := 61) d_bf_date_61 rfl rfl ?_
        refine qr_callS (As := [.int ((nI Y - 2000) * 12 + nI (b + 1) - 1)]) (pc := 62) d_bf_date_62 lk_bf_248 sm_al_monthOf (s_al_monthOf _ x _ _ ((nI Y - 2000) * 12 + nI (b + 1) - 1)) rfl rfl (Nat.le_of_ble_eq_true rfl) (Nat.le_of_ble_eq_true rfl) (Nat.le_of_ble_eq_true rfl) (Nat.zero_le _) (Nat.zero_le _) (fun h => ⟨h, rfl, Or.inl rfl⟩) (fun v n9 f9 hE62 => ?_)
        obtain ⟨rfl, rfl, rfl⟩ := hE62
        exact qr_iret (pc := 65) d_bf_date_65 rfl rfl ⟨⟨hok, by simp⟩, (by simp), rfl, rfl⟩ (Nat.zero_le _) (Nat.zero_le _)
      by_cases hs2 : w = 2
      · subst hs2
        refine qr_tableIn (x := 2) (off := 42) (tgt := 66) (pc := 24) d_bf_date_24 (by decide) (by decide) (by decide) (by decide) ?_
        refine qr_iload_n (pc := 66) d_bf_date_66 rfl rfl ?_
        refine qr_iload_n (pc := 67) d_bf_date_67 rfl rfl ?_
        refine qr_callS (As := [.int ((nI Y - 2000) * 12 + nI (b + 1) - 1)]) (pc := 68) d_bf_date_68 lk_bf_70 sm_al_firstDayOf (s_al_firstDayOf _ x _ _ ((nI Y - 2000) * 12 + nI (b + 1) - 1) b hY.2.2.2.2.2.2.2.2 hY.2.2.2.2.2.1) rfl rfl (Nat.le_of_ble_eq_true rfl) (Nat.le_of_ble_eq_true rfl) (Nat.le_of_ble_eq_true rfl) (Nat.zero_le _) (Nat.zero_le _) (fun h => ⟨h, rfl, Or.inl rfl⟩) (fun v n9 f9 hE68 => ?_)
        obtain ⟨rfl, rfl, rfl⟩ := hE68
        refine qr_isub (pc := 71) d_bf_date_71 ?_
        refine qr_iconst (v := 1) (pc := 72) d_bf_date_72 (by decide) ?_
        refine qr_iadd (pc := 73) d_bf_date_73 ?_
        exact qr_iret (pc := 74) d_bf_date_74 rfl rfl ⟨⟨hok, by simp⟩, (by simp), rfl, rfl⟩ (Nat.zero_le _) (Nat.zero_le _)
      by_cases hs3 : w = 3
      · subst hs3
        refine qr_tableIn (x := 3) (off := 51) (tgt := 75) (pc := 24) d_bf_date_24 (by decide) (by decide) (by decide) (by decide) ?_
        refine qr_iload_n (pc := 75) d_bf_date_75 rfl rfl ?_
        exact qr_iret (pc := 76) d_bf_date_76 rfl rfl ⟨⟨hok, by simp⟩, (by simp), rfl, rfl⟩ (Nat.zero_le _) (Nat.zero_le _)
      have hout : w.toInt < 0 ∨ 3 < w.toInt := by
        rcases (show w.toInt < 0 ∨ 3 < w.toInt ∨ w.toInt = 0 ∨ w.toInt = 1 ∨ w.toInt = 2 ∨ w.toInt = 3 by omega) with h9 | h9 | h9 | h9 | h9 | h9
        · exact Or.inl h9
        · exact Or.inr h9
        · exact absurd (Int32.toInt_inj.mp (h9.trans (by decide))) hs0
        · exact absurd (Int32.toInt_inj.mp (h9.trans (by decide))) hs1
        · exact absurd (Int32.toInt_inj.mp (h9.trans (by decide))) hs2
        · exact absurd (Int32.toInt_inj.mp (h9.trans (by decide))) hs3
      refine qr_tableOut (tgt := 77) (pc := 24) d_bf_date_24 hout (by decide) ?_
      exact qr_throw (pc := 77) ⟨80, 82, d_bf_date_77, d_bf_date_80, d_bf_date_81, d_bf_date_84, cl_bf_80, ie_IllegalArgumentException, th_IllegalArgumentException, (by decide +kernel)⟩ (Nat.le_of_ble_eq_true rfl) ⟨⟨rfl, by grind⟩, rfl, rfl⟩ (Nat.le_of_ble_eq_true rfl) (Nat.le_of_ble_eq_true rfl)
    · skip
      have g7 := Int32.not_le.mp h7
      exact qr_throw (pc := 10) ⟨80, 82, d_bf_date_10, d_bf_date_13, d_bf_date_14, d_bf_date_17, cl_bf_80, ie_IllegalArgumentException, th_IllegalArgumentException, (by decide +kernel)⟩ (Nat.le_of_ble_eq_true rfl) ⟨⟨rfl, by grind⟩, rfl, rfl⟩ (Nat.le_of_ble_eq_true rfl) (Nat.le_of_ble_eq_true rfl)
