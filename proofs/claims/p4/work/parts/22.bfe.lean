theorem s_ev_addL (l : Launch) (x : Bool) (I : Nat → Nat → Int32) (L : Nat → Nat → Int64) (z : Nat) (hz : I 9 4 = nI z) (h : z < 80) (key c day u : Int32) : qSp l y_ev_add b_ev_add 5 none x 2 0 0 [.ref 9, .int key, .int c, .int day, .int u] 77 (fm I L) (qD none 77 (fm (wI (wI (wI (wI (wI I 10 z key) 11 z c) 12 z day) 13 z u) 9 4 (nI (z + 1))) L)) := by
  have h9 := s_ev_add l x I L z hz (by omega) key c day u
  have e : ¬ (80 : Int32) ≤ nI z := fun q => absurd ((nI_leI (a := 80) (b := z) (by omega) (by omega)).mp q) (by omega)
  rw [if_neg e] at h9
  exact h9
theorem s_ib_addL (l : Launch) (x : Bool) (I : Nat → Nat → Int32) (L : Nat → Nat → Int64) (z : Nat) (hz : I 14 5 = nI z) (h : z < 50) (c p : Int32) (a : Int64) (day : Int32) : qSp l y_ib_add b_ib_add 6 none x 2 0 0 [.ref 14, .int c, .int p, .long a, .int day] 77 (fm I L) (qD none 77 (fm (wI (wI (wI (wI I 15 z c) 16 z p) 18 z day) 14 5 (nI (z + 1))) (wL (wL L 17 z a) 19 z (qmminl a 0)))) := by
  have h9 := s_ib_add l x I L z hz (by omega) c p a day
  have e : ¬ (50 : Int32) ≤ nI z := fun q => absurd ((nI_leI (a := 50) (b := z) (by omega) (by omega)).mp q) (by omega)
  rw [if_neg e, if_neg e] at h9
  exact h9
theorem s_pb_addL (l : Launch) (x : Bool) (I : Nat → Nat → Int32) (L : Nat → Nat → Int64) (z : Nat) (hz : I 20 4 = nI z) (h : z < 10) (c : Int32) (a : Int64) (days from9 : Int32) : qSp l y_pb_add b_pb_add 6 none x 2 0 0 [.ref 20, .int c, .long a, .int days, .int from9] 77 (fm I L) (qD none 77 (fm (wI (wI (wI (wI I 21 z c) 23 z days) 24 z from9) 20 4 (nI (z + 1))) (wL L 22 z a))) := by
  have h9 := s_pb_add l x I L z hz (by omega) c a days from9
  have e : ¬ (10 : Int32) ≤ nI z := fun q => absurd ((nI_leI (a := 10) (b := z) (by omega) (by omega)).mp q) (by omega)
  rw [if_neg e, if_neg e] at h9
  exact h9
def u_tk (I : Nat → Nat → Int32) (L : Nat → Nat → Int64) (z : Nat) : Nat → Nat → Nat → Int32
  | 0 => I
  | k + 1 => u_pass (u_tk I L z k) L z
theorem u_tk_14 {I : Nat → Nat → Int32} {L : Nat → Nat → Int64} {z : Nat} : ∀ k, u_tk I L z k 14 5 = I 14 5
  | 0 => rfl
  | k + 1 => by rw [u_tk, u_pass, u_lks_ne (by decide), wI_ne (Or.inl (by decide)), u_kps_ne (by decide), u_tk_14 k]
set_option maxRecDepth 10000 in
theorem r_bf_pause (l : Launch) (x : Bool) (I : Nat → Nat → Int32) (L : Nat → Nat → Int64) (c on : Int32) (hon : qB on) (hB : ∀ c, c < 5 → qB (I (37 + 2 * c) 2)) : qR (l, y_bf_pause.cls, b_bf_pause, 5, (some .boolean), false, x, 9, 1, 6, 77, q0) (qE2 (¬ noC c ∧ ¬ (I (37 + 2 * c.toNatClampNeg) 1 = -1 ∨ (on = 0 ∧ I (37 + 2 * c.toNatClampNeg) 3 = 3))) (some (.int (if I (37 + 2 * c.toNatClampNeg) 2 = on then 0 else 1))) (fm (wI I (37 + 2 * c.toNatClampNeg) 2 on) L)) (qX2 (fm I L) (fun En => (En = xA ∧ noC c) ∨ (En = xS ∧ ¬ noC c ∧ (I (37 + 2 * c.toNatClampNeg) 1 = -1 ∨ (on = 0 ∧ I (37 + 2 * c.toNatClampNeg) 3 = 3))))) 0 [(0, .ref 0), (1, .int c), (2, .int on)] [] 77 0 0 (fm I L) := by
  refine qr_iload_n (pc := 0) d_bf_pause_0 rfl rfl ?_
  refine qr_callS (As := [.int c]) (pc := 1) d_bf_pause_1 lk_bf_127 sm_bf_isCustomer (s_bf_isCustomer _ x _ _ c) rfl rfl (Nat.le_of_ble_eq_true rfl) (Nat.le_of_ble_eq_true rfl) (Nat.le_of_ble_eq_true rfl) (Nat.zero_le _) (Nat.zero_le _) (fun h => ⟨h, rfl, Or.inl rfl⟩) (fun v n9 f9 hE1 => ?_)
  obtain ⟨rfl, rfl, rfl⟩ := hE1
  refine qr_if_ne (tgt := 15) (pc := 4) d_bf_pause_4 (by decide) (fun h4 => ?_) (fun h4 => ?_)
  · skip
    rw [isN0] at h4
    obtain ⟨c9, hc9, rfl⟩ := isN_nI 5 h4
    have hc : c9 < 5 := hc9
    have ccl : (nI c9).toNatClampNeg = c9 := nI_clamp (by omega)
    refine qr_aload_n (pc := 15) d_bf_pause_15 rfl rfl ?_
    refine qr_get (v := .ref 8) (pc := 16) d_bf_pause_16 fl_bf_24 (by decide) (by decide) (c_0 _ _) rfl ?_
    refine qr_iload_n (pc := 19) d_bf_pause_19 rfl rfl ?_
    refine qr_aald (w := 37 + 2 * c9) (pc := 20) d_bf_pause_20 (by decide) (by decide) (c_8 _ _) rfl (vp_in_nI (by omega) (by decide)) (aal_8 (by omega)) ?_
    refine qr_astore_n (lv' := [(3, .ref (37 + 2 * c9)), (0, .ref 0), (1, .int (nI c9)), (2, .int on)]) (pc := 21) d_bf_pause_21 rfl (Nat.le_of_ble_eq_true rfl) rfl ?_
    refine qr_aload_n (pc := 22) d_bf_pause_22 rfl rfl ?_
    refine qr_callV (q := 37 + 2 * c9) (As := []) (pc := 23) d_bf_pause_23 lk_bf_130 im_cu_tariffNow se_cu_tariffNow rfl (isCu_c hc).1 (isCu_c hc).1 ((isCu_c hc).2.2.1 _ _) (s_cu_tariffNow _ x I L (37 + 2 * c9) (38 + 2 * c9) (isCu_c hc)) rfl rfl (Nat.le_of_ble_eq_true rfl) (Nat.le_of_ble_eq_true rfl) (Nat.le_of_ble_eq_true rfl) (Nat.zero_le _) (Nat.zero_le _) (fun h => ⟨h, rfl, Or.inl rfl⟩) (fun v n9 f9 hE23 => ?_)
    obtain ⟨rfl, rfl, rfl⟩ := hE23
    refine qr_iconst (v := (-1)) (pc := 26) d_bf_pause_26 (by decide) ?_
    refine qr_icmp_eq (tgt := 41) (pc := 27) d_bf_pause_27 (by decide) (fun h27 => ?_) (fun h27 => ?_)
    · skip
      exact qr_throw (pc := 41) ⟨87, 89, d_bf_pause_41, d_bf_pause_44, d_bf_pause_45, d_bf_pause_48, cl_bf_87, ie_IllegalStateException, th_IllegalStateException, (by decide +kernel)⟩ (Nat.le_of_ble_eq_true rfl) ⟨Or.inr ⟨rfl, by simp [noC, *], by simp [*]⟩, rfl, rfl⟩ (Nat.le_of_ble_eq_true rfl) (Nat.le_of_ble_eq_true rfl)
    · skip
      refine qr_iload_n (pc := 30) d_bf_pause_30 rfl rfl ?_
      refine qr_if_ne (tgt := 49) (pc := 31) d_bf_pause_31 (by decide) (fun h31 => ?_) (fun h31 => ?_)
      · skip
        refine qr_aload_n (pc := 49) d_bf_pause_49 rfl rfl ?_
        refine qr_callV (q := 37 + 2 * c9) (As := []) (pc := 50) d_bf_pause_50 lk_bf_140 im_cu_isPaused se_cu_isPaused rfl (isCu_c hc).1 (isCu_c hc).1 ((isCu_c hc).2.2.1 _ _) (s_cu_isPaused _ x I L (37 + 2 * c9) (38 + 2 * c9) (isCu_c hc) (hB c9 hc)) rfl rfl (Nat.le_of_ble_eq_true rfl) (Nat.le_of_ble_eq_true rfl) (Nat.le_of_ble_eq_true rfl) (Nat.zero_le _) (Nat.zero_le _) (fun h => ⟨h, rfl, Or.inl rfl⟩) (fun v n9 f9 hE50 => ?_)
        obtain ⟨rfl, rfl, rfl⟩ := hE50
        refine qr_iload_n (pc := 53) d_bf_pause_53 rfl rfl ?_
        refine qr_icmp_eq (tgt := 61) (pc := 54) d_bf_pause_54 (by decide) (fun h54 => ?_) (fun h54 => ?_)
        · skip
          refine qr_iconst (v := 0) (pc := 61) d_bf_pause_61 (by decide) ?_
          refine qr_istore (lv' := [(4, .int 0), (3, .ref (37 + 2 * c9)), (0, .ref 0), (1, .int (nI c9)), (2, .int on)]) (pc := 62) d_bf_pause_62 (Nat.le_of_ble_eq_true rfl) rfl ?_
          refine qr_aload_n (pc := 64) d_bf_pause_64 rfl rfl ?_
          refine qr_iload_n (pc := 65) d_bf_pause_65 rfl rfl ?_
          refine qr_callV (q := 37 + 2 * c9) (As := [.int on]) (pc := 66) d_bf_pause_66 lk_bf_143 im_cu_setPaused se_cu_setPaused rfl (isCu_c hc).1 (isCu_c hc).1 ((isCu_c hc).2.2.1 _ _) (s_cu_setPaused _ x I L (37 + 2 * c9) (38 + 2 * c9) (isCu_c hc) on hon) rfl rfl (Nat.le_of_ble_eq_true rfl) (Nat.le_of_ble_eq_true rfl) (Nat.le_of_ble_eq_true rfl) (Nat.zero_le _) (Nat.zero_le _) (fun h => ⟨h, rfl, Or.inl rfl⟩) (fun v n9 f9 hE66 => ?_)
          obtain ⟨rfl, rfl, rfl⟩ := hE66
          refine qr_iload (pc := 69) d_bf_pause_69 rfl ?_
          exact qr_iret (pc := 71) d_bf_pause_71 rfl rfl ⟨(by simp [noC, *]), (by first | (simp [*]; done) | grind), rfl, (by simp [*])⟩ (Nat.zero_le _) (Nat.zero_le _)
        · skip
          refine qr_iconst (v := 1) (pc := 57) d_bf_pause_57 (by decide) ?_
          refine qr_goto (tgt := 62) (pc := 58) d_bf_pause_58 (by decide) ?_
          refine qr_istore (lv' := [(4, .int 1), (3, .ref (37 + 2 * c9)), (0, .ref 0), (1, .int (nI c9)), (2, .int on)]) (pc := 62) d_bf_pause_62 (Nat.le_of_ble_eq_true rfl) rfl ?_
          refine qr_aload_n (pc := 64) d_bf_pause_64 rfl rfl ?_
          refine qr_iload_n (pc := 65) d_bf_pause_65 rfl rfl ?_
          refine qr_callV (q := 37 + 2 * c9) (As := [.int on]) (pc := 66) d_bf_pause_66 lk_bf_143 im_cu_setPaused se_cu_setPaused rfl (isCu_c hc).1 (isCu_c hc).1 ((isCu_c hc).2.2.1 _ _) (s_cu_setPaused _ x I L (37 + 2 * c9) (38 + 2 * c9) (isCu_c hc) on hon) rfl rfl (Nat.le_of_ble_eq_true rfl) (Nat.le_of_ble_eq_true rfl) (Nat.le_of_ble_eq_true rfl) (Nat.zero_le _) (Nat.zero_le _) (fun h => ⟨h, rfl, Or.inl rfl⟩) (fun v n9 f9 hE66 => ?_)
          obtain ⟨rfl, rfl, rfl⟩ := hE66
          refine qr_iload (pc := 69) d_bf_pause_69 rfl ?_
          exact qr_iret (pc := 71) d_bf_pause_71 rfl rfl ⟨(by simp [noC, *]), (by first | (simp [*]; done) | grind), rfl, (by simp [*])⟩ (Nat.zero_le _) (Nat.zero_le _)
      · skip
        refine qr_aload_n (pc := 34) d_bf_pause_34 rfl rfl ?_
        refine qr_callV (q := 37 + 2 * c9) (As := []) (pc := 35) d_bf_pause_35 lk_bf_137 im_cu_isStopped se_cu_isStopped rfl (isCu_c hc).1 (isCu_c hc).1 ((isCu_c hc).2.2.1 _ _) (s_cu_isStopped _ x I L (37 + 2 * c9) (38 + 2 * c9) (isCu_c hc)) rfl rfl (Nat.le_of_ble_eq_true rfl) (Nat.le_of_ble_eq_true rfl) (Nat.le_of_ble_eq_true rfl) (Nat.zero_le _) (Nat.zero_le _) (fun h => ⟨h, rfl, Or.inl rfl⟩) (fun v n9 f9 hE35 => ?_)
        obtain ⟨rfl, rfl, rfl⟩ := hE35
        refine qr_if_eq (tgt := 49) (pc := 38) d_bf_pause_38 (by decide) (fun h38 => ?_) (fun h38 => ?_)
        · skip
          simp only [b01, Decidable.not_not] at h38
          refine qr_aload_n (pc := 49) d_bf_pause_49 rfl rfl ?_
          refine qr_callV (q := 37 + 2 * c9) (As := []) (pc := 50) d_bf_pause_50 lk_bf_140 im_cu_isPaused se_cu_isPaused rfl (isCu_c hc).1 (isCu_c hc).1 ((isCu_c hc).2.2.1 _ _) (s_cu_isPaused _ x I L (37 + 2 * c9) (38 + 2 * c9) (isCu_c hc) (hB c9 hc)) rfl rfl (Nat.le_of_ble_eq_true rfl) (Nat.le_of_ble_eq_true rfl) (Nat.le_of_ble_eq_true rfl) (Nat.zero_le _) (Nat.zero_le _) (fun h => ⟨h, rfl, Or.inl rfl⟩) (fun v n9 f9 hE50 => ?_)
          obtain ⟨rfl, rfl, rfl⟩ := hE50
          refine qr_iload_n (pc := 53) d_bf_pause_53 rfl rfl ?_
          refine qr_icmp_eq (tgt := 61) (pc := 54) d_bf_pause_54 (by decide) (fun h54 => ?_) (fun h54 => ?_)
          · skip
            refine qr_iconst (v := 0) (pc := 61) d_bf_pause_61 (by decide) ?_
            refine qr_istore (lv' := [(4, .int 0), (3, .ref (37 + 2 * c9)), (0, .ref 0), (1, .int (nI c9)), (2, .int on)]) (pc := 62) d_bf_pause_62 (Nat.le_of_ble_eq_true rfl) rfl ?_
            refine qr_aload_n (pc := 64) d_bf_pause_64 rfl rfl ?_
            refine qr_iload_n (pc := 65) d_bf_pause_65 rfl rfl ?_
            refine qr_callV (q := 37 + 2 * c9) (As := [.int on]) (pc := 66) d_bf_pause_66 lk_bf_143 im_cu_setPaused se_cu_setPaused rfl (isCu_c hc).1 (isCu_c hc).1 ((isCu_c hc).2.2.1 _ _) (s_cu_setPaused _ x I L (37 + 2 * c9) (38 + 2 * c9) (isCu_c hc) on hon) rfl rfl (Nat.le_of_ble_eq_true rfl) (Nat.le_of_ble_eq_true rfl) (Nat.le_of_ble_eq_true rfl) (Nat.zero_le _) (Nat.zero_le _) (fun h => ⟨h, rfl, Or.inl rfl⟩) (fun v n9 f9 hE66 => ?_)
            obtain ⟨rfl, rfl, rfl⟩ := hE66
            refine qr_iload (pc := 69) d_bf_pause_69 rfl ?_
            exact qr_iret (pc := 71) d_bf_pause_71 rfl rfl ⟨(by simp [noC, *]), (by first | (simp [*]; done) | grind), rfl, (by simp [*])⟩ (Nat.zero_le _) (Nat.zero_le _)
          · skip
            refine qr_iconst (v := 1) (pc := 57) d_bf_pause_57 (by decide) ?_
            refine qr_goto (tgt := 62) (pc := 58) d_bf_pause_58 (by decide) ?_
            refine qr_istore (lv' := [(4, .int 1), (3, .ref (37 + 2 * c9)), (0, .ref 0), (1, .int (nI c9)), (2, .int on)]) (pc := 62) d_bf_pause_62 (Nat.le_of_ble_eq_true rfl) rfl ?_
            refine qr_aload_n (pc := 64) d_bf_pause_64 rfl rfl ?_
            refine qr_iload_n (pc := 65) d_bf_pause_65 rfl rfl ?_
            refine qr_callV (q := 37 + 2 * c9) (As := [.int on]) (pc := 66) d_bf_pause_66 lk_bf_143 im_cu_setPaused se_cu_setPaused rfl (isCu_c hc).1 (isCu_c hc).1 ((isCu_c hc).2.2.1 _ _) (s_cu_setPaused _ x I L (37 + 2 * c9) (38 + 2 * c9) (isCu_c hc) on hon) rfl rfl (Nat.le_of_ble_eq_true rfl) (Nat.le_of_ble_eq_true rfl) (Nat.le_of_ble_eq_true rfl) (Nat.zero_le _) (Nat.zero_le _) (fun h => ⟨h, rfl, Or.inl rfl⟩) (fun v n9 f9 hE66 => ?_)
            obtain ⟨rfl, rfl, rfl⟩ := hE66
            refine qr_iload (pc := 69) d_bf_pause_69 rfl ?_
            exact qr_iret (pc := 71) d_bf_pause_71 rfl rfl ⟨(by simp [noC, *]), (by first | (simp [*]; done) | grind), rfl, (by simp [*])⟩ (Nat.zero_le _) (Nat.zero_le _)
        · skip
          simp only [b01, Decidable.not_not] at h38
          exact qr_throw (pc := 41) ⟨87, 89, d_bf_pause_41, d_bf_pause_44, d_bf_pause_45, d_bf_pause_48, cl_bf_87, ie_IllegalStateException, th_IllegalStateException, (by decide +kernel)⟩ (Nat.le_of_ble_eq_true rfl) ⟨Or.inr ⟨rfl, by simp [noC, *], by simp [*]⟩, rfl, rfl⟩ (Nat.le_of_ble_eq_true rfl) (Nat.le_of_ble_eq_true rfl)
  · skip
    rw [isN0] at h4
    exact qr_throw (pc := 7) ⟨80, 82, d_bf_pause_7, d_bf_pause_10, d_bf_pause_11, d_bf_pause_14, cl_bf_80, ie_IllegalArgumentException, th_IllegalArgumentException, (by decide +kernel)⟩ (Nat.le_of_ble_eq_true rfl) ⟨Or.inl ⟨rfl, h4⟩, rfl, rfl⟩ (Nat.le_of_ble_eq_true rfl) (Nat.le_of_ble_eq_true rfl)
set_option maxRecDepth 10000 in
theorem r_bf_event (l : Launch) (x : Bool) (I : Nat → Nat → Int32) (L : Nat → Nat → Int64) (z : Nat) (hz : I 9 4 = nI z) (hz2 : z ≤ 80) (key c day u : Int32) : qR (l, y_bf_event.cls, b_bf_event, 5, (some .int), false, x, 9, 1, 6, 77, q0) (qE2 (¬ (noC c ∨ u < 1 ∨ 10000 < u) ∧ ¬ (day < 0 ∨ I 0 9 < day ∨ day < I 0 9 - 45) ∧ (u_any (I 10) key z = true ∨ ¬ z = 80)) (some (.int (if u_any (I 10) key z = true then 0 else nI (z + 1)))) (fm (if u_any (I 10) key z = true then I else wI (wI (wI (wI (wI I 10 z key) 11 z c) 12 z day) 13 z u) 9 4 (nI (z + 1))) L)) (qX2 (fm I L) (fun En => (En = xA ∧ (noC c ∨ u < 1 ∨ 10000 < u)) ∨ (En = xI ∧ ¬ (noC c ∨ u < 1 ∨ 10000 < u) ∧ (day < 0 ∨ I 0 9 < day ∨ day < I 0 9 - 45)) ∨ (En = xS ∧ ¬ (noC c ∨ u < 1 ∨ 10000 < u) ∧ ¬ (day < 0 ∨ I 0 9 < day ∨ day < I 0 9 - 45) ∧ ¬ u_any (I 10) key z = true ∧ z = 80))) 0 [(0, .ref 0), (1, .int key), (2, .int c), (3, .int day), (4, .int u)] [] 77 0 0 (fm I L) := by
  refine qr_iload_n (pc := 0) d_bf_event_0 rfl rfl ?_
  refine qr_callS (As := [.int c]) (pc := 1) d_bf_event_1 lk_bf_127 sm_bf_isCustomer (s_bf_isCustomer _ x _ _ c) rfl rfl (Nat.le_of_ble_eq_true rfl) (Nat.le_of_ble_eq_true rfl) (Nat.le_of_ble_eq_true rfl) (Nat.zero_le _) (Nat.zero_le _) (fun h => ⟨h, rfl, Or.inl rfl⟩) (fun v n9 f9 hE1 => ?_)
  obtain ⟨rfl, rfl, rfl⟩ := hE1
  refine qr_if_eq (tgt := 21) (pc := 4) d_bf_event_4 (by decide) (fun h4 => ?_) (fun h4 => ?_)
  · skip
    rw [isN0] at h4
    exact qr_throw (pc := 21) ⟨80, 82, d_bf_event_21, d_bf_event_24, d_bf_event_25, d_bf_event_28, cl_bf_80, ie_IllegalArgumentException, th_IllegalArgumentException, (by decide +kernel)⟩ (Nat.le_of_ble_eq_true rfl) ⟨Or.inl ⟨rfl, by grind [noC]⟩, rfl, rfl⟩ (Nat.le_of_ble_eq_true rfl) (Nat.le_of_ble_eq_true rfl)
  · skip
    rw [isN0] at h4
    refine qr_iload (pc := 7) d_bf_event_7 rfl ?_
    refine qr_iconst (v := 1) (pc := 9) d_bf_event_9 (by decide) ?_
    refine qr_icmp_lt (tgt := 21) (pc := 10) d_bf_event_10 (by decide) (fun h10 => ?_) (fun h10 => ?_)
    · skip
      exact qr_throw (pc := 21) ⟨80, 82, d_bf_event_21, d_bf_event_24, d_bf_event_25, d_bf_event_28, cl_bf_80, ie_IllegalArgumentException, th_IllegalArgumentException, (by decide +kernel)⟩ (Nat.le_of_ble_eq_true rfl) ⟨Or.inl ⟨rfl, by grind [noC]⟩, rfl, rfl⟩ (Nat.le_of_ble_eq_true rfl) (Nat.le_of_ble_eq_true rfl)
    · skip
      refine qr_iload (pc := 13) d_bf_event_13 rfl ?_
      refine qr_sipush (v := 10000) (pc := 15) d_bf_event_15 (by decide) ?_
      refine qr_icmp_le (tgt := 29) (pc := 18) d_bf_event_18 (by decide) (fun h18 => ?_) (fun h18 => ?_)
      · skip
        have g18 := Int32.not_lt.mpr h18
        refine qr_iload_n (pc := 29) d_bf_event_29 rfl rfl ?_
        refine qr_if_lt (tgt := 52) (pc := 30) d_bf_event_30 (by decide) (fun h30 => ?_) (fun h30 => ?_)
        · skip
          exact qr_throw (pc := 52) ⟨147, 149, d_bf_event_52, d_bf_event_55, d_bf_event_56, d_bf_event_59, cl_bf_147, ie_IndexOutOfBoundsException, th_IndexOutOfBoundsException, (by decide +kernel)⟩ (Nat.le_of_ble_eq_true rfl) ⟨Or.inr (Or.inl ⟨rfl, by grind [noC], by grind⟩), rfl, rfl⟩ (Nat.le_of_ble_eq_true rfl) (Nat.le_of_ble_eq_true rfl)
        · skip
          refine qr_iload_n (pc := 33) d_bf_event_33 rfl rfl ?_
          refine qr_aload_n (pc := 34) d_bf_event_34 rfl rfl ?_
          refine qr_get (v := .int (I 0 9)) (pc := 35) d_bf_event_35 fl_bf_60 (by decide) (by decide) (c_0 _ _) rfl ?_
          refine qr_icmp_gt (tgt := 52) (pc := 38) d_bf_event_38 (by decide) (fun h38 => ?_) (fun h38 => ?_)
          · skip
            exact qr_throw (pc := 52) ⟨147, 149, d_bf_event_52, d_bf_event_55, d_bf_event_56, d_bf_event_59, cl_bf_147, ie_IndexOutOfBoundsException, th_IndexOutOfBoundsException, (by decide +kernel)⟩ (Nat.le_of_ble_eq_true rfl) ⟨Or.inr (Or.inl ⟨rfl, by grind [noC], by grind⟩), rfl, rfl⟩ (Nat.le_of_ble_eq_true rfl) (Nat.le_of_ble_eq_true rfl)
          · skip
            refine qr_iload_n (pc := 41) d_bf_event_41 rfl rfl ?_
            refine qr_aload_n (pc := 42) d_bf_event_42 rfl rfl ?_
            refine qr_get (v := .int (I 0 9)) (pc := 43) d_bf_event_43 fl_bf_60 (by decide) (by decide) (c_0 _ _) rfl ?_
            refine qr_bipush (v := 45) (pc := 46) d_bf_event_46 (by decide) ?_
            refine qr_isub (pc := 48) d_bf_event_48 ?_
            refine qr_icmp_ge (tgt := 60) (pc := 49) d_bf_event_49 (by decide) (fun h49 => ?_) (fun h49 => ?_)
            · skip
              have g49 := Int32.not_lt.mpr h49
              refine qr_aload_n (pc := 60) d_bf_event_60 rfl rfl ?_
              refine qr_get (v := .ref 9) (pc := 61) d_bf_event_61 fl_bf_31 (by decide) (by decide) (c_0 _ _) rfl ?_
              refine qr_iload_n (pc := 64) d_bf_event_64 rfl rfl ?_
              refine qr_callV (q := 9) (As := [.int key]) (pc := 65) d_bf_event_65 lk_bf_150 im_ev_has se_ev_has rfl (by decide) (by decide) (c_9 _ _) (s_ev_has _ x I L z hz hz2 key) rfl rfl (Nat.le_of_ble_eq_true rfl) (Nat.le_of_ble_eq_true rfl) (Nat.le_of_ble_eq_true rfl) (Nat.zero_le _) (Nat.zero_le _) (fun h => ⟨h, rfl, Or.inl rfl⟩) (fun v n9 f9 hE65 => ?_)
              obtain ⟨rfl, rfl, rfl⟩ := hE65
              refine qr_if_eq (tgt := 73) (pc := 68) d_bf_event_68 (by decide) (fun h68 => ?_) (fun h68 => ?_)
              · skip
                simp only [b01, Decidable.not_not] at h68
                refine qr_aload_n (pc := 73) d_bf_event_73 rfl rfl ?_
                refine qr_get (v := .ref 9) (pc := 74) d_bf_event_74 fl_bf_31 (by decide) (by decide) (c_0 _ _) rfl ?_
                refine qr_callV (q := 9) (As := []) (pc := 77) d_bf_event_77 lk_bf_153 im_ev_isFull se_ev_isFull rfl (by decide) (by decide) (c_9 _ _) (s_ev_isFull _ x I L z hz hz2) rfl rfl (Nat.le_of_ble_eq_true rfl) (Nat.le_of_ble_eq_true rfl) (Nat.le_of_ble_eq_true rfl) (Nat.zero_le _) (Nat.zero_le _) (fun h => ⟨h, rfl, Or.inl rfl⟩) (fun v n9 f9 hE77 => ?_)
                obtain ⟨rfl, rfl, rfl⟩ := hE77
                refine qr_if_eq (tgt := 91) (pc := 80) d_bf_event_80 (by decide) (fun h80 => ?_) (fun h80 => ?_)
                · skip
                  simp only [b01, Decidable.not_not] at h80
                  have hlt : z < 80 := Nat.not_le.mp (fun q => h80 (nI_le (a := 80) q (by omega)))
                  have hne8 : ¬ z = 80 := by omega
                  refine qr_aload_n (pc := 91) d_bf_event_91 rfl rfl ?_
                  refine qr_get (v := .ref 9) (pc := 92) d_bf_event_92 fl_bf_31 (by decide) (by decide) (c_0 _ _) rfl ?_
                  refine qr_iload_n (pc := 95) d_bf_event_95 rfl rfl ?_
                  refine qr_iload_n (pc := 96) d_bf_event_96 rfl rfl ?_
                  refine qr_iload_n (pc := 97) d_bf_event_97 rfl rfl ?_
                  refine qr_iload (pc := 98) d_bf_event_98 rfl ?_
                  refine qr_callV (q := 9) (As := [.int key, .int c, .int day, .int u]) (pc := 100) d_bf_event_100 lk_bf_156 im_ev_add se_ev_add rfl (by decide) (by decide) (c_9 _ _) (s_ev_addL _ x I L z hz hlt key c day u) rfl rfl (Nat.le_of_ble_eq_true rfl) (Nat.le_of_ble_eq_true rfl) (Nat.le_of_ble_eq_true rfl) (Nat.zero_le _) (Nat.zero_le _) (fun h => ⟨h, rfl, Or.inl rfl⟩) (fun v n9 f9 hE100 => ?_)
                  obtain ⟨rfl, rfl, rfl⟩ := hE100
                  refine qr_aload_n (pc := 103) d_bf_event_103 rfl rfl ?_
                  refine qr_get (v := .ref 9) (pc := 104) d_bf_event_104 fl_bf_31 (by decide) (by decide) (c_0 _ _) rfl ?_
                  refine qr_callV (q := 9) (As := []) (pc := 107) d_bf_event_107 lk_bf_160 im_ev_size se_ev_size rfl (by decide) (by decide) (c_9 _ _) (s_ev_size _ x (wI (wI (wI (wI (wI I 10 z key) 11 z c) 12 z day) 13 z u) 9 4 (nI (z + 1))) L (z + 1) rfl (by omega)) rfl rfl (Nat.le_of_ble_eq_true rfl) (Nat.le_of_ble_eq_true rfl) (Nat.le_of_ble_eq_true rfl) (Nat.zero_le _) (Nat.zero_le _) (fun h => ⟨h, rfl, Or.inl rfl⟩) (fun v n9 f9 hE107 => ?_)
                  obtain ⟨rfl, rfl, rfl⟩ := hE107
                  exact qr_iret (pc := 110) d_bf_event_110 rfl rfl ⟨(by grind [noC]), (by simp [*]), rfl, (by simp [*])⟩ (Nat.zero_le _) (Nat.zero_le _)
                · skip
                  simp only [b01, Decidable.not_not] at h80
                  have hz8 : z = 80 := by
                    have := (nI_leI (a := 80) (b := z) (by omega) (by omega)).mp h80
                    omega
                  exact qr_throw (pc := 83) ⟨87, 89, d_bf_event_83, d_bf_event_86, d_bf_event_87, d_bf_event_90, cl_bf_87, ie_IllegalStateException, th_IllegalStateException, (by decide +kernel)⟩ (Nat.le_of_ble_eq_true rfl) ⟨Or.inr (Or.inr ⟨rfl, by grind [noC], by grind, h68, hz8⟩), rfl, rfl⟩ (Nat.le_of_ble_eq_true rfl) (Nat.le_of_ble_eq_true rfl)
              · skip
                simp only [b01, Decidable.not_not] at h68
                refine qr_iconst (v := 0) (pc := 71) d_bf_event_71 (by decide) ?_
                exact qr_iret (pc := 72) d_bf_event_72 rfl rfl ⟨(by grind [noC]), (by simp [*]), rfl, (by simp [*])⟩ (Nat.zero_le _) (Nat.zero_le _)
            · skip
              have g49 := Int32.not_le.mp h49
              exact qr_throw (pc := 52) ⟨147, 149, d_bf_event_52, d_bf_event_55, d_bf_event_56, d_bf_event_59, cl_bf_147, ie_IndexOutOfBoundsException, th_IndexOutOfBoundsException, (by decide +kernel)⟩ (Nat.le_of_ble_eq_true rfl) ⟨Or.inr (Or.inl ⟨rfl, by grind [noC], by grind⟩), rfl, rfl⟩ (Nat.le_of_ble_eq_true rfl) (Nat.le_of_ble_eq_true rfl)
      · skip
        have g18 := Int32.not_le.mp h18
        exact qr_throw (pc := 21) ⟨80, 82, d_bf_event_21, d_bf_event_24, d_bf_event_25, d_bf_event_28, cl_bf_80, ie_IllegalArgumentException, th_IllegalArgumentException, (by decide +kernel)⟩ (Nat.le_of_ble_eq_true rfl) ⟨Or.inl ⟨rfl, by grind [noC]⟩, rfl, rfl⟩ (Nat.le_of_ble_eq_true rfl) (Nat.le_of_ble_eq_true rfl)
set_option maxRecDepth 10000 in
theorem r_bf_tick (l : Launch) (x : Bool) (I : Nat → Nat → Int32) (L : Nat → Nat → Int64) (z : Nat) (hz : I 14 5 = nI z) (hz2 : z ≤ 50) (d : Int32) : qR (l, y_bf_tick.cls, b_bf_tick, 3, (some .int), false, x, 9, 1, 6, 77, q0) (qE2 (¬ (d < 1 ∨ 40 < d) ∧ ¬ 400 < I 0 9 + d) (some (.int (u_tk I L z d.toNatClampNeg 0 9))) (fm (u_tk I L z d.toNatClampNeg) L)) (qX2 (fm I L) (fun En => (En = xA ∧ (d < 1 ∨ 40 < d)) ∨ (En = xS ∧ ¬ (d < 1 ∨ 40 < d) ∧ 400 < I 0 9 + d))) 0 [(0, .ref 0), (1, .int d)] [] 77 0 0 (fm I L) := by
  refine qr_iload_n (pc := 0) d_bf_tick_0 rfl rfl ?_
  refine qr_iconst (v := 1) (pc := 1) d_bf_tick_1 (by decide) ?_
  refine qr_icmp_lt (tgt := 11) (pc := 2) d_bf_tick_2 (by decide) (fun h2 => ?_) (fun h2 => ?_)
  · skip
    exact qr_throw (pc := 11) ⟨80, 82, d_bf_tick_11, d_bf_tick_14, d_bf_tick_15, d_bf_tick_18, cl_bf_80, ie_IllegalArgumentException, th_IllegalArgumentException, (by decide +kernel)⟩ (Nat.le_of_ble_eq_true rfl) ⟨Or.inl ⟨rfl, by simp [*]⟩, rfl, rfl⟩ (Nat.le_of_ble_eq_true rfl) (Nat.le_of_ble_eq_true rfl)
  · skip
    refine qr_iload_n (pc := 5) d_bf_tick_5 rfl rfl ?_
    refine qr_bipush (v := 40) (pc := 6) d_bf_tick_6 (by decide) ?_
    refine qr_icmp_le (tgt := 19) (pc := 8) d_bf_tick_8 (by decide) (fun h8 => ?_) (fun h8 => ?_)
    · skip
      have g8 := Int32.not_lt.mpr h8
      refine qr_aload_n (pc := 19) d_bf_tick_19 rfl rfl ?_
      refine qr_get (v := .int (I 0 9)) (pc := 20) d_bf_tick_20 fl_bf_60 (by decide) (by decide) (c_0 _ _) rfl ?_
      refine qr_iload_n (pc := 23) d_bf_tick_23 rfl rfl ?_
      refine qr_iadd (pc := 24) d_bf_tick_24 ?_
      refine qr_sipush (v := 400) (pc := 25) d_bf_tick_25 (by decide) ?_
      refine qr_icmp_le (tgt := 39) (pc := 28) d_bf_tick_28 (by decide) (fun h28 => ?_) (fun h28 => ?_)
      · skip
        have g28 := Int32.not_lt.mpr h28
        obtain ⟨d9, hd9, rfl⟩ := nI_of2 (M := 40) (n := 40) (by decide) (fun q => h2 (Int32.lt_trans q (by decide))) h8
        have dcl : (nI d9).toNatClampNeg = d9 := nI_clamp (by omega)
        refine qr_iconst (v := 0) (pc := 39) d_bf_tick_39 (by decide) ?_
        refine qr_istore_n (lv' := [(2, .int 0), (0, .ref 0), (1, .int (nI d9))]) (pc := 40) d_bf_tick_40 rfl (Nat.le_of_ble_eq_true rfl) rfl ?_
        have loop41 : ∀ (j k : Nat), d9 - k < j → k ≤ d9 → qR (l, y_bf_tick.cls, b_bf_tick, 3, (some .int), false, x, 9, 1, 6, 77, q0) (qE2 (¬ ((nI d9) < 1 ∨ 40 < (nI d9)) ∧ ¬ 400 < I 0 9 + (nI d9)) (some (.int (u_tk I L z (nI d9).toNatClampNeg 0 9))) (fm (u_tk I L z (nI d9).toNatClampNeg) L)) (qX2 (fm I L) (fun En => (En = xA ∧ ((nI d9) < 1 ∨ 40 < (nI d9))) ∨ (En = xS ∧ ¬ ((nI d9) < 1 ∨ 40 < (nI d9)) ∧ 400 < I 0 9 + (nI d9)))) 41 [(2, .int (nI k)), (0, .ref 0), (1, .int (nI d9))] [] 77 0 0 (fm (u_tk I L z k) L) := by
          intro j
          induction j with
          | zero => intro k hj; omega
          | succ j ih =>
          intro k hjj hk
          have hk14 : (u_tk I L z k) 14 5 = nI z := (u_tk_14 k).trans hz
          refine qr_iload_n (pc := 41) d_bf_tick_41 rfl rfl ?_
          refine qr_iload_n (pc := 42) d_bf_tick_42 rfl rfl ?_
          refine qr_icmp_ge (tgt := 56) (pc := 43) d_bf_tick_43 (by decide) (fun h43 => ?_) (fun h43 => ?_)
          · skip
            have hkz : d9 = k := by
              have := (nI_leI (a := d9) (b := k) (by omega) (by omega)).mp h43
              omega
            subst hkz
            refine qr_aload_n (pc := 56) d_bf_tick_56 rfl rfl ?_
            refine qr_get (v := .int ((u_tk I L z d9) 0 9)) (pc := 57) d_bf_tick_57 fl_bf_60 (by decide) (by decide) (c_0 _ _) rfl ?_
            exact qr_iret (pc := 60) d_bf_tick_60 rfl rfl ⟨(by simp [*]), (by simp [*]), rfl, (by simp [*])⟩ (Nat.zero_le _) (Nat.zero_le _)
          · skip
            have hkz : k < d9 := by
              have := mt (nI_leI (a := d9) (b := k) (by omega) (by omega)).mpr h43
              omega
            refine qr_aload_n (pc := 46) d_bf_tick_46 rfl rfl ?_
            refine qr_callV (q := 0) (As := []) (pc := 47) d_bf_tick_47 lk_bf_163 im_bf_passDay se_bf_passDay rfl (by decide) (by decide) (c_0 _ _) (s_bf_passDay _ x (u_tk I L z k) L z hk14 hz2) rfl rfl (Nat.le_of_ble_eq_true rfl) (Nat.le_of_ble_eq_true rfl) (Nat.le_of_ble_eq_true rfl) (Nat.zero_le _) (Nat.zero_le _) (fun h => ⟨h, rfl, Or.inl rfl⟩) (fun v n9 f9 hE47 => ?_)
            obtain ⟨rfl, rfl, rfl⟩ := hE47
            refine qr_iinc (v := nI (k + 1)) (lv' := [(2, .int (nI (k + 1))), (0, .ref 0), (1, .int (nI d9))]) (pc := 50) d_bf_tick_50 rfl (nI_1 k) (Nat.le_of_ble_eq_true rfl) rfl ?_
            refine qr_goto (tgt := 41) (pc := 53) d_bf_tick_53 (by decide) ?_
            exact qR_st (by rfl) rfl (rfl) (ih (k + 1) (by omega) (by omega))
        exact loop41 (d9 + 1) 0 (by omega) (by omega)
      · skip
        have g28 := Int32.not_le.mp h28
        exact qr_throw (pc := 31) ⟨87, 89, d_bf_tick_31, d_bf_tick_34, d_bf_tick_35, d_bf_tick_38, cl_bf_87, ie_IllegalStateException, th_IllegalStateException, (by decide +kernel)⟩ (Nat.le_of_ble_eq_true rfl) ⟨Or.inr ⟨rfl, by simp [*], g28⟩, rfl, rfl⟩ (Nat.le_of_ble_eq_true rfl) (Nat.le_of_ble_eq_true rfl)
    · skip
      have g8 := Int32.not_le.mp h8
      exact qr_throw (pc := 11) ⟨80, 82, d_bf_tick_11, d_bf_tick_14, d_bf_tick_15, d_bf_tick_18, cl_bf_80, ie_IllegalArgumentException, th_IllegalArgumentException, (by decide +kernel)⟩ (Nat.le_of_ble_eq_true rfl) ⟨Or.inl ⟨rfl, by simp [*]⟩, rfl, rfl⟩ (Nat.le_of_ble_eq_true rfl) (Nat.le_of_ble_eq_true rfl)
