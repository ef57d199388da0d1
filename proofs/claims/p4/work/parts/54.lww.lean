/-! the law's wrappers, over the contract of what they call -/
set_option maxRecDepth 10000 in
theorem w_text {l : Launch} {I I1 : Nat → Nat → Int32} {L L1 : Nat → Nat → Int64} {pa : Int64} {c : Prop} {r : Int32} {P : String → Prop} (h : qSp2 l y_bf_text b_bf_text 4 (some .int) 9 1 6 [.ref 0, .long pa] 77 (fm I L) (qE2 c (some (.int r)) (fm I1 L1)) (qX2 (fm I L) P)) (hP : ∀ En, P En → En = xA ∨ En = xS) : qSpW l y_lw_text b_lw_text 5 (some .int) hh_text 10 1 6 [.ref 0, .long pa, .ref 76] 77 (fm I L) (qEw c (fm I1 (wL L1 76 0 (Int32.toInt64 r))) (fm I L) [(xA, 1), (xS, 2)] P) := by
  refine qSpW_of (by decide +kernel) (Nat.le_of_ble_eq_true rfl) ?_
  refine qr_aload_n (pc := 0) d_lw_text_0 rfl rfl ?_
  refine qr_iconst (v := 0) (pc := 1) d_lw_text_1 (by decide) ?_
  refine qr_aload_n (pc := 2) d_lw_text_2 rfl rfl ?_
  refine qr_lload_n (pc := 3) d_lw_text_3 rfl rfl ?_
  refine qr_callVT (q := 0) (As := [.long pa]) (hh := hh_text) (fun _ _ _ _ h => h) rfl (pc := 4) d_lw_text_4 lk_lw_7 im_bf_text se_bf_text rfl (by decide) (by decide) (c_0 _ _) h rfl rfl (Nat.le_of_ble_eq_true rfl) (Nat.le_of_ble_eq_true rfl) (Nat.le_of_ble_eq_true rfl) (Nat.le_of_ble_eq_true rfl) (Nat.le_of_ble_eq_true rfl) (fun v n9 f9 hE => ?_) (fun En n9 f9 hX => ?_)
  · obtain ⟨hc, rfl, rfl, rfl⟩ := hE
    refine qr_i2l (pc := 7) d_lw_text_7 ?_
    refine qr_lastMN (j := 0) (pc := 8) d_lw_text_8 (by decide) (by decide) (c_76 _ _) (by decide) (by decide) (fun w => rfl) ?_
    refine qr_goto (tgt := 20) (pc := 9) d_lw_text_9 (by decide) ?_
    refine qr_iconst (v := 0) (pc := 20) d_lw_text_20 (by decide) ?_
    exact qr_iret (pc := 21) d_lw_text_21 rfl rfl ⟨rfl, Or.inl ⟨hc, rfl, rfl⟩⟩ (Nat.le_of_ble_eq_true rfl) (Nat.le_of_ble_eq_true rfl)
  · obtain ⟨hp, rfl, rfl⟩ := hX
    rcases hP En hp with rfl | rfl
    · exact ⟨12, 1, (qRows_hit (by decide) (by decide) (by decide) cl_lw_13 (List.mem_of_getElem? (i := 3) rfl)), ti_xA, Or.inr ⟨4, d_lw_text_12, Nat.le_of_ble_eq_true rfl, d_lw_text_14, d_lw_text_15⟩, rfl, Or.inr ⟨_, List.mem_of_getElem? (i := 0) rfl, hp, rfl, rfl⟩⟩
    · exact ⟨16, 2, (qRows_pass (by decide) (by decide) (by decide) cl_lw_13 (List.mem_of_getElem? (i := 0) rfl) (qRows_hit (by decide) (by decide) (by decide) cl_lw_15 (List.mem_of_getElem? (i := 4) rfl))), ti_xS, Or.inr ⟨4, d_lw_text_16, Nat.le_of_ble_eq_true rfl, d_lw_text_18, d_lw_text_19⟩, rfl, Or.inr ⟨_, List.mem_of_getElem? (i := 1) rfl, hp, rfl, rfl⟩⟩
set_option maxRecDepth 10000 in
theorem w_tariff {l : Launch} {I I1 : Nat → Nat → Int32} {L L1 : Nat → Nat → Int64} {pa : Int32} {c : Prop} {r : Int32} {P : String → (Nat → va_E) → Prop} (h : qSp2 l y_bf_tariff b_bf_tariff 2 (some .int) 9 1 6 [.ref 0, .int pa] 77 (fm I L) (qE2 c (some (.int r)) (fm I1 L1)) (qX3 P)) (hP : ∀ En f, P En f → En = xA) : qSpW l y_lw_tariff b_lw_tariff 4 (some .int) hh_tariff 10 1 6 [.ref 0, .int pa, .ref 76] 77 (fm I L) (qEw3 c (fm I1 (wL L1 76 0 (Int32.toInt64 r))) [(xA, 1)] P) := by
  refine qSpW_of (by decide +kernel) (Nat.le_of_ble_eq_true rfl) ?_
  refine qr_aload_n (pc := 0) d_lw_tariff_0 rfl rfl ?_
  refine qr_iconst (v := 0) (pc := 1) d_lw_tariff_1 (by decide) ?_
  refine qr_aload_n (pc := 2) d_lw_tariff_2 rfl rfl ?_
  refine qr_iload_n (pc := 3) d_lw_tariff_3 rfl rfl ?_
  refine qr_callVT (q := 0) (As := [.int pa]) (hh := hh_tariff) (fun _ _ _ _ h => h) rfl (pc := 4) d_lw_tariff_4 lk_lw_17 im_bf_tariff se_bf_tariff rfl (by decide) (by decide) (c_0 _ _) h rfl rfl (Nat.le_of_ble_eq_true rfl) (Nat.le_of_ble_eq_true rfl) (Nat.le_of_ble_eq_true rfl) (Nat.le_of_ble_eq_true rfl) (Nat.le_of_ble_eq_true rfl) (fun v n9 f9 hE => ?_) (fun En n9 f9 hX => ?_)
  · obtain ⟨hc, rfl, rfl, rfl⟩ := hE
    refine qr_i2l (pc := 7) d_lw_tariff_7 ?_
    refine qr_lastMN (j := 0) (pc := 8) d_lw_tariff_8 (by decide) (by decide) (c_76 _ _) (by decide) (by decide) (fun w => rfl) ?_
    refine qr_goto (tgt := 15) (pc := 9) d_lw_tariff_9 (by decide) ?_
    refine qr_iconst (v := 0) (pc := 15) d_lw_tariff_15 (by decide) ?_
    exact qr_iret (pc := 16) d_lw_tariff_16 rfl rfl ⟨rfl, Or.inl ⟨hc, rfl, rfl⟩⟩ (Nat.le_of_ble_eq_true rfl) (Nat.le_of_ble_eq_true rfl)
  · obtain ⟨hp, rfl⟩ := hX
    obtain rfl := hP En _ hp
    exact ⟨12, 1, (qRows_hit (by decide) (by decide) (by decide) cl_lw_13 (List.mem_of_getElem? (i := 3) rfl)), ti_xA, Or.inl ⟨3, d_lw_tariff_12, Nat.le_of_ble_eq_true rfl, d_lw_tariff_13, d_lw_tariff_14⟩, rfl, Or.inr ⟨_, List.mem_of_getElem? (i := 0) rfl, hp, rfl⟩⟩
set_option maxRecDepth 10000 in
theorem w_use {l : Launch} {I I1 : Nat → Nat → Int32} {L L1 : Nat → Nat → Int64} {pa : Int32} {pb : Int32} {c : Prop} {r : Int64} {P : String → Prop} (h : qSp2 l y_bf_use b_bf_use 3 (some .long) 9 1 6 [.ref 0, .int pa, .int pb] 77 (fm I L) (qE2 c (some (.long r)) (fm I1 L1)) (qX2 (fm I L) P)) (hP : ∀ En, P En → En = xA) : qSpW l y_lw_use b_lw_use 5 (some .int) hh_use 10 1 6 [.ref 0, .int pa, .int pb, .ref 76] 77 (fm I L) (qEw c (fm I1 (wL L1 76 0 r)) (fm I L) [(xA, 1)] P) := by
  refine qSpW_of (by decide +kernel) (Nat.le_of_ble_eq_true rfl) ?_
  refine qr_aload_n (pc := 0) d_lw_use_0 rfl rfl ?_
  refine qr_iconst (v := 0) (pc := 1) d_lw_use_1 (by decide) ?_
  refine qr_aload_n (pc := 2) d_lw_use_2 rfl rfl ?_
  refine qr_iload_n (pc := 3) d_lw_use_3 rfl rfl ?_
  refine qr_iload_n (pc := 4) d_lw_use_4 rfl rfl ?_
  refine qr_callVT (q := 0) (As := [.int pa, .int pb]) (hh := hh_use) (fun _ _ _ _ h => h) rfl (pc := 5) d_lw_use_5 lk_lw_21 im_bf_use se_bf_use rfl (by decide) (by decide) (c_0 _ _) h rfl rfl (Nat.le_of_ble_eq_true rfl) (Nat.le_of_ble_eq_true rfl) (Nat.le_of_ble_eq_true rfl) (Nat.le_of_ble_eq_true rfl) (Nat.le_of_ble_eq_true rfl) (fun v n9 f9 hE => ?_) (fun En n9 f9 hX => ?_)
  · obtain ⟨hc, rfl, rfl, rfl⟩ := hE
    refine qr_lastMN (j := 0) (pc := 8) d_lw_use_8 (by decide) (by decide) (c_76 _ _) (by decide) (by decide) (fun w => rfl) ?_
    refine qr_goto (tgt := 16) (pc := 9) d_lw_use_9 (by decide) ?_
    refine qr_iconst (v := 0) (pc := 16) d_lw_use_16 (by decide) ?_
    exact qr_iret (pc := 17) d_lw_use_17 rfl rfl ⟨rfl, Or.inl ⟨hc, rfl, rfl⟩⟩ (Nat.le_of_ble_eq_true rfl) (Nat.le_of_ble_eq_true rfl)
  · obtain ⟨hp, rfl, rfl⟩ := hX
    obtain rfl := hP En hp
    exact ⟨12, 1, (qRows_hit (by decide) (by decide) (by decide) cl_lw_13 (List.mem_of_getElem? (i := 3) rfl)), ti_xA, Or.inr ⟨4, d_lw_use_12, Nat.le_of_ble_eq_true rfl, d_lw_use_14, d_lw_use_15⟩, rfl, Or.inr ⟨_, List.mem_of_getElem? (i := 0) rfl, hp, rfl, rfl⟩⟩
set_option maxRecDepth 10000 in
theorem w_subscribe {l : Launch} {I I1 : Nat → Nat → Int32} {L L1 : Nat → Nat → Int64} {pa : Int32} {pb : Int32} {c : Prop} {r : Int32} {P : String → Prop} (h : qSp2 l y_bf_subscribe b_bf_subscribe 4 (some .int) 9 1 6 [.ref 0, .int pa, .int pb] 77 (fm I L) (qE2 c (some (.int r)) (fm I1 L1)) (qX2 (fm I L) P)) (hP : ∀ En, P En → En = xA) : qSpW l y_lw_subscribe b_lw_subscribe 5 (some .int) hh_subscribe 10 1 6 [.ref 0, .int pa, .int pb, .ref 76] 77 (fm I L) (qEw c (fm I1 (wL L1 76 0 (Int32.toInt64 r))) (fm I L) [(xA, 1)] P) := by
  refine qSpW_of (by decide +kernel) (Nat.le_of_ble_eq_true rfl) ?_
  refine qr_aload_n (pc := 0) d_lw_subscribe_0 rfl rfl ?_
  refine qr_iconst (v := 0) (pc := 1) d_lw_subscribe_1 (by decide) ?_
  refine qr_aload_n (pc := 2) d_lw_subscribe_2 rfl rfl ?_
  refine qr_iload_n (pc := 3) d_lw_subscribe_3 rfl rfl ?_
  refine qr_iload_n (pc := 4) d_lw_subscribe_4 rfl rfl ?_
  refine qr_callVT (q := 0) (As := [.int pa, .int pb]) (hh := hh_subscribe) (fun _ _ _ _ h => h) rfl (pc := 5) d_lw_subscribe_5 lk_lw_25 im_bf_subscribe se_bf_subscribe rfl (by decide) (by decide) (c_0 _ _) h rfl rfl (Nat.le_of_ble_eq_true rfl) (Nat.le_of_ble_eq_true rfl) (Nat.le_of_ble_eq_true rfl) (Nat.le_of_ble_eq_true rfl) (Nat.le_of_ble_eq_true rfl) (fun v n9 f9 hE => ?_) (fun En n9 f9 hX => ?_)
  · obtain ⟨hc, rfl, rfl, rfl⟩ := hE
    refine qr_i2l (pc := 8) d_lw_subscribe_8 ?_
    refine qr_lastMN (j := 0) (pc := 9) d_lw_subscribe_9 (by decide) (by decide) (c_76 _ _) (by decide) (by decide) (fun w => rfl) ?_
    refine qr_goto (tgt := 17) (pc := 10) d_lw_subscribe_10 (by decide) ?_
    refine qr_iconst (v := 0) (pc := 17) d_lw_subscribe_17 (by decide) ?_
    exact qr_iret (pc := 18) d_lw_subscribe_18 rfl rfl ⟨rfl, Or.inl ⟨hc, rfl, rfl⟩⟩ (Nat.le_of_ble_eq_true rfl) (Nat.le_of_ble_eq_true rfl)
  · obtain ⟨hp, rfl, rfl⟩ := hX
    obtain rfl := hP En hp
    exact ⟨13, 1, (qRows_hit (by decide) (by decide) (by decide) cl_lw_13 (List.mem_of_getElem? (i := 3) rfl)), ti_xA, Or.inr ⟨4, d_lw_subscribe_13, Nat.le_of_ble_eq_true rfl, d_lw_subscribe_15, d_lw_subscribe_16⟩, rfl, Or.inr ⟨_, List.mem_of_getElem? (i := 0) rfl, hp, rfl, rfl⟩⟩
set_option maxRecDepth 10000 in
theorem w_pause {l : Launch} {I I1 : Nat → Nat → Int32} {L L1 : Nat → Nat → Int64} {pa : Int32} {pb : Int32} {c : Prop} {r : Int32} {P : String → Prop} (h : qSp2 l y_bf_pause b_bf_pause 5 (some .boolean) 9 1 6 [.ref 0, .int pa, .int pb] 77 (fm I L) (qE2 c (some (.int r)) (fm I1 L1)) (qX2 (fm I L) P)) (hP : ∀ En, P En → En = xA ∨ En = xS) : qSpW l y_lw_pause b_lw_pause 5 (some .int) hh_pause 10 1 6 [.ref 0, .int pa, .int pb, .ref 76] 77 (fm I L) (qEw c (fm I1 (wL L1 76 0 (if r = 0 then 0 else 1))) (fm I L) [(xA, 1), (xS, 2)] P) := by
  refine qSpW_of (by decide +kernel) (Nat.le_of_ble_eq_true rfl) ?_
  refine qr_aload_n (pc := 0) d_lw_pause_0 rfl rfl ?_
  refine qr_iconst (v := 0) (pc := 1) d_lw_pause_1 (by decide) ?_
  refine qr_aload_n (pc := 2) d_lw_pause_2 rfl rfl ?_
  refine qr_iload_n (pc := 3) d_lw_pause_3 rfl rfl ?_
  refine qr_iload_n (pc := 4) d_lw_pause_4 rfl rfl ?_
  refine qr_callVT (q := 0) (As := [.int pa, .int pb]) (hh := hh_pause) (fun _ _ _ _ h => h) rfl (pc := 5) d_lw_pause_5 lk_lw_29 im_bf_pause se_bf_pause rfl (by decide) (by decide) (c_0 _ _) h rfl rfl (Nat.le_of_ble_eq_true rfl) (Nat.le_of_ble_eq_true rfl) (Nat.le_of_ble_eq_true rfl) (Nat.le_of_ble_eq_true rfl) (Nat.le_of_ble_eq_true rfl) (fun v n9 f9 hE => ?_) (fun En n9 f9 hX => ?_)
  · obtain ⟨hc, rfl, rfl, rfl⟩ := hE
    refine qr_if_eq (tgt := 15) (pc := 8) d_lw_pause_8 (by decide) (fun h9 => ?_) (fun h9 => ?_)
    · refine qr_lconst (v := 0) (pc := 15) d_lw_pause_15 (by decide) ?_
      refine qr_lastMN (j := 0) (pc := 16) d_lw_pause_16 (by decide) (by decide) (c_76 _ _) (by decide) (by decide) (fun w => rfl) ?_
      refine qr_goto (tgt := 28) (pc := 17) d_lw_pause_17 (by decide) ?_
      refine qr_iconst (v := 0) (pc := 28) d_lw_pause_28 (by decide) ?_
      exact qr_iret (pc := 29) d_lw_pause_29 rfl rfl ⟨rfl, Or.inl ⟨hc, rfl, (by rw [if_pos h9])⟩⟩ (Nat.le_of_ble_eq_true rfl) (Nat.le_of_ble_eq_true rfl)
    · refine qr_lconst (v := 1) (pc := 11) d_lw_pause_11 (by decide) ?_
      refine qr_goto (tgt := 16) (pc := 12) d_lw_pause_12 (by decide) ?_
      refine qr_lastMN (j := 0) (pc := 16) d_lw_pause_16 (by decide) (by decide) (c_76 _ _) (by decide) (by decide) (fun w => rfl) ?_
      refine qr_goto (tgt := 28) (pc := 17) d_lw_pause_17 (by decide) ?_
      refine qr_iconst (v := 0) (pc := 28) d_lw_pause_28 (by decide) ?_
      exact qr_iret (pc := 29) d_lw_pause_29 rfl rfl ⟨rfl, Or.inl ⟨hc, rfl, (by rw [if_neg h9])⟩⟩ (Nat.le_of_ble_eq_true rfl) (Nat.le_of_ble_eq_true rfl)
  · obtain ⟨hp, rfl, rfl⟩ := hX
    rcases hP En hp with rfl | rfl
    · exact ⟨20, 1, (qRows_hit (by decide) (by decide) (by decide) cl_lw_13 (List.mem_of_getElem? (i := 3) rfl)), ti_xA, Or.inr ⟨4, d_lw_pause_20, Nat.le_of_ble_eq_true rfl, d_lw_pause_22, d_lw_pause_23⟩, rfl, Or.inr ⟨_, List.mem_of_getElem? (i := 0) rfl, hp, rfl, rfl⟩⟩
    · exact ⟨24, 2, (qRows_pass (by decide) (by decide) (by decide) cl_lw_13 (List.mem_of_getElem? (i := 0) rfl) (qRows_hit (by decide) (by decide) (by decide) cl_lw_15 (List.mem_of_getElem? (i := 4) rfl))), ti_xS, Or.inr ⟨4, d_lw_pause_24, Nat.le_of_ble_eq_true rfl, d_lw_pause_26, d_lw_pause_27⟩, rfl, Or.inr ⟨_, List.mem_of_getElem? (i := 1) rfl, hp, rfl, rfl⟩⟩
set_option maxRecDepth 10000 in
theorem w_event {l : Launch} {I I1 : Nat → Nat → Int32} {L L1 : Nat → Nat → Int64} {pa : Int32} {pb : Int32} {pc : Int32} {pd : Int32} {c : Prop} {r : Int32} {P : String → Prop} (h : qSp2 l y_bf_event b_bf_event 5 (some .int) 9 1 6 [.ref 0, .int pa, .int pb, .int pc, .int pd] 77 (fm I L) (qE2 c (some (.int r)) (fm I1 L1)) (qX2 (fm I L) P)) (hP : ∀ En, P En → En = xA ∨ En = xI ∨ En = xS) : qSpW l y_lw_event b_lw_event 7 (some .int) hh_event 10 1 6 [.ref 0, .int pa, .int pb, .int pc, .int pd, .ref 76] 77 (fm I L) (qEw c (fm I1 (wL L1 76 0 (Int32.toInt64 r))) (fm I L) [(xA, 1), (xI, 2), (xS, 3)] P) := by
  refine qSpW_of (by decide +kernel) (Nat.le_of_ble_eq_true rfl) ?_
  refine qr_aload (pc := 0) d_lw_event_0 rfl ?_
  refine qr_iconst (v := 0) (pc := 2) d_lw_event_2 (by decide) ?_
  refine qr_aload_n (pc := 3) d_lw_event_3 rfl rfl ?_
  refine qr_iload_n (pc := 4) d_lw_event_4 rfl rfl ?_
  refine qr_iload_n (pc := 5) d_lw_event_5 rfl rfl ?_
  refine qr_iload_n (pc := 6) d_lw_event_6 rfl rfl ?_
  refine qr_iload (pc := 7) d_lw_event_7 rfl ?_
  refine qr_callVT (q := 0) (As := [.int pa, .int pb, .int pc, .int pd]) (hh := hh_event) (fun _ _ _ _ h => h) rfl (pc := 9) d_lw_event_9 lk_lw_33 im_bf_event se_bf_event rfl (by decide) (by decide) (c_0 _ _) h rfl rfl (Nat.le_of_ble_eq_true rfl) (Nat.le_of_ble_eq_true rfl) (Nat.le_of_ble_eq_true rfl) (Nat.le_of_ble_eq_true rfl) (Nat.le_of_ble_eq_true rfl) (fun v n9 f9 hE => ?_) (fun En n9 f9 hX => ?_)
  · obtain ⟨hc, rfl, rfl, rfl⟩ := hE
    refine qr_i2l (pc := 12) d_lw_event_12 ?_
    refine qr_lastMN (j := 0) (pc := 13) d_lw_event_13 (by decide) (by decide) (c_76 _ _) (by decide) (by decide) (fun w => rfl) ?_
    refine qr_goto (tgt := 29) (pc := 14) d_lw_event_14 (by decide) ?_
    refine qr_iconst (v := 0) (pc := 29) d_lw_event_29 (by decide) ?_
    exact qr_iret (pc := 30) d_lw_event_30 rfl rfl ⟨rfl, Or.inl ⟨hc, rfl, rfl⟩⟩ (Nat.le_of_ble_eq_true rfl) (Nat.le_of_ble_eq_true rfl)
  · obtain ⟨hp, rfl, rfl⟩ := hX
    rcases hP En hp with rfl | rfl | rfl
    · exact ⟨17, 1, (qRows_hit (by decide) (by decide) (by decide) cl_lw_13 (List.mem_of_getElem? (i := 3) rfl)), ti_xA, Or.inr ⟨6, d_lw_event_17, Nat.le_of_ble_eq_true rfl, d_lw_event_19, d_lw_event_20⟩, rfl, Or.inr ⟨_, List.mem_of_getElem? (i := 0) rfl, hp, rfl, rfl⟩⟩
    · exact ⟨21, 2, (qRows_pass (by decide) (by decide) (by decide) cl_lw_13 (List.mem_of_getElem? (i := 1) rfl) (qRows_hit (by decide) (by decide) (by decide) cl_lw_37 (List.mem_of_getElem? (i := 5) rfl))), ti_xI, Or.inr ⟨6, d_lw_event_21, Nat.le_of_ble_eq_true rfl, d_lw_event_23, d_lw_event_24⟩, rfl, Or.inr ⟨_, List.mem_of_getElem? (i := 1) rfl, hp, rfl, rfl⟩⟩
    · exact ⟨25, 3, (qRows_pass (by decide) (by decide) (by decide) cl_lw_13 (List.mem_of_getElem? (i := 0) rfl) (qRows_pass (by decide) (by decide) (by decide) cl_lw_37 (List.mem_of_getElem? (i := 2) rfl) (qRows_hit (by decide) (by decide) (by decide) cl_lw_15 (List.mem_of_getElem? (i := 4) rfl)))), ti_xS, Or.inr ⟨6, d_lw_event_25, Nat.le_of_ble_eq_true rfl, d_lw_event_27, d_lw_event_28⟩, rfl, Or.inr ⟨_, List.mem_of_getElem? (i := 2) rfl, hp, rfl, rfl⟩⟩
set_option maxRecDepth 10000 in
theorem w_tick {l : Launch} {I I1 : Nat → Nat → Int32} {L L1 : Nat → Nat → Int64} {pa : Int32} {c : Prop} {r : Int32} {P : String → Prop} (h : qSp2 l y_bf_tick b_bf_tick 3 (some .int) 9 1 6 [.ref 0, .int pa] 77 (fm I L) (qE2 c (some (.int r)) (fm I1 L1)) (qX2 (fm I L) P)) (hP : ∀ En, P En → En = xA ∨ En = xS) : qSpW l y_lw_tick b_lw_tick 4 (some .int) hh_tick 10 1 6 [.ref 0, .int pa, .ref 76] 77 (fm I L) (qEw c (fm I1 (wL L1 76 0 (Int32.toInt64 r))) (fm I L) [(xA, 1), (xS, 2)] P) := by
  refine qSpW_of (by decide +kernel) (Nat.le_of_ble_eq_true rfl) ?_
  refine qr_aload_n (pc := 0) d_lw_tick_0 rfl rfl ?_
  refine qr_iconst (v := 0) (pc := 1) d_lw_tick_1 (by decide) ?_
  refine qr_aload_n (pc := 2) d_lw_tick_2 rfl rfl ?_
  refine qr_iload_n (pc := 3) d_lw_tick_3 rfl rfl ?_
  refine qr_callVT (q := 0) (As := [.int pa]) (hh := hh_tick) (fun _ _ _ _ h => h) rfl (pc := 4) d_lw_tick_4 lk_lw_39 im_bf_tick se_bf_tick rfl (by decide) (by decide) (c_0 _ _) h rfl rfl (Nat.le_of_ble_eq_true rfl) (Nat.le_of_ble_eq_true rfl) (Nat.le_of_ble_eq_true rfl) (Nat.le_of_ble_eq_true rfl) (Nat.le_of_ble_eq_true rfl) (fun v n9 f9 hE => ?_) (fun En n9 f9 hX => ?_)
  · obtain ⟨hc, rfl, rfl, rfl⟩ := hE
    refine qr_i2l (pc := 7) d_lw_tick_7 ?_
    refine qr_lastMN (j := 0) (pc := 8) d_lw_tick_8 (by decide) (by decide) (c_76 _ _) (by decide) (by decide) (fun w => rfl) ?_
    refine qr_goto (tgt := 18) (pc := 9) d_lw_tick_9 (by decide) ?_
    refine qr_iconst (v := 0) (pc := 18) d_lw_tick_18 (by decide) ?_
    exact qr_iret (pc := 19) d_lw_tick_19 rfl rfl ⟨rfl, Or.inl ⟨hc, rfl, rfl⟩⟩ (Nat.le_of_ble_eq_true rfl) (Nat.le_of_ble_eq_true rfl)
  · obtain ⟨hp, rfl, rfl⟩ := hX
    rcases hP En hp with rfl | rfl
    · exact ⟨12, 1, (qRows_hit (by decide) (by decide) (by decide) cl_lw_13 (List.mem_of_getElem? (i := 3) rfl)), ti_xA, Or.inl ⟨3, d_lw_tick_12, Nat.le_of_ble_eq_true rfl, d_lw_tick_13, d_lw_tick_14⟩, rfl, Or.inr ⟨_, List.mem_of_getElem? (i := 0) rfl, hp, rfl, rfl⟩⟩
    · exact ⟨15, 2, (qRows_pass (by decide) (by decide) (by decide) cl_lw_13 (List.mem_of_getElem? (i := 0) rfl) (qRows_hit (by decide) (by decide) (by decide) cl_lw_15 (List.mem_of_getElem? (i := 4) rfl))), ti_xS, Or.inl ⟨3, d_lw_tick_15, Nat.le_of_ble_eq_true rfl, d_lw_tick_16, d_lw_tick_17⟩, rfl, Or.inr ⟨_, List.mem_of_getElem? (i := 1) rfl, hp, rfl, rfl⟩⟩
set_option maxRecDepth 10000 in
theorem w_pay {l : Launch} {I I1 : Nat → Nat → Int32} {L L1 : Nat → Nat → Int64} {pa : Int32} {pb : Int64} {c : Prop} {r : Int64} {P : String → Prop} (h : qSp2 l y_bf_pay b_bf_pay 6 (some .long) 9 1 6 [.ref 0, .int pa, .long pb] 77 (fm I L) (qE2 c (some (.long r)) (fm I1 L1)) (qX2 (fm I L) P)) (hP : ∀ En, P En → En = xA) : qSpW l y_lw_pay b_lw_pay 6 (some .int) hh_pay 10 1 6 [.ref 0, .int pa, .long pb, .ref 76] 77 (fm I L) (qEw c (fm I1 (wL L1 76 0 r)) (fm I L) [(xA, 1)] P) := by
  refine qSpW_of (by decide +kernel) (Nat.le_of_ble_eq_true rfl) ?_
  refine qr_aload (pc := 0) d_lw_pay_0 rfl ?_
  refine qr_iconst (v := 0) (pc := 2) d_lw_pay_2 (by decide) ?_
  refine qr_aload_n (pc := 3) d_lw_pay_3 rfl rfl ?_
  refine qr_iload_n (pc := 4) d_lw_pay_4 rfl rfl ?_
  refine qr_lload_n (pc := 5) d_lw_pay_5 rfl rfl ?_
  refine qr_callVT (q := 0) (As := [.int pa, .long pb]) (hh := hh_pay) (fun _ _ _ _ h => h) rfl (pc := 6) d_lw_pay_6 lk_lw_42 im_bf_pay se_bf_pay rfl (by decide) (by decide) (c_0 _ _) h rfl rfl (Nat.le_of_ble_eq_true rfl) (Nat.le_of_ble_eq_true rfl) (Nat.le_of_ble_eq_true rfl) (Nat.le_of_ble_eq_true rfl) (Nat.le_of_ble_eq_true rfl) (fun v n9 f9 hE => ?_) (fun En n9 f9 hX => ?_)
  · obtain ⟨hc, rfl, rfl, rfl⟩ := hE
    refine qr_lastMN (j := 0) (pc := 9) d_lw_pay_9 (by decide) (by decide) (c_76 _ _) (by decide) (by decide) (fun w => rfl) ?_
    refine qr_goto (tgt := 17) (pc := 10) d_lw_pay_10 (by decide) ?_
    refine qr_iconst (v := 0) (pc := 17) d_lw_pay_17 (by decide) ?_
    exact qr_iret (pc := 18) d_lw_pay_18 rfl rfl ⟨rfl, Or.inl ⟨hc, rfl, rfl⟩⟩ (Nat.le_of_ble_eq_true rfl) (Nat.le_of_ble_eq_true rfl)
  · obtain ⟨hp, rfl, rfl⟩ := hX
    obtain rfl := hP En hp
    exact ⟨13, 1, (qRows_hit (by decide) (by decide) (by decide) cl_lw_13 (List.mem_of_getElem? (i := 3) rfl)), ti_xA, Or.inr ⟨5, d_lw_pay_13, Nat.le_of_ble_eq_true rfl, d_lw_pay_15, d_lw_pay_16⟩, rfl, Or.inr ⟨_, List.mem_of_getElem? (i := 0) rfl, hp, rfl, rfl⟩⟩
set_option maxRecDepth 10000 in
theorem w_plan {l : Launch} {I I1 : Nat → Nat → Int32} {L L1 : Nat → Nat → Int64} {pa : Int32} {pb : Int64} {pc : Int32} {c : Prop} {r : Int32} {P : String → Prop} (h : qSp2 l y_bf_plan b_bf_plan 5 (some .int) 9 1 6 [.ref 0, .int pa, .long pb, .int pc] 77 (fm I L) (qE2 c (some (.int r)) (fm I1 L1)) (qX2 (fm I L) P)) (hP : ∀ En, P En → En = xA ∨ En = xS) : qSpW l y_lw_plan b_lw_plan 7 (some .int) hh_plan 10 1 6 [.ref 0, .int pa, .long pb, .int pc, .ref 76] 77 (fm I L) (qEw c (fm I1 (wL L1 76 0 (Int32.toInt64 r))) (fm I L) [(xA, 1), (xS, 2)] P) := by
  refine qSpW_of (by decide +kernel) (Nat.le_of_ble_eq_true rfl) ?_
  refine qr_aload (pc := 0) d_lw_plan_0 rfl ?_
  refine qr_iconst (v := 0) (pc := 2) d_lw_plan_2 (by decide) ?_
  refine qr_aload_n (pc := 3) d_lw_plan_3 rfl rfl ?_
  refine qr_iload_n (pc := 4) d_lw_plan_4 rfl rfl ?_
  refine qr_lload_n (pc := 5) d_lw_plan_5 rfl rfl ?_
  refine qr_iload (pc := 6) d_lw_plan_6 rfl ?_
  refine qr_callVT (q := 0) (As := [.int pa, .long pb, .int pc]) (hh := hh_plan) (fun _ _ _ _ h => h) rfl (pc := 8) d_lw_plan_8 lk_lw_46 im_bf_plan se_bf_plan rfl (by decide) (by decide) (c_0 _ _) h rfl rfl (Nat.le_of_ble_eq_true rfl) (Nat.le_of_ble_eq_true rfl) (Nat.le_of_ble_eq_true rfl) (Nat.le_of_ble_eq_true rfl) (Nat.le_of_ble_eq_true rfl) (fun v n9 f9 hE => ?_) (fun En n9 f9 hX => ?_)
  · obtain ⟨hc, rfl, rfl, rfl⟩ := hE
    refine qr_i2l (pc := 11) d_lw_plan_11 ?_
    refine qr_lastMN (j := 0) (pc := 12) d_lw_plan_12 (by decide) (by decide) (c_76 _ _) (by decide) (by decide) (fun w => rfl) ?_
    refine qr_goto (tgt := 24) (pc := 13) d_lw_plan_13 (by decide) ?_
    refine qr_iconst (v := 0) (pc := 24) d_lw_plan_24 (by decide) ?_
    exact qr_iret (pc := 25) d_lw_plan_25 rfl rfl ⟨rfl, Or.inl ⟨hc, rfl, rfl⟩⟩ (Nat.le_of_ble_eq_true rfl) (Nat.le_of_ble_eq_true rfl)
  · obtain ⟨hp, rfl, rfl⟩ := hX
    rcases hP En hp with rfl | rfl
    · exact ⟨16, 1, (qRows_hit (by decide) (by decide) (by decide) cl_lw_13 (List.mem_of_getElem? (i := 3) rfl)), ti_xA, Or.inr ⟨6, d_lw_plan_16, Nat.le_of_ble_eq_true rfl, d_lw_plan_18, d_lw_plan_19⟩, rfl, Or.inr ⟨_, List.mem_of_getElem? (i := 0) rfl, hp, rfl, rfl⟩⟩
    · exact ⟨20, 2, (qRows_pass (by decide) (by decide) (by decide) cl_lw_13 (List.mem_of_getElem? (i := 0) rfl) (qRows_hit (by decide) (by decide) (by decide) cl_lw_15 (List.mem_of_getElem? (i := 4) rfl))), ti_xS, Or.inr ⟨6, d_lw_plan_20, Nat.le_of_ble_eq_true rfl, d_lw_plan_22, d_lw_plan_23⟩, rfl, Or.inr ⟨_, List.mem_of_getElem? (i := 1) rfl, hp, rfl, rfl⟩⟩
set_option maxRecDepth 10000 in
theorem w_charge {l : Launch} {I I1 : Nat → Nat → Int32} {L L1 : Nat → Nat → Int64} {pa : Int32} {pb : Int32} {c : Prop} {r : Int64} {P : String → Prop} (h : qSp2 l y_bf_charge b_bf_charge 3 (some .long) 9 1 6 [.ref 0, .int pa, .int pb] 77 (fm I L) (qE2 c (some (.long r)) (fm I1 L1)) (qX2 (fm I L) P)) (hP : ∀ En, P En → En = xA) : qSpW l y_lw_charge b_lw_charge 5 (some .int) hh_charge 10 1 6 [.ref 0, .int pa, .int pb, .ref 76] 77 (fm I L) (qEw c (fm I1 (wL L1 76 0 r)) (fm I L) [(xA, 1)] P) := by
  refine qSpW_of (by decide +kernel) (Nat.le_of_ble_eq_true rfl) ?_
  refine qr_aload_n (pc := 0) d_lw_charge_0 rfl rfl ?_
  refine qr_iconst (v := 0) (pc := 1) d_lw_charge_1 (by decide) ?_
  refine qr_aload_n (pc := 2) d_lw_charge_2 rfl rfl ?_
  refine qr_iload_n (pc := 3) d_lw_charge_3 rfl rfl ?_
  refine qr_iload_n (pc := 4) d_lw_charge_4 rfl rfl ?_
  refine qr_callVT (q := 0) (As := [.int pa, .int pb]) (hh := hh_charge) (fun _ _ _ _ h => h) rfl (pc := 5) d_lw_charge_5 lk_lw_50 im_bf_charge se_bf_charge rfl (by decide) (by decide) (c_0 _ _) h rfl rfl (Nat.le_of_ble_eq_true rfl) (Nat.le_of_ble_eq_true rfl) (Nat.le_of_ble_eq_true rfl) (Nat.le_of_ble_eq_true rfl) (Nat.le_of_ble_eq_true rfl) (fun v n9 f9 hE => ?_) (fun En n9 f9 hX => ?_)
  · obtain ⟨hc, rfl, rfl, rfl⟩ := hE
    refine qr_lastMN (j := 0) (pc := 8) d_lw_charge_8 (by decide) (by decide) (c_76 _ _) (by decide) (by decide) (fun w => rfl) ?_
    refine qr_goto (tgt := 16) (pc := 9) d_lw_charge_9 (by decide) ?_
    refine qr_iconst (v := 0) (pc := 16) d_lw_charge_16 (by decide) ?_
    exact qr_iret (pc := 17) d_lw_charge_17 rfl rfl ⟨rfl, Or.inl ⟨hc, rfl, rfl⟩⟩ (Nat.le_of_ble_eq_true rfl) (Nat.le_of_ble_eq_true rfl)
  · obtain ⟨hp, rfl, rfl⟩ := hX
    obtain rfl := hP En hp
    exact ⟨12, 1, (qRows_hit (by decide) (by decide) (by decide) cl_lw_13 (List.mem_of_getElem? (i := 3) rfl)), ti_xA, Or.inr ⟨4, d_lw_charge_12, Nat.le_of_ble_eq_true rfl, d_lw_charge_14, d_lw_charge_15⟩, rfl, Or.inr ⟨_, List.mem_of_getElem? (i := 0) rfl, hp, rfl, rfl⟩⟩
set_option maxRecDepth 10000 in
theorem w_invoice {l : Launch} {I I1 : Nat → Nat → Int32} {L L1 : Nat → Nat → Int64} {pa : Int32} {pb : Int32} {c : Prop} {r : Int64} {P : String → Prop} (h : qSp2 l y_bf_invoice b_bf_invoice 3 (some .long) 9 1 6 [.ref 0, .int pa, .int pb] 77 (fm I L) (qE2 c (some (.long r)) (fm I1 L1)) (qX2 (fm I L) P)) (hP : ∀ En, P En → En = xN ∨ En = xA) : qSpW l y_lw_invoice b_lw_invoice 5 (some .int) hh_invoice 10 1 6 [.ref 0, .int pa, .int pb, .ref 76] 77 (fm I L) (qEw c (fm I1 (wL L1 76 0 r)) (fm I L) [(xN, 1), (xA, 2)] P) := by
  refine qSpW_of (by decide +kernel) (Nat.le_of_ble_eq_true rfl) ?_
  refine qr_aload_n (pc := 0) d_lw_invoice_0 rfl rfl ?_
  refine qr_iconst (v := 0) (pc := 1) d_lw_invoice_1 (by decide) ?_
  refine qr_aload_n (pc := 2) d_lw_invoice_2 rfl rfl ?_
  refine qr_iload_n (pc := 3) d_lw_invoice_3 rfl rfl ?_
  refine qr_iload_n (pc := 4) d_lw_invoice_4 rfl rfl ?_
  refine qr_callVT (q := 0) (As := [.int pa, .int pb]) (hh := hh_invoice) (fun _ _ _ _ h => h) rfl (pc := 5) d_lw_invoice_5 lk_lw_53 im_bf_invoice se_bf_invoice rfl (by decide) (by decide) (c_0 _ _) h rfl rfl (Nat.le_of_ble_eq_true rfl) (Nat.le_of_ble_eq_true rfl) (Nat.le_of_ble_eq_true rfl) (Nat.le_of_ble_eq_true rfl) (Nat.le_of_ble_eq_true rfl) (fun v n9 f9 hE => ?_) (fun En n9 f9 hX => ?_)
  · obtain ⟨hc, rfl, rfl, rfl⟩ := hE
    refine qr_lastMN (j := 0) (pc := 8) d_lw_invoice_8 (by decide) (by decide) (c_76 _ _) (by decide) (by decide) (fun w => rfl) ?_
    refine qr_goto (tgt := 20) (pc := 9) d_lw_invoice_9 (by decide) ?_
    refine qr_iconst (v := 0) (pc := 20) d_lw_invoice_20 (by decide) ?_
    exact qr_iret (pc := 21) d_lw_invoice_21 rfl rfl ⟨rfl, Or.inl ⟨hc, rfl, rfl⟩⟩ (Nat.le_of_ble_eq_true rfl) (Nat.le_of_ble_eq_true rfl)
  · obtain ⟨hp, rfl, rfl⟩ := hX
    rcases hP En hp with rfl | rfl
    · exact ⟨12, 1, (qRows_hit (by decide) (by decide) (by decide) cl_lw_56 (List.mem_of_getElem? (i := 6) rfl)), ti_xN, Or.inr ⟨4, d_lw_invoice_12, Nat.le_of_ble_eq_true rfl, d_lw_invoice_14, d_lw_invoice_15⟩, rfl, Or.inr ⟨_, List.mem_of_getElem? (i := 0) rfl, hp, rfl, rfl⟩⟩
    · exact ⟨16, 2, (qRows_pass (by decide) (by decide) (by decide) cl_lw_56 (List.mem_of_getElem? (i := 3) rfl) (qRows_hit (by decide) (by decide) (by decide) cl_lw_13 (List.mem_of_getElem? (i := 3) rfl))), ti_xA, Or.inr ⟨4, d_lw_invoice_16, Nat.le_of_ble_eq_true rfl, d_lw_invoice_18, d_lw_invoice_19⟩, rfl, Or.inr ⟨_, List.mem_of_getElem? (i := 1) rfl, hp, rfl, rfl⟩⟩
set_option maxRecDepth 10000 in
theorem w_told {l : Launch} {I I1 : Nat → Nat → Int32} {L L1 : Nat → Nat → Int64} {pa : Int32} {pb : Int32} {c : Prop} {r : Int64} {P : String → Prop} (h : qSp2 l y_bf_told b_bf_told 3 (some .long) 9 1 6 [.ref 0, .int pa, .int pb] 77 (fm I L) (qE2 c (some (.long r)) (fm I1 L1)) (qX2 (fm I L) P)) (hP : ∀ En, P En → En = xA) : qSpW l y_lw_told b_lw_told 5 (some .int) hh_told 10 1 6 [.ref 0, .int pa, .int pb, .ref 76] 77 (fm I L) (qEw c (fm I1 (wL L1 76 0 r)) (fm I L) [(xA, 1)] P) := by
  refine qSpW_of (by decide +kernel) (Nat.le_of_ble_eq_true rfl) ?_
  refine qr_aload_n (pc := 0) d_lw_told_0 rfl rfl ?_
  refine qr_iconst (v := 0) (pc := 1) d_lw_told_1 (by decide) ?_
  refine qr_aload_n (pc := 2) d_lw_told_2 rfl rfl ?_
  refine qr_iload_n (pc := 3) d_lw_told_3 rfl rfl ?_
  refine qr_iload_n (pc := 4) d_lw_told_4 rfl rfl ?_
  refine qr_callVT (q := 0) (As := [.int pa, .int pb]) (hh := hh_told) (fun _ _ _ _ h => h) rfl (pc := 5) d_lw_told_5 lk_lw_58 im_bf_told se_bf_told rfl (by decide) (by decide) (c_0 _ _) h rfl rfl (Nat.le_of_ble_eq_true rfl) (Nat.le_of_ble_eq_true rfl) (Nat.le_of_ble_eq_true rfl) (Nat.le_of_ble_eq_true rfl) (Nat.le_of_ble_eq_true rfl) (fun v n9 f9 hE => ?_) (fun En n9 f9 hX => ?_)
  · obtain ⟨hc, rfl, rfl, rfl⟩ := hE
    refine qr_lastMN (j := 0) (pc := 8) d_lw_told_8 (by decide) (by decide) (c_76 _ _) (by decide) (by decide) (fun w => rfl) ?_
    refine qr_goto (tgt := 16) (pc := 9) d_lw_told_9 (by decide) ?_
    refine qr_iconst (v := 0) (pc := 16) d_lw_told_16 (by decide) ?_
    exact qr_iret (pc := 17) d_lw_told_17 rfl rfl ⟨rfl, Or.inl ⟨hc, rfl, rfl⟩⟩ (Nat.le_of_ble_eq_true rfl) (Nat.le_of_ble_eq_true rfl)
  · obtain ⟨hp, rfl, rfl⟩ := hX
    obtain rfl := hP En hp
    exact ⟨12, 1, (qRows_hit (by decide) (by decide) (by decide) cl_lw_13 (List.mem_of_getElem? (i := 3) rfl)), ti_xA, Or.inr ⟨4, d_lw_told_12, Nat.le_of_ble_eq_true rfl, d_lw_told_14, d_lw_told_15⟩, rfl, Or.inr ⟨_, List.mem_of_getElem? (i := 0) rfl, hp, rfl, rfl⟩⟩
set_option maxRecDepth 10000 in
theorem w_books {l : Launch} {I I1 : Nat → Nat → Int32} {L L1 : Nat → Nat → Int64} {pa : Int32} {c : Prop} {r : Int64} {P : String → Prop} (h : qSp2 l y_bf_books b_bf_books 2 (some .long) 9 1 6 [.ref 0, .int pa] 77 (fm I L) (qE2 c (some (.long r)) (fm I1 L1)) (qX2 (fm I L) P)) (hP : ∀ En, P En → En = xA) : qSpW l y_lw_books b_lw_books 4 (some .int) hh_books 10 1 6 [.ref 0, .int pa, .ref 76] 77 (fm I L) (qEw c (fm I1 (wL L1 76 0 r)) (fm I L) [(xA, 1)] P) := by
  refine qSpW_of (by decide +kernel) (Nat.le_of_ble_eq_true rfl) ?_
  refine qr_aload_n (pc := 0) d_lw_books_0 rfl rfl ?_
  refine qr_iconst (v := 0) (pc := 1) d_lw_books_1 (by decide) ?_
  refine qr_aload_n (pc := 2) d_lw_books_2 rfl rfl ?_
  refine qr_iload_n (pc := 3) d_lw_books_3 rfl rfl ?_
  refine qr_callVT (q := 0) (As := [.int pa]) (hh := hh_books) (fun _ _ _ _ h => h) rfl (pc := 4) d_lw_books_4 lk_lw_61 im_bf_books se_bf_books rfl (by decide) (by decide) (c_0 _ _) h rfl rfl (Nat.le_of_ble_eq_true rfl) (Nat.le_of_ble_eq_true rfl) (Nat.le_of_ble_eq_true rfl) (Nat.le_of_ble_eq_true rfl) (Nat.le_of_ble_eq_true rfl) (fun v n9 f9 hE => ?_) (fun En n9 f9 hX => ?_)
  · obtain ⟨hc, rfl, rfl, rfl⟩ := hE
    refine qr_lastMN (j := 0) (pc := 7) d_lw_books_7 (by decide) (by decide) (c_76 _ _) (by decide) (by decide) (fun w => rfl) ?_
    refine qr_goto (tgt := 14) (pc := 8) d_lw_books_8 (by decide) ?_
    refine qr_iconst (v := 0) (pc := 14) d_lw_books_14 (by decide) ?_
    exact qr_iret (pc := 15) d_lw_books_15 rfl rfl ⟨rfl, Or.inl ⟨hc, rfl, rfl⟩⟩ (Nat.le_of_ble_eq_true rfl) (Nat.le_of_ble_eq_true rfl)
  · obtain ⟨hp, rfl, rfl⟩ := hX
    obtain rfl := hP En hp
    exact ⟨11, 1, (qRows_hit (by decide) (by decide) (by decide) cl_lw_13 (List.mem_of_getElem? (i := 3) rfl)), ti_xA, Or.inl ⟨3, d_lw_books_11, Nat.le_of_ble_eq_true rfl, d_lw_books_12, d_lw_books_13⟩, rfl, Or.inr ⟨_, List.mem_of_getElem? (i := 0) rfl, hp, rfl, rfl⟩⟩
set_option maxRecDepth 10000 in
theorem w_date {l : Launch} {I I1 : Nat → Nat → Int32} {L L1 : Nat → Nat → Int64} {pa : Int32} {pb : Int32} {c : Prop} {r : Int32} {P : String → Prop} (h : qSp2 l y_bf_date b_bf_date 4 (some .int) 9 1 6 [.ref 0, .int pa, .int pb] 77 (fm I L) (qE2 c (some (.int r)) (fm I1 L1)) (qX2 (fm I L) P)) (hP : ∀ En, P En → En = xA) : qSpW l y_lw_date b_lw_date 5 (some .int) hh_date 10 1 6 [.ref 0, .int pa, .int pb, .ref 76] 77 (fm I L) (qEw c (fm I1 (wL L1 76 0 (Int32.toInt64 r))) (fm I L) [(xA, 1)] P) := by
  refine qSpW_of (by decide +kernel) (Nat.le_of_ble_eq_true rfl) ?_
  refine qr_aload_n (pc := 0) d_lw_date_0 rfl rfl ?_
  refine qr_iconst (v := 0) (pc := 1) d_lw_date_1 (by decide) ?_
  refine qr_aload_n (pc := 2) d_lw_date_2 rfl rfl ?_
  refine qr_iload_n (pc := 3) d_lw_date_3 rfl rfl ?_
  refine qr_iload_n (pc := 4) d_lw_date_4 rfl rfl ?_
  refine qr_callVT (q := 0) (As := [.int pa, .int pb]) (hh := hh_date) (fun _ _ _ _ h => h) rfl (pc := 5) d_lw_date_5 lk_lw_65 im_bf_date se_bf_date rfl (by decide) (by decide) (c_0 _ _) h rfl rfl (Nat.le_of_ble_eq_true rfl) (Nat.le_of_ble_eq_true rfl) (Nat.le_of_ble_eq_true rfl) (Nat.le_of_ble_eq_true rfl) (Nat.le_of_ble_eq_true rfl) (fun v n9 f9 hE => ?_) (fun En n9 f9 hX => ?_)
  · obtain ⟨hc, rfl, rfl, rfl⟩ := hE
    refine qr_i2l (pc := 8) d_lw_date_8 ?_
    refine qr_lastMN (j := 0) (pc := 9) d_lw_date_9 (by decide) (by decide) (c_76 _ _) (by decide) (by decide) (fun w => rfl) ?_
    refine qr_goto (tgt := 17) (pc := 10) d_lw_date_10 (by decide) ?_
    refine qr_iconst (v := 0) (pc := 17) d_lw_date_17 (by decide) ?_
    exact qr_iret (pc := 18) d_lw_date_18 rfl rfl ⟨rfl, Or.inl ⟨hc, rfl, rfl⟩⟩ (Nat.le_of_ble_eq_true rfl) (Nat.le_of_ble_eq_true rfl)
  · obtain ⟨hp, rfl, rfl⟩ := hX
    obtain rfl := hP En hp
    exact ⟨13, 1, (qRows_hit (by decide) (by decide) (by decide) cl_lw_13 (List.mem_of_getElem? (i := 3) rfl)), ti_xA, Or.inr ⟨4, d_lw_date_13, Nat.le_of_ble_eq_true rfl, d_lw_date_15, d_lw_date_16⟩, rfl, Or.inr ⟨_, List.mem_of_getElem? (i := 0) rfl, hp, rfl, rfl⟩⟩
set_option maxRecDepth 10000 in
theorem w_count {l : Launch} {I I1 : Nat → Nat → Int32} {L L1 : Nat → Nat → Int64} {pa : Int32} {c : Prop} {r : Int32} {P : String → Prop} (h : qSp2 l y_bf_count b_bf_count 2 (some .int) 9 1 6 [.ref 0, .int pa] 77 (fm I L) (qE2 c (some (.int r)) (fm I1 L1)) (qX2 (fm I L) P)) (hP : ∀ En, P En → En = xA) : qSpW l y_lw_count b_lw_count 4 (some .int) hh_count 10 1 6 [.ref 0, .int pa, .ref 76] 77 (fm I L) (qEw c (fm I1 (wL L1 76 0 (Int32.toInt64 r))) (fm I L) [(xA, 1)] P) := by
  refine qSpW_of (by decide +kernel) (Nat.le_of_ble_eq_true rfl) ?_
  refine qr_aload_n (pc := 0) d_lw_count_0 rfl rfl ?_
  refine qr_iconst (v := 0) (pc := 1) d_lw_count_1 (by decide) ?_
  refine qr_aload_n (pc := 2) d_lw_count_2 rfl rfl ?_
  refine qr_iload_n (pc := 3) d_lw_count_3 rfl rfl ?_
  refine qr_callVT (q := 0) (As := [.int pa]) (hh := hh_count) (fun _ _ _ _ h => h) rfl (pc := 4) d_lw_count_4 lk_lw_68 im_bf_count se_bf_count rfl (by decide) (by decide) (c_0 _ _) h rfl rfl (Nat.le_of_ble_eq_true rfl) (Nat.le_of_ble_eq_true rfl) (Nat.le_of_ble_eq_true rfl) (Nat.le_of_ble_eq_true rfl) (Nat.le_of_ble_eq_true rfl) (fun v n9 f9 hE => ?_) (fun En n9 f9 hX => ?_)
  · obtain ⟨hc, rfl, rfl, rfl⟩ := hE
    refine qr_i2l (pc := 7) d_lw_count_7 ?_
    refine qr_lastMN (j := 0) (pc := 8) d_lw_count_8 (by decide) (by decide) (c_76 _ _) (by decide) (by decide) (fun w => rfl) ?_
    refine qr_goto (tgt := 15) (pc := 9) d_lw_count_9 (by decide) ?_
    refine qr_iconst (v := 0) (pc := 15) d_lw_count_15 (by decide) ?_
    exact qr_iret (pc := 16) d_lw_count_16 rfl rfl ⟨rfl, Or.inl ⟨hc, rfl, rfl⟩⟩ (Nat.le_of_ble_eq_true rfl) (Nat.le_of_ble_eq_true rfl)
  · obtain ⟨hp, rfl, rfl⟩ := hX
    obtain rfl := hP En hp
    exact ⟨12, 1, (qRows_hit (by decide) (by decide) (by decide) cl_lw_13 (List.mem_of_getElem? (i := 3) rfl)), ti_xA, Or.inl ⟨3, d_lw_count_12, Nat.le_of_ble_eq_true rfl, d_lw_count_13, d_lw_count_14⟩, rfl, Or.inr ⟨_, List.mem_of_getElem? (i := 0) rfl, hp, rfl, rfl⟩⟩
