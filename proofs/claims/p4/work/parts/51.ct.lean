/-! constructors -/
theorem oi_im : Cond.instanceMethod Lib.objectInit ∈ qg := q_t1 28 rfl rfl
theorem oi_co : Cond.code Lib.objectInit ⟨#[0xb1]⟩ 1 none ∈ qg := q_t1 29 rfl rfl
theorem dv_cu : ∀ j, j < 5 → defaultValue (t_cu j) = vp_V [.null, .int 0, .int 0, .int 0, .long 0] j := by decide
theorem nr_cu : ∀ v ∈ ([.null, .int 0, .int 0, .int 0, .long 0] : List Value), ∀ z ex, qv z ex v = v := by
  intro v hv z ex
  simp only [List.mem_cons, List.not_mem_nil, or_false] at hv
  rcases hv with rfl | rfl | rfl | rfl | rfl <;> rfl
theorem dv_ev : ∀ j, j < 5 → defaultValue (t_ev j) = vp_V [.null, .null, .null, .null, .int 0] j := by decide
theorem nr_ev : ∀ v ∈ ([.null, .null, .null, .null, .int 0] : List Value), ∀ z ex, qv z ex v = v := by
  intro v hv z ex
  simp only [List.mem_cons, List.not_mem_nil, or_false] at hv
  rcases hv with rfl | rfl | rfl | rfl | rfl <;> rfl
theorem dv_ib : ∀ j, j < 6 → defaultValue (t_ib j) = vp_V [.null, .null, .null, .null, .null, .int 0] j := by decide
theorem nr_ib : ∀ v ∈ ([.null, .null, .null, .null, .null, .int 0] : List Value), ∀ z ex, qv z ex v = v := by
  intro v hv z ex
  simp only [List.mem_cons, List.not_mem_nil, or_false] at hv
  rcases hv with rfl | rfl | rfl | rfl | rfl | rfl <;> rfl
theorem dv_pb : ∀ j, j < 5 → defaultValue (t_pb j) = vp_V [.null, .null, .null, .null, .int 0] j := by decide
theorem nr_pb : ∀ v ∈ ([.null, .null, .null, .null, .int 0] : List Value), ∀ z ex, qv z ex v = v := by
  intro v hv z ex
  simp only [List.mem_cons, List.not_mem_nil, or_false] at hv
  rcases hv with rfl | rfl | rfl | rfl | rfl <;> rfl
theorem dv_tf : ∀ j, j < 9 → defaultValue (t_tf j) = vp_V [.int 0, .int 0, .int 0, .int 0, .int 0, .int 0, .null, .null, .int 0] j := by decide
theorem nr_tf : ∀ v ∈ ([.int 0, .int 0, .int 0, .int 0, .int 0, .int 0, .null, .null, .int 0] : List Value), ∀ z ex, qv z ex v = v := by
  intro v hv z ex
  simp only [List.mem_cons, List.not_mem_nil, or_false] at hv
  rcases hv with rfl | rfl | rfl | rfl | rfl | rfl | rfl | rfl | rfl <;> rfl
theorem dv_tr : ∀ j, j < 7 → defaultValue (t_tr j) = vp_V [.null, .null, .null, .int 0, .int 0, .int 0, .int 0] j := by decide
theorem nr_tr : ∀ v ∈ ([.null, .null, .null, .int 0, .int 0, .int 0, .int 0] : List Value), ∀ z ex, qv z ex v = v := by
  intro v hv z ex
  simp only [List.mem_cons, List.not_mem_nil, or_false] at hv
  rcases hv with rfl | rfl | rfl | rfl | rfl | rfl | rfl <;> rfl
theorem dv_bf : ∀ j, j < 11 → defaultValue (t_bf j) = vp_V [.null, .null, .null, .null, .null, .null, .null, .null, .null, .int 0, .long 0] j := by decide
theorem nr_bf : ∀ v ∈ ([.null, .null, .null, .null, .null, .null, .null, .null, .null, .int 0, .long 0] : List Value), ∀ z ex, qv z ex v = v := by
  intro v hv z ex
  simp only [List.mem_cons, List.not_mem_nil, or_false] at hv
  rcases hv with rfl | rfl | rfl | rfl | rfl | rfl | rfl | rfl | rfl | rfl | rfl <;> rfl
theorem dv_md : ∀ j, j < 39 → defaultValue (t_md j) = vp_V [.int 0, .int 0, .int 0, .null, .int 0, .null, .null, .null, .null, .null, .null, .null, .null, .null, .null, .null, .null, .null, .null, .null, .null, .null, .null, .int 0, .null, .null, .null, .null, .null, .int 0, .null, .null, .null, .null, .int 0, .long 0, .int 0, .int 0, .int 0] j := by decide
theorem nr_md : ∀ v ∈ ([.int 0, .int 0, .int 0, .null, .int 0, .null, .null, .null, .null, .null, .null, .null, .null, .null, .null, .null, .null, .null, .null, .null, .null, .null, .null, .int 0, .null, .null, .null, .null, .null, .int 0, .null, .null, .null, .null, .int 0, .long 0, .int 0, .int 0, .int 0] : List Value), ∀ z ex, qv z ex v = v := by
  intro v hv z ex
  simp only [List.mem_cons, List.not_mem_nil, or_false] at hv
  rcases hv with rfl | rfl | rfl | rfl | rfl | rfl | rfl | rfl | rfl | rfl | rfl | rfl | rfl | rfl | rfl | rfl | rfl | rfl | rfl | rfl | rfl | rfl | rfl | rfl | rfl | rfl | rfl | rfl | rfl | rfl | rfl | rfl | rfl | rfl | rfl | rfl | rfl | rfl | rfl <;> rfl
set_option maxRecDepth 10000 in
theorem s_tf_init_4 (l : Launch) (f : Nat → va_E) (hf : f 4 = .inr (4, [.int 0, .int 0, .int 0, .int 0, .int 0, .int 0, .null, .null, .int 0])) : qSp l y_tf_init b_tf_init 1 none true 1 2 8 [.ref 4] 5 f (qD none 7 (va_up (va_up (va_up (va_up (va_up (va_up (va_up (va_up (va_up (va_up (va_up f 4 (.inr (4, [.int 0, .int 0, .int 0, .int 0, .int 0, .int 0, .null, .null, .int 0]))) 4 (.inr (4, [.int 0, .int 0, .int 0, .int 0, .int 0, .int 0, .null, .null, .int 0]))) 4 (.inr (4, [.int 0, .int 0, .int 0, .int 0, .int 0, .int 0, .null, .null, .int 0]))) 4 (.inr (4, [.int 0, .int 0, .int 0, .int 0, .int 0, .int 0, .null, .null, .int 0]))) 4 (.inr (4, [.int 0, .int 0, .int 0, .int 0, .int 0, .int 0, .null, .null, .int 0]))) 4 (.inr (4, [.int 0, .int 0, .int 0, .int 0, .int 0, .int 0, .null, .null, .int 0]))) 5 (.inl (0, 4, .inl (fun _ => 0)))) 4 (.inr (4, [.int 0, .int 0, .int 0, .int 0, .int 0, .int 0, .ref 5, .null, .int 0]))) 6 (.inl (0, 4, .inl (fun _ => 0)))) 4 (.inr (4, [.int 0, .int 0, .int 0, .int 0, .int 0, .int 0, .ref 5, .ref 6, .int 0]))) 4 (.inr (4, [.int 0, .int 0, .int 0, .int 0, .int 0, .int 0, .ref 5, .ref 6, .int 0])))) := by
  refine qSp_of (ini := true) (by decide +kernel) (fun _ => rfl) (Nat.le_of_ble_eq_true rfl) ?_
  refine qr_aload_n (pc := 0) d_tf_init_0 rfl rfl ?_
  refine qr_obj (pc := 1) d_tf_init_1 lk_tf_1 oi_im oi_co (Nat.le_of_ble_eq_true rfl) (Nat.le_of_ble_eq_true rfl) ?_
  refine qr_aload_n (pc := 4) d_tf_init_4 rfl rfl ?_
  refine qr_iconst (v := 0) (pc := 5) d_tf_init_5 (by decide) ?_
  refine qr_put (fs := [.int 0, .int 0, .int 0, .int 0, .int 0, .int 0, .null, .null, .int 0]) (f' := va_up _ 4 (.inr (4, [.int 0, .int 0, .int 0, .int 0, .int 0, .int 0, .null, .null, .int 0]))) (pc := 6) d_tf_init_6 fl_tf_7 (by decide) (by decide) hf (by decide) (fun z ex => ⟨rfl, rfl⟩) rfl ?_
  refine qr_aload_n (pc := 9) d_tf_init_9 rfl rfl ?_
  refine qr_iconst (v := 0) (pc := 10) d_tf_init_10 (by decide) ?_
  refine qr_put (fs := [.int 0, .int 0, .int 0, .int 0, .int 0, .int 0, .null, .null, .int 0]) (f' := va_up _ 4 (.inr (4, [.int 0, .int 0, .int 0, .int 0, .int 0, .int 0, .null, .null, .int 0]))) (pc := 11) d_tf_init_11 fl_tf_13 (by decide) (by decide) rfl (by decide) (fun z ex => ⟨rfl, rfl⟩) rfl ?_
  refine qr_aload_n (pc := 14) d_tf_init_14 rfl rfl ?_
  refine qr_iconst (v := 0) (pc := 15) d_tf_init_15 (by decide) ?_
  refine qr_put (fs := [.int 0, .int 0, .int 0, .int 0, .int 0, .int 0, .null, .null, .int 0]) (f' := va_up _ 4 (.inr (4, [.int 0, .int 0, .int 0, .int 0, .int 0, .int 0, .null, .null, .int 0]))) (pc := 16) d_tf_init_16 fl_tf_16 (by decide) (by decide) rfl (by decide) (fun z ex => ⟨rfl, rfl⟩) rfl ?_
  refine qr_aload_n (pc := 19) d_tf_init_19 rfl rfl ?_
  refine qr_iconst (v := 0) (pc := 20) d_tf_init_20 (by decide) ?_
  refine qr_put (fs := [.int 0, .int 0, .int 0, .int 0, .int 0, .int 0, .null, .null, .int 0]) (f' := va_up _ 4 (.inr (4, [.int 0, .int 0, .int 0, .int 0, .int 0, .int 0, .null, .null, .int 0]))) (pc := 21) d_tf_init_21 fl_tf_19 (by decide) (by decide) rfl (by decide) (fun z ex => ⟨rfl, rfl⟩) rfl ?_
  refine qr_aload_n (pc := 24) d_tf_init_24 rfl rfl ?_
  refine qr_iconst (v := 0) (pc := 25) d_tf_init_25 (by decide) ?_
  refine qr_put (fs := [.int 0, .int 0, .int 0, .int 0, .int 0, .int 0, .null, .null, .int 0]) (f' := va_up _ 4 (.inr (4, [.int 0, .int 0, .int 0, .int 0, .int 0, .int 0, .null, .null, .int 0]))) (pc := 26) d_tf_init_26 fl_tf_22 (by decide) (by decide) rfl (by decide) (fun z ex => ⟨rfl, rfl⟩) rfl ?_
  refine qr_aload_n (pc := 29) d_tf_init_29 rfl rfl ?_
  refine qr_iconst (v := 0) (pc := 30) d_tf_init_30 (by decide) ?_
  refine qr_put (fs := [.int 0, .int 0, .int 0, .int 0, .int 0, .int 0, .null, .null, .int 0]) (f' := va_up _ 4 (.inr (4, [.int 0, .int 0, .int 0, .int 0, .int 0, .int 0, .null, .null, .int 0]))) (pc := 31) d_tf_init_31 fl_tf_25 (by decide) (by decide) rfl (by decide) (fun z ex => ⟨rfl, rfl⟩) rfl ?_
  refine qr_aload_n (pc := 34) d_tf_init_34 rfl rfl ?_
  refine qr_iconst (v := 4) (pc := 35) d_tf_init_35 (by decide) ?_
  refine qr_newa (t := 0) (len := 4) (ty9 := .int) (a := (4, .inl (fun _ => 0))) (pc := 36) d_tf_init_36 rfl rfl ac_int (by decide) (by decide) (by decide) (fun Cn h => nomatch h) (fun cA => rfl) (fun z ex => rfl) ⟨rfl, rfl⟩ (by decide) (Nat.le_of_ble_eq_true rfl) (Nat.le_of_ble_eq_true rfl) ?_
  refine qr_putF (fs := [.int 0, .int 0, .int 0, .int 0, .int 0, .int 0, .null, .null, .int 0]) (f' := va_up _ 4 (.inr (4, [.int 0, .int 0, .int 0, .int 0, .int 0, .int 0, .ref 5, .null, .int 0]))) (pc := 38) d_tf_init_38 fl_tf_28 ⟨rfl, rfl⟩ (by decide) (by decide) rfl (by decide) (fun z ex => ⟨rfl, rfl⟩) rfl ?_
  refine qr_aload_n (pc := 41) d_tf_init_41 rfl rfl ?_
  refine qr_iconst (v := 4) (pc := 42) d_tf_init_42 (by decide) ?_
  refine qr_newa (t := 0) (len := 4) (ty9 := .int) (a := (4, .inl (fun _ => 0))) (pc := 43) d_tf_init_43 rfl rfl ac_int (by decide) (by decide) (by decide) (fun Cn h => nomatch h) (fun cA => rfl) (fun z ex => rfl) ⟨rfl, rfl⟩ (by decide) (Nat.le_of_ble_eq_true rfl) (Nat.le_of_ble_eq_true rfl) ?_
  refine qr_putF (fs := [.int 0, .int 0, .int 0, .int 0, .int 0, .int 0, .ref 5, .null, .int 0]) (f' := va_up _ 4 (.inr (4, [.int 0, .int 0, .int 0, .int 0, .int 0, .int 0, .ref 5, .ref 6, .int 0]))) (pc := 45) d_tf_init_45 fl_tf_32 ⟨rfl, rfl⟩ (by decide) (by decide) rfl (by decide) (fun z ex => ⟨rfl, rfl⟩) rfl ?_
  refine qr_aload_n (pc := 48) d_tf_init_48 rfl rfl ?_
  refine qr_iconst (v := 0) (pc := 49) d_tf_init_49 (by decide) ?_
  refine qr_put (fs := [.int 0, .int 0, .int 0, .int 0, .int 0, .int 0, .ref 5, .ref 6, .int 0]) (f' := va_up _ 4 (.inr (4, [.int 0, .int 0, .int 0, .int 0, .int 0, .int 0, .ref 5, .ref 6, .int 0]))) (pc := 50) d_tf_init_50 fl_tf_35 (by decide) (by decide) rfl (by decide) (fun z ex => ⟨rfl, rfl⟩) rfl ?_
  exact qr_vret (pc := 53) d_tf_init_53 rfl ⟨rfl, rfl, rfl⟩ (Nat.le_of_ble_eq_true rfl) (Nat.le_of_ble_eq_true rfl)
set_option maxRecDepth 10000 in
theorem s_tf_init_28 (l : Launch) (f : Nat → va_E) (hf : f 28 = .inr (4, [.int 0, .int 0, .int 0, .int 0, .int 0, .int 0, .null, .null, .int 0])) : qSp l y_tf_init b_tf_init 1 none true 1 2 8 [.ref 28] 29 f (qD none 31 (va_up (va_up (va_up (va_up (va_up (va_up (va_up (va_up (va_up (va_up (va_up f 28 (.inr (4, [.int 0, .int 0, .int 0, .int 0, .int 0, .int 0, .null, .null, .int 0]))) 28 (.inr (4, [.int 0, .int 0, .int 0, .int 0, .int 0, .int 0, .null, .null, .int 0]))) 28 (.inr (4, [.int 0, .int 0, .int 0, .int 0, .int 0, .int 0, .null, .null, .int 0]))) 28 (.inr (4, [.int 0, .int 0, .int 0, .int 0, .int 0, .int 0, .null, .null, .int 0]))) 28 (.inr (4, [.int 0, .int 0, .int 0, .int 0, .int 0, .int 0, .null, .null, .int 0]))) 28 (.inr (4, [.int 0, .int 0, .int 0, .int 0, .int 0, .int 0, .null, .null, .int 0]))) 29 (.inl (0, 4, .inl (fun _ => 0)))) 28 (.inr (4, [.int 0, .int 0, .int 0, .int 0, .int 0, .int 0, .ref 29, .null, .int 0]))) 30 (.inl (0, 4, .inl (fun _ => 0)))) 28 (.inr (4, [.int 0, .int 0, .int 0, .int 0, .int 0, .int 0, .ref 29, .ref 30, .int 0]))) 28 (.inr (4, [.int 0, .int 0, .int 0, .int 0, .int 0, .int 0, .ref 29, .ref 30, .int 0])))) := by
  refine qSp_of (ini := true) (by decide +kernel) (fun _ => rfl) (Nat.le_of_ble_eq_true rfl) ?_
  refine qr_aload_n (pc := 0) d_tf_init_0 rfl rfl ?_
  refine qr_obj (pc := 1) d_tf_init_1 lk_tf_1 oi_im oi_co (Nat.le_of_ble_eq_true rfl) (Nat.le_of_ble_eq_true rfl) ?_
  refine qr_aload_n (pc := 4) d_tf_init_4 rfl rfl ?_
  refine qr_iconst (v := 0) (pc := 5) d_tf_init_5 (by decide) ?_
  refine qr_put (fs := [.int 0, .int 0, .int 0, .int 0, .int 0, .int 0, .null, .null, .int 0]) (f' := va_up _ 28 (.inr (4, [.int 0, .int 0, .int 0, .int 0, .int 0, .int 0, .null, .null, .int 0]))) (pc := 6) d_tf_init_6 fl_tf_7 (by decide) (by decide) hf (by decide) (fun z ex => ⟨rfl, rfl⟩) rfl ?_
  refine qr_aload_n (pc := 9) d_tf_init_9 rfl rfl ?_
  refine qr_iconst (v := 0) (pc := 10) d_tf_init_10 (by decide) ?_
  refine qr_put (fs := [.int 0, .int 0, .int 0, .int 0, .int 0, .int 0, .null, .null, .int 0]) (f' := va_up _ 28 (.inr (4, [.int 0, .int 0, .int 0, .int 0, .int 0, .int 0, .null, .null, .int 0]))) (pc := 11) d_tf_init_11 fl_tf_13 (by decide) (by decide) rfl (by decide) (fun z ex => ⟨rfl, rfl⟩) rfl ?_
  refine qr_aload_n (pc := 14) d_tf_init_14 rfl rfl ?_
  refine qr_iconst (v := 0) (pc := 15) d_tf_init_15 (by decide) ?_
  refine qr_put (fs := [.int 0, .int 0, .int 0, .int 0, .int 0, .int 0, .null, .null, .int 0]) (f' := va_up _ 28 (.inr (4, [.int 0, .int 0, .int 0, .int 0, .int 0, .int 0, .null, .null, .int 0]))) (pc := 16) d_tf_init_16 fl_tf_16 (by decide) (by decide) rfl (by decide) (fun z ex => ⟨rfl, rfl⟩) rfl ?_
  refine qr_aload_n (pc := 19) d_tf_init_19 rfl rfl ?_
  refine qr_iconst (v := 0) (pc := 20) d_tf_init_20 (by decide) ?_
  refine qr_put (fs := [.int 0, .int 0, .int 0, .int 0, .int 0, .int 0, .null, .null, .int 0]) (f' := va_up _ 28 (.inr (4, [.int 0, .int 0, .int 0, .int 0, .int 0, .int 0, .null, .null, .int 0]))) (pc := 21) d_tf_init_21 fl_tf_19 (by decide) (by decide) rfl (by decide) (fun z ex => ⟨rfl, rfl⟩) rfl ?_
  refine qr_aload_n (pc := 24) d_tf_init_24 rfl rfl ?_
  refine qr_iconst (v := 0) (pc := 25) d_tf_init_25 (by decide) ?_
  refine qr_put (fs := [.int 0, .int 0, .int 0, .int 0, .int 0, .int 0, .null, .null, .int 0]) (f' := va_up _ 28 (.inr (4, [.int 0, .int 0, .int 0, .int 0, .int 0, .int 0, .null, .null, .int 0]))) (pc := 26) d_tf_init_26 fl_tf_22 (by decide) (by decide) rfl (by decide) (fun z ex => ⟨rfl, rfl⟩) rfl ?_
  refine qr_aload_n (pc := 29) d_tf_init_29 rfl rfl ?_
  refine qr_iconst (v := 0) (pc := 30) d_tf_init_30 (by decide) ?_
  refine qr_put (fs := [.int 0, .int 0, .int 0, .int 0, .int 0, .int 0, .null, .null, .int 0]) (f' := va_up _ 28 (.inr (4, [.int 0, .int 0, .int 0, .int 0, .int 0, .int 0, .null, .null, .int 0]))) (pc := 31) d_tf_init_31 fl_tf_25 (by decide) (by decide) rfl (by decide) (fun z ex => ⟨rfl, rfl⟩) rfl ?_
  refine qr_aload_n (pc := 34) d_tf_init_34 rfl rfl ?_
  refine qr_iconst (v := 4) (pc := 35) d_tf_init_35 (by decide) ?_
  refine qr_newa (t := 0) (len := 4) (ty9 := .int) (a := (4, .inl (fun _ => 0))) (pc := 36) d_tf_init_36 rfl rfl ac_int (by decide) (by decide) (by decide) (fun Cn h => nomatch h) (fun cA => rfl) (fun z ex => rfl) ⟨rfl, rfl⟩ (by decide) (Nat.le_of_ble_eq_true rfl) (Nat.le_of_ble_eq_true rfl) ?_
  refine qr_putF (fs := [.int 0, .int 0, .int 0, .int 0, .int 0, .int 0, .null, .null, .int 0]) (f' := va_up _ 28 (.inr (4, [.int 0, .int 0, .int 0, .int 0, .int 0, .int 0, .ref 29, .null, .int 0]))) (pc := 38) d_tf_init_38 fl_tf_28 ⟨rfl, rfl⟩ (by decide) (by decide) rfl (by decide) (fun z ex => ⟨rfl, rfl⟩) rfl ?_
  refine qr_aload_n (pc := 41) d_tf_init_41 rfl rfl ?_
  refine qr_iconst (v := 4) (pc := 42) d_tf_init_42 (by decide) ?_
  refine qr_newa (t := 0) (len := 4) (ty9 := .int) (a := (4, .inl (fun _ => 0))) (pc := 43) d_tf_init_43 rfl rfl ac_int (by decide) (by decide) (by decide) (fun Cn h => nomatch h) (fun cA => rfl) (fun z ex => rfl) ⟨rfl, rfl⟩ (by decide) (Nat.le_of_ble_eq_true rfl) (Nat.le_of_ble_eq_true rfl) ?_
  refine qr_putF (fs := [.int 0, .int 0, .int 0, .int 0, .int 0, .int 0, .ref 29, .null, .int 0]) (f' := va_up _ 28 (.inr (4, [.int 0, .int 0, .int 0, .int 0, .int 0, .int 0, .ref 29, .ref 30, .int 0]))) (pc := 45) d_tf_init_45 fl_tf_32 ⟨rfl, rfl⟩ (by decide) (by decide) rfl (by decide) (fun z ex => ⟨rfl, rfl⟩) rfl ?_
  refine qr_aload_n (pc := 48) d_tf_init_48 rfl rfl ?_
  refine qr_iconst (v := 0) (pc := 49) d_tf_init_49 (by decide) ?_
  refine qr_put (fs := [.int 0, .int 0, .int 0, .int 0, .int 0, .int 0, .ref 29, .ref 30, .int 0]) (f' := va_up _ 28 (.inr (4, [.int 0, .int 0, .int 0, .int 0, .int 0, .int 0, .ref 29, .ref 30, .int 0]))) (pc := 50) d_tf_init_50 fl_tf_35 (by decide) (by decide) rfl (by decide) (fun z ex => ⟨rfl, rfl⟩) rfl ?_
  exact qr_vret (pc := 53) d_tf_init_53 rfl ⟨rfl, rfl, rfl⟩ (Nat.le_of_ble_eq_true rfl) (Nat.le_of_ble_eq_true rfl)
set_option maxRecDepth 10000 in
theorem s_tf_init_31 (l : Launch) (f : Nat → va_E) (hf : f 31 = .inr (4, [.int 0, .int 0, .int 0, .int 0, .int 0, .int 0, .null, .null, .int 0])) : qSp l y_tf_init b_tf_init 1 none true 1 2 8 [.ref 31] 32 f (qD none 34 (va_up (va_up (va_up (va_up (va_up (va_up (va_up (va_up (va_up (va_up (va_up f 31 (.inr (4, [.int 0, .int 0, .int 0, .int 0, .int 0, .int 0, .null, .null, .int 0]))) 31 (.inr (4, [.int 0, .int 0, .int 0, .int 0, .int 0, .int 0, .null, .null, .int 0]))) 31 (.inr (4, [.int 0, .int 0, .int 0, .int 0, .int 0, .int 0, .null, .null, .int 0]))) 31 (.inr (4, [.int 0, .int 0, .int 0, .int 0, .int 0, .int 0, .null, .null, .int 0]))) 31 (.inr (4, [.int 0, .int 0, .int 0, .int 0, .int 0, .int 0, .null, .null, .int 0]))) 31 (.inr (4, [.int 0, .int 0, .int 0, .int 0, .int 0, .int 0, .null, .null, .int 0]))) 32 (.inl (0, 4, .inl (fun _ => 0)))) 31 (.inr (4, [.int 0, .int 0, .int 0, .int 0, .int 0, .int 0, .ref 32, .null, .int 0]))) 33 (.inl (0, 4, .inl (fun _ => 0)))) 31 (.inr (4, [.int 0, .int 0, .int 0, .int 0, .int 0, .int 0, .ref 32, .ref 33, .int 0]))) 31 (.inr (4, [.int 0, .int 0, .int 0, .int 0, .int 0, .int 0, .ref 32, .ref 33, .int 0])))) := by
  refine qSp_of (ini := true) (by decide +kernel) (fun _ => rfl) (Nat.le_of_ble_eq_true rfl) ?_
  refine qr_aload_n (pc := 0) d_tf_init_0 rfl rfl ?_
  refine qr_obj (pc := 1) d_tf_init_1 lk_tf_1 oi_im oi_co (Nat.le_of_ble_eq_true rfl) (Nat.le_of_ble_eq_true rfl) ?_
  refine qr_aload_n (pc := 4) d_tf_init_4 rfl rfl ?_
  refine qr_iconst (v := 0) (pc := 5) d_tf_init_5 (by decide) ?_
  refine qr_put (fs := [.int 0, .int 0, .int 0, .int 0, .int 0, .int 0, .null, .null, .int 0]) (f' := va_up _ 31 (.inr (4, [.int 0, .int 0, .int 0, .int 0, .int 0, .int 0, .null, .null, .int 0]))) (pc := 6) d_tf_init_6 fl_tf_7 (by decide) (by decide) hf (by decide) (fun z ex => ⟨rfl, rfl⟩) rfl ?_
  refine qr_aload_n (pc := 9) d_tf_init_9 rfl rfl ?_
  refine qr_iconst (v := 0) (pc := 10) d_tf_init_10 (by decide) ?_
  refine qr_put (fs := [.int 0, .int 0, .int 0, .int 0, .int 0, .int 0, .null, .null, .int 0]) (f' := va_up _ 31 (.inr (4, [.int 0, .int 0, .int 0, .int 0, .int 0, .int 0, .null, .null, .int 0]))) (pc := 11) d_tf_init_11 fl_tf_13 (by decide) (by decide) rfl (by decide) (fun z ex => ⟨rfl, rfl⟩) rfl ?_
  refine qr_aload_n (pc := 14) d_tf_init_14 rfl rfl ?_
  refine qr_iconst (v := 0) (pc := 15) d_tf_init_15 (by decide) ?_
  refine qr_put (fs := [.int 0, .int 0, .int 0, .int 0, .int 0, .int 0, .null, .null, .int 0]) (f' := va_up _ 31 (.inr (4, [.int 0, .int 0, .int 0, .int 0, .int 0, .int 0, .null, .null, .int 0]))) (pc := 16) d_tf_init_16 fl_tf_16 (by decide) (by decide) rfl (by decide) (fun z ex => ⟨rfl, rfl⟩) rfl ?_
  refine qr_aload_n (pc := 19) d_tf_init_19 rfl rfl ?_
  refine qr_iconst (v := 0) (pc := 20) d_tf_init_20 (by decide) ?_
  refine qr_put (fs := [.int 0, .int 0, .int 0, .int 0, .int 0, .int 0, .null, .null, .int 0]) (f' := va_up _ 31 (.inr (4, [.int 0, .int 0, .int 0, .int 0, .int 0, .int 0, .null, .null, .int 0]))) (pc := 21) d_tf_init_21 fl_tf_19 (by decide) (by decide) rfl (by decide) (fun z ex => ⟨rfl, rfl⟩) rfl ?_
  refine qr_aload_n (pc := 24) d_tf_init_24 rfl rfl ?_
  refine qr_iconst (v := 0) (pc := 25) d_tf_init_25 (by decide) ?_
  refine qr_put (fs := [.int 0, .int 0, .int 0, .int 0, .int 0, .int 0, .null, .null, .int 0]) (f' := va_up _ 31 (.inr (4, [.int 0, .int 0, .int 0, .int 0, .int 0, .int 0, .null, .null, .int 0]))) (pc := 26) d_tf_init_26 fl_tf_22 (by decide) (by decide) rfl (by decide) (fun z ex => ⟨rfl, rfl⟩) rfl ?_
  refine qr_aload_n (pc := 29) d_tf_init_29 rfl rfl ?_
  refine qr_iconst (v := 0) (pc := 30) d_tf_init_30 (by decide) ?_
  refine qr_put (fs := [.int 0, .int 0, .int 0, .int 0, .int 0, .int 0, .null, .null, .int 0]) (f' := va_up _ 31 (.inr (4, [.int 0, .int 0, .int 0, .int 0, .int 0, .int 0, .null, .null, .int 0]))) (pc := 31) d_tf_init_31 fl_tf_25 (by decide) (by decide) rfl (by decide) (fun z ex => ⟨rfl, rfl⟩) rfl ?_
  refine qr_aload_n (pc := 34) d_tf_init_34 rfl rfl ?_
  refine qr_iconst (v := 4) (pc := 35) d_tf_init_35 (by decide) ?_
  refine qr_newa (t := 0) (len := 4) (ty9 := .int) (a := (4, .inl (fun _ => 0))) (pc := 36) d_tf_init_36 rfl rfl ac_int (by decide) (by decide) (by decide) (fun Cn h => nomatch h) (fun cA => rfl) (fun z ex => rfl) ⟨rfl, rfl⟩ (by decide) (Nat.le_of_ble_eq_true rfl) (Nat.le_of_ble_eq_true rfl) ?_
  refine qr_putF (fs := [.int 0, .int 0, .int 0, .int 0, .int 0, .int 0, .null, .null, .int 0]) (f' := va_up _ 31 (.inr (4, [.int 0, .int 0, .int 0, .int 0, .int 0, .int 0, .ref 32, .null, .int 0]))) (pc := 38) d_tf_init_38 fl_tf_28 ⟨rfl, rfl⟩ (by decide) (by decide) rfl (by decide) (fun z ex => ⟨rfl, rfl⟩) rfl ?_
  refine qr_aload_n (pc := 41) d_tf_init_41 rfl rfl ?_
  refine qr_iconst (v := 4) (pc := 42) d_tf_init_42 (by decide) ?_
  refine qr_newa (t := 0) (len := 4) (ty9 := .int) (a := (4, .inl (fun _ => 0))) (pc := 43) d_tf_init_43 rfl rfl ac_int (by decide) (by decide) (by decide) (fun Cn h => nomatch h) (fun cA => rfl) (fun z ex => rfl) ⟨rfl, rfl⟩ (by decide) (Nat.le_of_ble_eq_true rfl) (Nat.le_of_ble_eq_true rfl) ?_
  refine qr_putF (fs := [.int 0, .int 0, .int 0, .int 0, .int 0, .int 0, .ref 32, .null, .int 0]) (f' := va_up _ 31 (.inr (4, [.int 0, .int 0, .int 0, .int 0, .int 0, .int 0, .ref 32, .ref 33, .int 0]))) (pc := 45) d_tf_init_45 fl_tf_32 ⟨rfl, rfl⟩ (by decide) (by decide) rfl (by decide) (fun z ex => ⟨rfl, rfl⟩) rfl ?_
  refine qr_aload_n (pc := 48) d_tf_init_48 rfl rfl ?_
  refine qr_iconst (v := 0) (pc := 49) d_tf_init_49 (by decide) ?_
  refine qr_put (fs := [.int 0, .int 0, .int 0, .int 0, .int 0, .int 0, .ref 32, .ref 33, .int 0]) (f' := va_up _ 31 (.inr (4, [.int 0, .int 0, .int 0, .int 0, .int 0, .int 0, .ref 32, .ref 33, .int 0]))) (pc := 50) d_tf_init_50 fl_tf_35 (by decide) (by decide) rfl (by decide) (fun z ex => ⟨rfl, rfl⟩) rfl ?_
  exact qr_vret (pc := 53) d_tf_init_53 rfl ⟨rfl, rfl, rfl⟩ (Nat.le_of_ble_eq_true rfl) (Nat.le_of_ble_eq_true rfl)
set_option maxRecDepth 10000 in
theorem s_tf_init_34 (l : Launch) (f : Nat → va_E) (hf : f 34 = .inr (4, [.int 0, .int 0, .int 0, .int 0, .int 0, .int 0, .null, .null, .int 0])) : qSp l y_tf_init b_tf_init 1 none true 1 2 8 [.ref 34] 35 f (qD none 37 (va_up (va_up (va_up (va_up (va_up (va_up (va_up (va_up (va_up (va_up (va_up f 34 (.inr (4, [.int 0, .int 0, .int 0, .int 0, .int 0, .int 0, .null, .null, .int 0]))) 34 (.inr (4, [.int 0, .int 0, .int 0, .int 0, .int 0, .int 0, .null, .null, .int 0]))) 34 (.inr (4, [.int 0, .int 0, .int 0, .int 0, .int 0, .int 0, .null, .null, .int 0]))) 34 (.inr (4, [.int 0, .int 0, .int 0, .int 0, .int 0, .int 0, .null, .null, .int 0]))) 34 (.inr (4, [.int 0, .int 0, .int 0, .int 0, .int 0, .int 0, .null, .null, .int 0]))) 34 (.inr (4, [.int 0, .int 0, .int 0, .int 0, .int 0, .int 0, .null, .null, .int 0]))) 35 (.inl (0, 4, .inl (fun _ => 0)))) 34 (.inr (4, [.int 0, .int 0, .int 0, .int 0, .int 0, .int 0, .ref 35, .null, .int 0]))) 36 (.inl (0, 4, .inl (fun _ => 0)))) 34 (.inr (4, [.int 0, .int 0, .int 0, .int 0, .int 0, .int 0, .ref 35, .ref 36, .int 0]))) 34 (.inr (4, [.int 0, .int 0, .int 0, .int 0, .int 0, .int 0, .ref 35, .ref 36, .int 0])))) := by
  refine qSp_of (ini := true) (by decide +kernel) (fun _ => rfl) (Nat.le_of_ble_eq_true rfl) ?_
  refine qr_aload_n (pc := 0) d_tf_init_0 rfl rfl ?_
  refine qr_obj (pc := 1) d_tf_init_1 lk_tf_1 oi_im oi_co (Nat.le_of_ble_eq_true rfl) (Nat.le_of_ble_eq_true rfl) ?_
  refine qr_aload_n (pc := 4) d_tf_init_4 rfl rfl ?_
  refine qr_iconst (v := 0) (pc := 5) d_tf_init_5 (by decide) ?_
  refine qr_put (fs := [.int 0, .int 0, .int 0, .int 0, .int 0, .int 0, .null, .null, .int 0]) (f' := va_up _ 34 (.inr (4, [.int 0, .int 0, .int 0, .int 0, .int 0, .int 0, .null, .null, .int 0]))) (pc := 6) d_tf_init_6 fl_tf_7 (by decide) (by decide) hf (by decide) (fun z ex => ⟨rfl, rfl⟩) rfl ?_
  refine qr_aload_n (pc := 9) d_tf_init_9 rfl rfl ?_
  refine qr_iconst (v := 0) (pc := 10) d_tf_init_10 (by decide) ?_
  refine qr_put (fs := [.int 0, .int 0, .int 0, .int 0, .int 0, .int 0, .null, .null, .int 0]) (f' := va_up _ 34 (.inr (4, [.int 0, .int 0, .int 0, .int 0, .int 0, .int 0, .null, .null, .int 0]))) (pc := 11) d_tf_init_11 fl_tf_13 (by decide) (by decide) rfl (by decide) (fun z ex => ⟨rfl, rfl⟩) rfl ?_
  refine qr_aload_n (pc := 14) d_tf_init_14 rfl rfl ?_
  refine qr_iconst (v := 0) (pc := 15) d_tf_init_15 (by decide) ?_
  refine qr_put (fs := [.int 0, .int 0, .int 0, .int 0, .int 0, .int 0, .null, .null, .int 0]) (f' := va_up _ 34 (.inr (4, [.int 0, .int 0, .int 0, .int 0, .int 0, .int 0, .null, .null, .int 0]))) (pc := 16) d_tf_init_16 fl_tf_16 (by decide) (by decide) rfl (by decide) (fun z ex => ⟨rfl, rfl⟩) rfl ?_
  refine qr_aload_n (pc := 19) d_tf_init_19 rfl rfl ?_
  refine qr_iconst (v := 0) (pc := 20) d_tf_init_20 (by decide) ?_
  refine qr_put (fs := [.int 0, .int 0, .int 0, .int 0, .int 0, .int 0, .null, .null, .int 0]) (f' := va_up _ 34 (.inr (4, [.int 0, .int 0, .int 0, .int 0, .int 0, .int 0, .null, .null, .int 0]))) (pc := 21) d_tf_init_21 fl_tf_19 (by decide) (by decide) rfl (by decide) (fun z ex => ⟨rfl, rfl⟩) rfl ?_
  refine qr_aload_n (pc := 24) d_tf_init_24 rfl rfl ?_
  refine qr_iconst (v := 0) (pc := 25) d_tf_init_25 (by decide) ?_
  refine qr_put (fs := [.int 0, .int 0, .int 0, .int 0, .int 0, .int 0, .null, .null, .int 0]) (f' := va_up _ 34 (.inr (4, [.int 0, .int 0, .int 0, .int 0, .int 0, .int 0, .null, .null, .int 0]))) (pc := 26) d_tf_init_26 fl_tf_22 (by decide) (by decide) rfl (by decide) (fun z ex => ⟨rfl, rfl⟩) rfl ?_
  refine qr_aload_n (pc := 29) d_tf_init_29 rfl rfl ?_
  refine qr_iconst (v := 0) (pc := 30) d_tf_init_30 (by decide) ?_
  refine qr_put (fs := [.int 0, .int 0, .int 0, .int 0, .int 0, .int 0, .null, .null, .int 0]) (f' := va_up _ 34 (.inr (4, [.int 0, .int 0, .int 0, .int 0, .int 0, .int 0, .null, .null, .int 0]))) (pc := 31) d_tf_init_31 fl_tf_25 (by decide) (by decide) rfl (by decide) (fun z ex => ⟨rfl, rfl⟩) rfl ?_
  refine qr_aload_n (pc := 34) d_tf_init_34 rfl rfl ?_
  refine qr_iconst (v := 4) (pc := 35) d_tf_init_35 (by decide) ?_
  refine qr_newa (t := 0) (len := 4) (ty9 := .int) (a := (4, .inl (fun _ => 0))) (pc := 36) d_tf_init_36 rfl rfl ac_int (by decide) (by decide) (by decide) (fun Cn h => nomatch h) (fun cA => rfl) (fun z ex => rfl) ⟨rfl, rfl⟩ (by decide) (Nat.le_of_ble_eq_true rfl) (Nat.le_of_ble_eq_true rfl) ?_
  refine qr_putF (fs := [.int 0, .int 0, .int 0, .int 0, .int 0, .int 0, .null, .null, .int 0]) (f' := va_up _ 34 (.inr (4, [.int 0, .int 0, .int 0, .int 0, .int 0, .int 0, .ref 35, .null, .int 0]))) (pc := 38) d_tf_init_38 fl_tf_28 ⟨rfl, rfl⟩ (by decide) (by decide) rfl (by decide) (fun z ex => ⟨rfl, rfl⟩) rfl ?_
  refine qr_aload_n (pc := 41) d_tf_init_41 rfl rfl ?_
  refine qr_iconst (v := 4) (pc := 42) d_tf_init_42 (by decide) ?_
  refine qr_newa (t := 0) (len := 4) (ty9 := .int) (a := (4, .inl (fun _ => 0))) (pc := 43) d_tf_init_43 rfl rfl ac_int (by decide) (by decide) (by decide) (fun Cn h => nomatch h) (fun cA => rfl) (fun z ex => rfl) ⟨rfl, rfl⟩ (by decide) (Nat.le_of_ble_eq_true rfl) (Nat.le_of_ble_eq_true rfl) ?_
  refine qr_putF (fs := [.int 0, .int 0, .int 0, .int 0, .int 0, .int 0, .ref 35, .null, .int 0]) (f' := va_up _ 34 (.inr (4, [.int 0, .int 0, .int 0, .int 0, .int 0, .int 0, .ref 35, .ref 36, .int 0]))) (pc := 45) d_tf_init_45 fl_tf_32 ⟨rfl, rfl⟩ (by decide) (by decide) rfl (by decide) (fun z ex => ⟨rfl, rfl⟩) rfl ?_
  refine qr_aload_n (pc := 48) d_tf_init_48 rfl rfl ?_
  refine qr_iconst (v := 0) (pc := 49) d_tf_init_49 (by decide) ?_
  refine qr_put (fs := [.int 0, .int 0, .int 0, .int 0, .int 0, .int 0, .ref 35, .ref 36, .int 0]) (f' := va_up _ 34 (.inr (4, [.int 0, .int 0, .int 0, .int 0, .int 0, .int 0, .ref 35, .ref 36, .int 0]))) (pc := 50) d_tf_init_50 fl_tf_35 (by decide) (by decide) rfl (by decide) (fun z ex => ⟨rfl, rfl⟩) rfl ?_
  exact qr_vret (pc := 53) d_tf_init_53 rfl ⟨rfl, rfl, rfl⟩ (Nat.le_of_ble_eq_true rfl) (Nat.le_of_ble_eq_true rfl)
set_option maxRecDepth 10000 in
theorem s_cu_init_37 (l : Launch) (f : Nat → va_E) (hf : f 37 = .inr (0, [.null, .int 0, .int 0, .int 0, .long 0])) : qSp l y_cu_init b_cu_init 1 none true 1 1 401 [.ref 37] 38 f (qD none 39 (va_up (va_up (va_up (va_up (va_up (va_up f 38 (.inl (4, 401, .inl (fun _ => 0)))) 37 (.inr (0, [.ref 38, .int 0, .int 0, .int 0, .long 0]))) 37 (.inr (0, [.ref 38, .int (-1), .int 0, .int 0, .long 0]))) 37 (.inr (0, [.ref 38, .int (-1), .int 0, .int 0, .long 0]))) 37 (.inr (0, [.ref 38, .int (-1), .int 0, .int 0, .long 0]))) 37 (.inr (0, [.ref 38, .int (-1), .int 0, .int 0, .long 0])))) := by
  refine qSp_of (ini := true) (by decide +kernel) (fun _ => rfl) (Nat.le_of_ble_eq_true rfl) ?_
  refine qr_aload_n (pc := 0) d_cu_init_0 rfl rfl ?_
  refine qr_obj (pc := 1) d_cu_init_1 lk_cu_3 oi_im oi_co (Nat.le_of_ble_eq_true rfl) (Nat.le_of_ble_eq_true rfl) ?_
  refine qr_aload_n (pc := 4) d_cu_init_4 rfl rfl ?_
  refine qr_sipush (v := 401) (pc := 5) d_cu_init_5 (by decide) ?_
  refine qr_newa (t := 4) (len := 401) (ty9 := .byte) (a := (401, .inl (fun _ => 0))) (pc := 8) d_cu_init_8 rfl rfl ac_byte (by decide) (by decide) (by decide) (fun Cn h => nomatch h) (fun cA => rfl) (fun z ex => rfl) ⟨rfl, rfl⟩ (by decide) (Nat.le_of_ble_eq_true rfl) (Nat.le_of_ble_eq_true rfl) ?_
  refine qr_putF (fs := [.null, .int 0, .int 0, .int 0, .long 0]) (f' := va_up _ 37 (.inr (0, [.ref 38, .int 0, .int 0, .int 0, .long 0]))) (pc := 10) d_cu_init_10 fl_cu_9 ⟨rfl, rfl⟩ (by decide) (by decide) hf (by decide) (fun z ex => ⟨rfl, rfl⟩) rfl ?_
  refine qr_aload_n (pc := 13) d_cu_init_13 rfl rfl ?_
  refine qr_iconst (v := (-1)) (pc := 14) d_cu_init_14 (by decide) ?_
  refine qr_put (fs := [.ref 38, .int 0, .int 0, .int 0, .long 0]) (f' := va_up _ 37 (.inr (0, [.ref 38, .int (-1), .int 0, .int 0, .long 0]))) (pc := 15) d_cu_init_15 fl_cu_15 (by decide) (by decide) rfl (by decide) (fun z ex => ⟨rfl, rfl⟩) rfl ?_
  refine qr_aload_n (pc := 18) d_cu_init_18 rfl rfl ?_
  refine qr_iconst (v := 0) (pc := 19) d_cu_init_19 (by decide) ?_
  refine qr_put (fs := [.ref 38, .int (-1), .int 0, .int 0, .long 0]) (f' := va_up _ 37 (.inr (0, [.ref 38, .int (-1), .int 0, .int 0, .long 0]))) (pc := 20) d_cu_init_20 fl_cu_19 (by decide) (by decide) rfl (by decide) (fun z ex => ⟨rfl, rfl⟩) rfl ?_
  refine qr_aload_n (pc := 23) d_cu_init_23 rfl rfl ?_
  refine qr_iconst (v := 0) (pc := 24) d_cu_init_24 (by decide) ?_
  refine qr_put (fs := [.ref 38, .int (-1), .int 0, .int 0, .long 0]) (f' := va_up _ 37 (.inr (0, [.ref 38, .int (-1), .int 0, .int 0, .long 0]))) (pc := 25) d_cu_init_25 fl_cu_23 (by decide) (by decide) rfl (by decide) (fun z ex => ⟨rfl, rfl⟩) rfl ?_
  refine qr_aload_n (pc := 28) d_cu_init_28 rfl rfl ?_
  refine qr_lconst (v := 0) (pc := 29) d_cu_init_29 (by decide) ?_
  refine qr_put (fs := [.ref 38, .int (-1), .int 0, .int 0, .long 0]) (f' := va_up _ 37 (.inr (0, [.ref 38, .int (-1), .int 0, .int 0, .long 0]))) (pc := 30) d_cu_init_30 fl_cu_26 (by decide) (by decide) rfl (by decide) (fun z ex => ⟨rfl, rfl⟩) rfl ?_
  exact qr_vret (pc := 33) d_cu_init_33 rfl ⟨rfl, rfl, rfl⟩ (Nat.le_of_ble_eq_true rfl) (Nat.le_of_ble_eq_true rfl)
set_option maxRecDepth 10000 in
theorem s_cu_init_39 (l : Launch) (f : Nat → va_E) (hf : f 39 = .inr (0, [.null, .int 0, .int 0, .int 0, .long 0])) : qSp l y_cu_init b_cu_init 1 none true 1 1 401 [.ref 39] 40 f (qD none 41 (va_up (va_up (va_up (va_up (va_up (va_up f 40 (.inl (4, 401, .inl (fun _ => 0)))) 39 (.inr (0, [.ref 40, .int 0, .int 0, .int 0, .long 0]))) 39 (.inr (0, [.ref 40, .int (-1), .int 0, .int 0, .long 0]))) 39 (.inr (0, [.ref 40, .int (-1), .int 0, .int 0, .long 0]))) 39 (.inr (0, [.ref 40, .int (-1), .int 0, .int 0, .long 0]))) 39 (.inr (0, [.ref 40, .int (-1), .int 0, .int 0, .long 0])))) := by
  refine qSp_of (ini := true) (by decide +kernel) (fun _ => rfl) (Nat.le_of_ble_eq_true rfl) ?_
  refine qr_aload_n (pc := 0) d_cu_init_0 rfl rfl ?_
  refine qr_obj (pc := 1) d_cu_init_1 lk_cu_3 oi_im oi_co (Nat.le_of_ble_eq_true rfl) (Nat.le_of_ble_eq_true rfl) ?_
  refine qr_aload_n (pc := 4) d_cu_init_4 rfl rfl ?_
  refine qr_sipush (v := 401) (pc := 5) d_cu_init_5 (by decide) ?_
  refine qr_newa (t := 4) (len := 401) (ty9 := .byte) (a := (401, .inl (fun _ => 0))) (pc := 8) d_cu_init_8 rfl rfl ac_byte (by decide) (by decide) (by decide) (fun Cn h => nomatch h) (fun cA => rfl) (fun z ex => rfl) ⟨rfl, rfl⟩ (by decide) (Nat.le_of_ble_eq_true rfl) (Nat.le_of_ble_eq_true rfl) ?_
  refine qr_putF (fs := [.null, .int 0, .int 0, .int 0, .long 0]) (f' := va_up _ 39 (.inr (0, [.ref 40, .int 0, .int 0, .int 0, .long 0]))) (pc := 10) d_cu_init_10 fl_cu_9 ⟨rfl, rfl⟩ (by decide) (by decide) hf (by decide) (fun z ex => ⟨rfl, rfl⟩) rfl ?_
  refine qr_aload_n (pc := 13) d_cu_init_13 rfl rfl ?_
  refine qr_iconst (v := (-1)) (pc := 14) d_cu_init_14 (by decide) ?_
  refine qr_put (fs := [.ref 40, .int 0, .int 0, .int 0, .long 0]) (f' := va_up _ 39 (.inr (0, [.ref 40, .int (-1), .int 0, .int 0, .long 0]))) (pc := 15) d_cu_init_15 fl_cu_15 (by decide) (by decide) rfl (by decide) (fun z ex => ⟨rfl, rfl⟩) rfl ?_
  refine qr_aload_n (pc := 18) d_cu_init_18 rfl rfl ?_
  refine qr_iconst (v := 0) (pc := 19) d_cu_init_19 (by decide) ?_
  refine qr_put (fs := [.ref 40, .int (-1), .int 0, .int 0, .long 0]) (f' := va_up _ 39 (.inr (0, [.ref 40, .int (-1), .int 0, .int 0, .long 0]))) (pc := 20) d_cu_init_20 fl_cu_19 (by decide) (by decide) rfl (by decide) (fun z ex => ⟨rfl, rfl⟩) rfl ?_
  refine qr_aload_n (pc := 23) d_cu_init_23 rfl rfl ?_
  refine qr_iconst (v := 0) (pc := 24) d_cu_init_24 (by decide) ?_
  refine qr_put (fs := [.ref 40, .int (-1), .int 0, .int 0, .long 0]) (f' := va_up _ 39 (.inr (0, [.ref 40, .int (-1), .int 0, .int 0, .long 0]))) (pc := 25) d_cu_init_25 fl_cu_23 (by decide) (by decide) rfl (by decide) (fun z ex => ⟨rfl, rfl⟩) rfl ?_
  refine qr_aload_n (pc := 28) d_cu_init_28 rfl rfl ?_
  refine qr_lconst (v := 0) (pc := 29) d_cu_init_29 (by decide) ?_
  refine qr_put (fs := [.ref 40, .int (-1), .int 0, .int 0, .long 0]) (f' := va_up _ 39 (.inr (0, [.ref 40, .int (-1), .int 0, .int 0, .long 0]))) (pc := 30) d_cu_init_30 fl_cu_26 (by decide) (by decide) rfl (by decide) (fun z ex => ⟨rfl, rfl⟩) rfl ?_
  exact qr_vret (pc := 33) d_cu_init_33 rfl ⟨rfl, rfl, rfl⟩ (Nat.le_of_ble_eq_true rfl) (Nat.le_of_ble_eq_true rfl)
set_option maxRecDepth 10000 in
theorem s_cu_init_41 (l : Launch) (f : Nat → va_E) (hf : f 41 = .inr (0, [.null, .int 0, .int 0, .int 0, .long 0])) : qSp l y_cu_init b_cu_init 1 none true 1 1 401 [.ref 41] 42 f (qD none 43 (va_up (va_up (va_up (va_up (va_up (va_up f 42 (.inl (4, 401, .inl (fun _ => 0)))) 41 (.inr (0, [.ref 42, .int 0, .int 0, .int 0, .long 0]))) 41 (.inr (0, [.ref 42, .int (-1), .int 0, .int 0, .long 0]))) 41 (.inr (0, [.ref 42, .int (-1), .int 0, .int 0, .long 0]))) 41 (.inr (0, [.ref 42, .int (-1), .int 0, .int 0, .long 0]))) 41 (.inr (0, [.ref 42, .int (-1), .int 0, .int 0, .long 0])))) := by
  refine qSp_of (ini := true) (by decide +kernel) (fun _ => rfl) (Nat.le_of_ble_eq_true rfl) ?_
  refine qr_aload_n (pc := 0) d_cu_init_0 rfl rfl ?_
  refine qr_obj (pc := 1) d_cu_init_1 lk_cu_3 oi_im oi_co (Nat.le_of_ble_eq_true rfl) (Nat.le_of_ble_eq_true rfl) ?_
  refine qr_aload_n (pc := 4) d_cu_init_4 rfl rfl ?_
  refine qr_sipush (v := 401) (pc := 5) d_cu_init_5 (by decide) ?_
  refine qr_newa (t := 4) (len := 401) (ty9 := .byte) (a := (401, .inl (fun _ => 0))) (pc := 8) d_cu_init_8 rfl rfl ac_byte (by decide) (by decide) (by decide) (fun Cn h => nomatch h) (fun cA => rfl) (fun z ex => rfl) ⟨rfl, rfl⟩ (by decide) (Nat.le_of_ble_eq_true rfl) (Nat.le_of_ble_eq_true rfl) ?_
  refine qr_putF (fs := [.null, .int 0, .int 0, .int 0, .long 0]) (f' := va_up _ 41 (.inr (0, [.ref 42, .int 0, .int 0, .int 0, .long 0]))) (pc := 10) d_cu_init_10 fl_cu_9 ⟨rfl, rfl⟩ (by decide) (by decide) hf (by decide) (fun z ex => ⟨rfl, rfl⟩) rfl ?_
  refine qr_aload_n (pc := 13) d_cu_init_13 rfl rfl ?_
  refine qr_iconst (v := (-1)) (pc := 14) d_cu_init_14 (by decide) ?_
  refine qr_put (fs := [.ref 42, .int 0, .int 0, .int 0, .long 0]) (f' := va_up _ 41 (.inr (0, [.ref 42, .int (-1), .int 0, .int 0, .long 0]))) (pc := 15) d_cu_init_15 fl_cu_15 (by decide) (by decide) rfl (by decide) (fun z ex => ⟨rfl, rfl⟩) rfl ?_
  refine qr_aload_n (pc := 18) d_cu_init_18 rfl rfl ?_
  refine qr_iconst (v := 0) (pc := 19) d_cu_init_19 (by decide) ?_
  refine qr_put (fs := [.ref 42, .int (-1), .int 0, .int 0, .long 0]) (f' := va_up _ 41 (.inr (0, [.ref 42, .int (-1), .int 0, .int 0, .long 0]))) (pc := 20) d_cu_init_20 fl_cu_19 (by decide) (by decide) rfl (by decide) (fun z ex => ⟨rfl, rfl⟩) rfl ?_
  refine qr_aload_n (pc := 23) d_cu_init_23 rfl rfl ?_
  refine qr_iconst (v := 0) (pc := 24) d_cu_init_24 (by decide) ?_
  refine qr_put (fs := [.ref 42, .int (-1), .int 0, .int 0, .long 0]) (f' := va_up _ 41 (.inr (0, [.ref 42, .int (-1), .int 0, .int 0, .long 0]))) (pc := 25) d_cu_init_25 fl_cu_23 (by decide) (by decide) rfl (by decide) (fun z ex => ⟨rfl, rfl⟩) rfl ?_
  refine qr_aload_n (pc := 28) d_cu_init_28 rfl rfl ?_
  refine qr_lconst (v := 0) (pc := 29) d_cu_init_29 (by decide) ?_
  refine qr_put (fs := [.ref 42, .int (-1), .int 0, .int 0, .long 0]) (f' := va_up _ 41 (.inr (0, [.ref 42, .int (-1), .int 0, .int 0, .long 0]))) (pc := 30) d_cu_init_30 fl_cu_26 (by decide) (by decide) rfl (by decide) (fun z ex => ⟨rfl, rfl⟩) rfl ?_
  exact qr_vret (pc := 33) d_cu_init_33 rfl ⟨rfl, rfl, rfl⟩ (Nat.le_of_ble_eq_true rfl) (Nat.le_of_ble_eq_true rfl)
set_option maxRecDepth 10000 in
theorem s_cu_init_43 (l : Launch) (f : Nat → va_E) (hf : f 43 = .inr (0, [.null, .int 0, .int 0, .int 0, .long 0])) : qSp l y_cu_init b_cu_init 1 none true 1 1 401 [.ref 43] 44 f (qD none 45 (va_up (va_up (va_up (va_up (va_up (va_up f 44 (.inl (4, 401, .inl (fun _ => 0)))) 43 (.inr (0, [.ref 44, .int 0, .int 0, .int 0, .long 0]))) 43 (.inr (0, [.ref 44, .int (-1), .int 0, .int 0, .long 0]))) 43 (.inr (0, [.ref 44, .int (-1), .int 0, .int 0, .long 0]))) 43 (.inr (0, [.ref 44, .int (-1), .int 0, .int 0, .long 0]))) 43 (.inr (0, [.ref 44, .int (-1), .int 0, .int 0, .long 0])))) := by
  refine qSp_of (ini := true) (by decide +kernel) (fun _ => rfl) (Nat.le_of_ble_eq_true rfl) ?_
  refine qr_aload_n (pc := 0) d_cu_init_0 rfl rfl ?_
  refine qr_obj (pc := 1) d_cu_init_1 lk_cu_3 oi_im oi_co (Nat.le_of_ble_eq_true rfl) (Nat.le_of_ble_eq_true rfl) ?_
  refine qr_aload_n (pc := 4) d_cu_init_4 rfl rfl ?_
  refine qr_sipush (v := 401) (pc := 5) d_cu_init_5 (by decide) ?_
  refine qr_newa (t := 4) (len := 401) (ty9 := .byte) (a := (401, .inl (fun _ => 0))) (pc := 8) d_cu_init_8 rfl rfl ac_byte (by decide) (by decide) (by decide) (fun Cn h => nomatch h) (fun cA => rfl) (fun z ex => rfl) ⟨rfl, rfl⟩ (by decide) (Nat.le_of_ble_eq_true rfl) (Nat.le_of_ble_eq_true rfl) ?_
  refine qr_putF (fs := [.null, .int 0, .int 0, .int 0, .long 0]) (f' := va_up _ 43 (.inr (0, [.ref 44, .int 0, .int 0, .int 0, .long 0]))) (pc := 10) d_cu_init_10 fl_cu_9 ⟨rfl, rfl⟩ (by decide) (by decide) hf (by decide) (fun z ex => ⟨rfl, rfl⟩) rfl ?_
  refine qr_aload_n (pc := 13) d_cu_init_13 rfl rfl ?_
  refine qr_iconst (v := (-1)) (pc := 14) d_cu_init_14 (by decide) ?_
  refine qr_put (fs := [.ref 44, .int 0, .int 0, .int 0, .long 0]) (f' := va_up _ 43 (.inr (0, [.ref 44, .int (-1), .int 0, .int 0, .long 0]))) (pc := 15) d_cu_init_15 fl_cu_15 (by decide) (by decide) rfl (by decide) (fun z ex => ⟨rfl, rfl⟩) rfl ?_
  refine qr_aload_n (pc := 18) d_cu_init_18 rfl rfl ?_
  refine qr_iconst (v := 0) (pc := 19) d_cu_init_19 (by decide) ?_
  refine qr_put (fs := [.ref 44, .int (-1), .int 0, .int 0, .long 0]) (f' := va_up _ 43 (.inr (0, [.ref 44, .int (-1), .int 0, .int 0, .long 0]))) (pc := 20) d_cu_init_20 fl_cu_19 (by decide) (by decide) rfl (by decide) (fun z ex => ⟨rfl, rfl⟩) rfl ?_
  refine qr_aload_n (pc := 23) d_cu_init_23 rfl rfl ?_
  refine qr_iconst (v := 0) (pc := 24) d_cu_init_24 (by decide) ?_
  refine qr_put (fs := [.ref 44, .int (-1), .int 0, .int 0, .long 0]) (f' := va_up _ 43 (.inr (0, [.ref 44, .int (-1), .int 0, .int 0, .long 0]))) (pc := 25) d_cu_init_25 fl_cu_23 (by decide) (by decide) rfl (by decide) (fun z ex => ⟨rfl, rfl⟩) rfl ?_
  refine qr_aload_n (pc := 28) d_cu_init_28 rfl rfl ?_
  refine qr_lconst (v := 0) (pc := 29) d_cu_init_29 (by decide) ?_
  refine qr_put (fs := [.ref 44, .int (-1), .int 0, .int 0, .long 0]) (f' := va_up _ 43 (.inr (0, [.ref 44, .int (-1), .int 0, .int 0, .long 0]))) (pc := 30) d_cu_init_30 fl_cu_26 (by decide) (by decide) rfl (by decide) (fun z ex => ⟨rfl, rfl⟩) rfl ?_
  exact qr_vret (pc := 33) d_cu_init_33 rfl ⟨rfl, rfl, rfl⟩ (Nat.le_of_ble_eq_true rfl) (Nat.le_of_ble_eq_true rfl)
set_option maxRecDepth 10000 in
theorem s_cu_init_45 (l : Launch) (f : Nat → va_E) (hf : f 45 = .inr (0, [.null, .int 0, .int 0, .int 0, .long 0])) : qSp l y_cu_init b_cu_init 1 none true 1 1 401 [.ref 45] 46 f (qD none 47 (va_up (va_up (va_up (va_up (va_up (va_up f 46 (.inl (4, 401, .inl (fun _ => 0)))) 45 (.inr (0, [.ref 46, .int 0, .int 0, .int 0, .long 0]))) 45 (.inr (0, [.ref 46, .int (-1), .int 0, .int 0, .long 0]))) 45 (.inr (0, [.ref 46, .int (-1), .int 0, .int 0, .long 0]))) 45 (.inr (0, [.ref 46, .int (-1), .int 0, .int 0, .long 0]))) 45 (.inr (0, [.ref 46, .int (-1), .int 0, .int 0, .long 0])))) := by
  refine qSp_of (ini := true) (by decide +kernel) (fun _ => rfl) (Nat.le_of_ble_eq_true rfl) ?_
  refine qr_aload_n (pc := 0) d_cu_init_0 rfl rfl ?_
  refine qr_obj (pc := 1) d_cu_init_1 lk_cu_3 oi_im oi_co (Nat.le_of_ble_eq_true rfl) (Nat.le_of_ble_eq_true rfl) ?_
  refine qr_aload_n (pc := 4) d_cu_init_4 rfl rfl ?_
  refine qr_sipush (v := 401) (pc := 5) d_cu_init_5 (by decide) ?_
  refine qr_newa (t := 4) (len := 401) (ty9 := .byte) (a := (401, .inl (fun _ => 0))) (pc := 8) d_cu_init_8 rfl rfl ac_byte (by decide) (by decide) (by decide) (fun Cn h => nomatch h) (fun cA => rfl) (fun z ex => rfl) ⟨rfl, rfl⟩ (by decide) (Nat.le_of_ble_eq_true rfl) (Nat.le_of_ble_eq_true rfl) ?_
  refine qr_putF (fs := [.null, .int 0, .int 0, .int 0, .long 0]) (f' := va_up _ 45 (.inr (0, [.ref 46, .int 0, .int 0, .int 0, .long 0]))) (pc := 10) d_cu_init_10 fl_cu_9 ⟨rfl, rfl⟩ (by decide) (by decide) hf (by decide) (fun z ex => ⟨rfl, rfl⟩) rfl ?_
  refine qr_aload_n (pc := 13) d_cu_init_13 rfl rfl ?_
  refine qr_iconst (v := (-1)) (pc := 14) d_cu_init_14 (by decide) ?_
  refine qr_put (fs := [.ref 46, .int 0, .int 0, .int 0, .long 0]) (f' := va_up _ 45 (.inr (0, [.ref 46, .int (-1), .int 0, .int 0, .long 0]))) (pc := 15) d_cu_init_15 fl_cu_15 (by decide) (by decide) rfl (by decide) (fun z ex => ⟨rfl, rfl⟩) rfl ?_
  refine qr_aload_n (pc := 18) d_cu_init_18 rfl rfl ?_
  refine qr_iconst (v := 0) (pc := 19) d_cu_init_19 (by decide) ?_
  refine qr_put (fs := [.ref 46, .int (-1), .int 0, .int 0, .long 0]) (f' := va_up _ 45 (.inr (0, [.ref 46, .int (-1), .int 0, .int 0, .long 0]))) (pc := 20) d_cu_init_20 fl_cu_19 (by decide) (by decide) rfl (by decide) (fun z ex => ⟨rfl, rfl⟩) rfl ?_
  refine qr_aload_n (pc := 23) d_cu_init_23 rfl rfl ?_
  refine qr_iconst (v := 0) (pc := 24) d_cu_init_24 (by decide) ?_
  refine qr_put (fs := [.ref 46, .int (-1), .int 0, .int 0, .long 0]) (f' := va_up _ 45 (.inr (0, [.ref 46, .int (-1), .int 0, .int 0, .long 0]))) (pc := 25) d_cu_init_25 fl_cu_23 (by decide) (by decide) rfl (by decide) (fun z ex => ⟨rfl, rfl⟩) rfl ?_
  refine qr_aload_n (pc := 28) d_cu_init_28 rfl rfl ?_
  refine qr_lconst (v := 0) (pc := 29) d_cu_init_29 (by decide) ?_
  refine qr_put (fs := [.ref 46, .int (-1), .int 0, .int 0, .long 0]) (f' := va_up _ 45 (.inr (0, [.ref 46, .int (-1), .int 0, .int 0, .long 0]))) (pc := 30) d_cu_init_30 fl_cu_26 (by decide) (by decide) rfl (by decide) (fun z ex => ⟨rfl, rfl⟩) rfl ?_
  exact qr_vret (pc := 33) d_cu_init_33 rfl ⟨rfl, rfl, rfl⟩ (Nat.le_of_ble_eq_true rfl) (Nat.le_of_ble_eq_true rfl)
set_option maxRecDepth 10000 in
theorem s_ev_init_9 (l : Launch) (f : Nat → va_E) (hf : f 9 = .inr (1, [.null, .null, .null, .null, .int 0])) : qSp l y_ev_init b_ev_init 1 none true 1 4 320 [.ref 9] 10 f (qD none 14 (va_up (va_up (va_up (va_up (va_up (va_up (va_up (va_up (va_up f 10 (.inl (0, 80, .inl (fun _ => 0)))) 9 (.inr (1, [.ref 10, .null, .null, .null, .int 0]))) 11 (.inl (0, 80, .inl (fun _ => 0)))) 9 (.inr (1, [.ref 10, .ref 11, .null, .null, .int 0]))) 12 (.inl (0, 80, .inl (fun _ => 0)))) 9 (.inr (1, [.ref 10, .ref 11, .ref 12, .null, .int 0]))) 13 (.inl (0, 80, .inl (fun _ => 0)))) 9 (.inr (1, [.ref 10, .ref 11, .ref 12, .ref 13, .int 0]))) 9 (.inr (1, [.ref 10, .ref 11, .ref 12, .ref 13, .int 0])))) := by
  refine qSp_of (ini := true) (by decide +kernel) (fun _ => rfl) (Nat.le_of_ble_eq_true rfl) ?_
  refine qr_aload_n (pc := 0) d_ev_init_0 rfl rfl ?_
  refine qr_obj (pc := 1) d_ev_init_1 lk_ev_1 oi_im oi_co (Nat.le_of_ble_eq_true rfl) (Nat.le_of_ble_eq_true rfl) ?_
  refine qr_aload_n (pc := 4) d_ev_init_4 rfl rfl ?_
  refine qr_bipush (v := 80) (pc := 5) d_ev_init_5 (by decide) ?_
  refine qr_newa (t := 0) (len := 80) (ty9 := .int) (a := (80, .inl (fun _ => 0))) (pc := 7) d_ev_init_7 rfl rfl ac_int (by decide) (by decide) (by decide) (fun Cn h => nomatch h) (fun cA => rfl) (fun z ex => rfl) ⟨rfl, rfl⟩ (by decide) (Nat.le_of_ble_eq_true rfl) (Nat.le_of_ble_eq_true rfl) ?_
  refine qr_putF (fs := [.null, .null, .null, .null, .int 0]) (f' := va_up _ 9 (.inr (1, [.ref 10, .null, .null, .null, .int 0]))) (pc := 9) d_ev_init_9 fl_ev_9 ⟨rfl, rfl⟩ (by decide) (by decide) hf (by decide) (fun z ex => ⟨rfl, rfl⟩) rfl ?_
  refine qr_aload_n (pc := 12) d_ev_init_12 rfl rfl ?_
  refine qr_bipush (v := 80) (pc := 13) d_ev_init_13 (by decide) ?_
  refine qr_newa (t := 0) (len := 80) (ty9 := .int) (a := (80, .inl (fun _ => 0))) (pc := 15) d_ev_init_15 rfl rfl ac_int (by decide) (by decide) (by decide) (fun Cn h => nomatch h) (fun cA => rfl) (fun z ex => rfl) ⟨rfl, rfl⟩ (by decide) (Nat.le_of_ble_eq_true rfl) (Nat.le_of_ble_eq_true rfl) ?_
  refine qr_putF (fs := [.ref 10, .null, .null, .null, .int 0]) (f' := va_up _ 9 (.inr (1, [.ref 10, .ref 11, .null, .null, .int 0]))) (pc := 17) d_ev_init_17 fl_ev_13 ⟨rfl, rfl⟩ (by decide) (by decide) rfl (by decide) (fun z ex => ⟨rfl, rfl⟩) rfl ?_
  refine qr_aload_n (pc := 20) d_ev_init_20 rfl rfl ?_
  refine qr_bipush (v := 80) (pc := 21) d_ev_init_21 (by decide) ?_
  refine qr_newa (t := 0) (len := 80) (ty9 := .int) (a := (80, .inl (fun _ => 0))) (pc := 23) d_ev_init_23 rfl rfl ac_int (by decide) (by decide) (by decide) (fun Cn h => nomatch h) (fun cA => rfl) (fun z ex => rfl) ⟨rfl, rfl⟩ (by decide) (Nat.le_of_ble_eq_true rfl) (Nat.le_of_ble_eq_true rfl) ?_
  refine qr_putF (fs := [.ref 10, .ref 11, .null, .null, .int 0]) (f' := va_up _ 9 (.inr (1, [.ref 10, .ref 11, .ref 12, .null, .int 0]))) (pc := 25) d_ev_init_25 fl_ev_16 ⟨rfl, rfl⟩ (by decide) (by decide) rfl (by decide) (fun z ex => ⟨rfl, rfl⟩) rfl ?_
  refine qr_aload_n (pc := 28) d_ev_init_28 rfl rfl ?_
  refine qr_bipush (v := 80) (pc := 29) d_ev_init_29 (by decide) ?_
  refine qr_newa (t := 0) (len := 80) (ty9 := .int) (a := (80, .inl (fun _ => 0))) (pc := 31) d_ev_init_31 rfl rfl ac_int (by decide) (by decide) (by decide) (fun Cn h => nomatch h) (fun cA => rfl) (fun z ex => rfl) ⟨rfl, rfl⟩ (by decide) (Nat.le_of_ble_eq_true rfl) (Nat.le_of_ble_eq_true rfl) ?_
  refine qr_putF (fs := [.ref 10, .ref 11, .ref 12, .null, .int 0]) (f' := va_up _ 9 (.inr (1, [.ref 10, .ref 11, .ref 12, .ref 13, .int 0]))) (pc := 33) d_ev_init_33 fl_ev_19 ⟨rfl, rfl⟩ (by decide) (by decide) rfl (by decide) (fun z ex => ⟨rfl, rfl⟩) rfl ?_
  refine qr_aload_n (pc := 36) d_ev_init_36 rfl rfl ?_
  refine qr_iconst (v := 0) (pc := 37) d_ev_init_37 (by decide) ?_
  refine qr_put (fs := [.ref 10, .ref 11, .ref 12, .ref 13, .int 0]) (f' := va_up _ 9 (.inr (1, [.ref 10, .ref 11, .ref 12, .ref 13, .int 0]))) (pc := 38) d_ev_init_38 fl_ev_22 (by decide) (by decide) rfl (by decide) (fun z ex => ⟨rfl, rfl⟩) rfl ?_
  exact qr_vret (pc := 41) d_ev_init_41 rfl ⟨rfl, rfl, rfl⟩ (Nat.le_of_ble_eq_true rfl) (Nat.le_of_ble_eq_true rfl)
set_option maxRecDepth 10000 in
theorem s_ib_init_14 (l : Launch) (f : Nat → va_E) (hf : f 14 = .inr (2, [.null, .null, .null, .null, .null, .int 0])) : qSp l y_ib_init b_ib_init 1 none true 1 5 250 [.ref 14] 15 f (qD none 20 (va_up (va_up (va_up (va_up (va_up (va_up (va_up (va_up (va_up (va_up (va_up f 15 (.inl (0, 50, .inl (fun _ => 0)))) 14 (.inr (2, [.ref 15, .null, .null, .null, .null, .int 0]))) 16 (.inl (0, 50, .inl (fun _ => 0)))) 14 (.inr (2, [.ref 15, .ref 16, .null, .null, .null, .int 0]))) 17 (.inl (1, 50, .inr (.inl (fun _ => 0))))) 14 (.inr (2, [.ref 15, .ref 16, .ref 17, .null, .null, .int 0]))) 18 (.inl (0, 50, .inl (fun _ => 0)))) 14 (.inr (2, [.ref 15, .ref 16, .ref 17, .ref 18, .null, .int 0]))) 19 (.inl (1, 50, .inr (.inl (fun _ => 0))))) 14 (.inr (2, [.ref 15, .ref 16, .ref 17, .ref 18, .ref 19, .int 0]))) 14 (.inr (2, [.ref 15, .ref 16, .ref 17, .ref 18, .ref 19, .int 0])))) := by
  refine qSp_of (ini := true) (by decide +kernel) (fun _ => rfl) (Nat.le_of_ble_eq_true rfl) ?_
  refine qr_aload_n (pc := 0) d_ib_init_0 rfl rfl ?_
  refine qr_obj (pc := 1) d_ib_init_1 lk_ib_1 oi_im oi_co (Nat.le_of_ble_eq_true rfl) (Nat.le_of_ble_eq_true rfl) ?_
  refine qr_aload_n (pc := 4) d_ib_init_4 rfl rfl ?_
  refine qr_bipush (v := 50) (pc := 5) d_ib_init_5 (by decide) ?_
  refine qr_newa (t := 0) (len := 50) (ty9 := .int) (a := (50, .inl (fun _ => 0))) (pc := 7) d_ib_init_7 rfl rfl ac_int (by decide) (by decide) (by decide) (fun Cn h => nomatch h) (fun cA => rfl) (fun z ex => rfl) ⟨rfl, rfl⟩ (by decide) (Nat.le_of_ble_eq_true rfl) (Nat.le_of_ble_eq_true rfl) ?_
  refine qr_putF (fs := [.null, .null, .null, .null, .null, .int 0]) (f' := va_up _ 14 (.inr (2, [.ref 15, .null, .null, .null, .null, .int 0]))) (pc := 9) d_ib_init_9 fl_ib_9 ⟨rfl, rfl⟩ (by decide) (by decide) hf (by decide) (fun z ex => ⟨rfl, rfl⟩) rfl ?_
  refine qr_aload_n (pc := 12) d_ib_init_12 rfl rfl ?_
  refine qr_bipush (v := 50) (pc := 13) d_ib_init_13 (by decide) ?_
  refine qr_newa (t := 0) (len := 50) (ty9 := .int) (a := (50, .inl (fun _ => 0))) (pc := 15) d_ib_init_15 rfl rfl ac_int (by decide) (by decide) (by decide) (fun Cn h => nomatch h) (fun cA => rfl) (fun z ex => rfl) ⟨rfl, rfl⟩ (by decide) (Nat.le_of_ble_eq_true rfl) (Nat.le_of_ble_eq_true rfl) ?_
  refine qr_putF (fs := [.ref 15, .null, .null, .null, .null, .int 0]) (f' := va_up _ 14 (.inr (2, [.ref 15, .ref 16, .null, .null, .null, .int 0]))) (pc := 17) d_ib_init_17 fl_ib_13 ⟨rfl, rfl⟩ (by decide) (by decide) rfl (by decide) (fun z ex => ⟨rfl, rfl⟩) rfl ?_
  refine qr_aload_n (pc := 20) d_ib_init_20 rfl rfl ?_
  refine qr_bipush (v := 50) (pc := 21) d_ib_init_21 (by decide) ?_
  refine qr_newa (t := 1) (len := 50) (ty9 := .long) (a := (50, .inr (.inl (fun _ => 0)))) (pc := 23) d_ib_init_23 rfl rfl ac_long (by decide) (by decide) (by decide) (fun Cn h => nomatch h) (fun cA => rfl) (fun z ex => rfl) ⟨rfl, rfl⟩ (by decide) (Nat.le_of_ble_eq_true rfl) (Nat.le_of_ble_eq_true rfl) ?_
  refine qr_putF (fs := [.ref 15, .ref 16, .null, .null, .null, .int 0]) (f' := va_up _ 14 (.inr (2, [.ref 15, .ref 16, .ref 17, .null, .null, .int 0]))) (pc := 25) d_ib_init_25 fl_ib_16 ⟨rfl, rfl⟩ (by decide) (by decide) rfl (by decide) (fun z ex => ⟨rfl, rfl⟩) rfl ?_
  refine qr_aload_n (pc := 28) d_ib_init_28 rfl rfl ?_
  refine qr_bipush (v := 50) (pc := 29) d_ib_init_29 (by decide) ?_
  refine qr_newa (t := 0) (len := 50) (ty9 := .int) (a := (50, .inl (fun _ => 0))) (pc := 31) d_ib_init_31 rfl rfl ac_int (by decide) (by decide) (by decide) (fun Cn h => nomatch h) (fun cA => rfl) (fun z ex => rfl) ⟨rfl, rfl⟩ (by decide) (Nat.le_of_ble_eq_true rfl) (Nat.le_of_ble_eq_true rfl) ?_
  refine qr_putF (fs := [.ref 15, .ref 16, .ref 17, .null, .null, .int 0]) (f' := va_up _ 14 (.inr (2, [.ref 15, .ref 16, .ref 17, .ref 18, .null, .int 0]))) (pc := 33) d_ib_init_33 fl_ib_20 ⟨rfl, rfl⟩ (by decide) (by decide) rfl (by decide) (fun z ex => ⟨rfl, rfl⟩) rfl ?_
  refine qr_aload_n (pc := 36) d_ib_init_36 rfl rfl ?_
  refine qr_bipush (v := 50) (pc := 37) d_ib_init_37 (by decide) ?_
  refine qr_newa (t := 1) (len := 50) (ty9 := .long) (a := (50, .inr (.inl (fun _ => 0)))) (pc := 39) d_ib_init_39 rfl rfl ac_long (by decide) (by decide) (by decide) (fun Cn h => nomatch h) (fun cA => rfl) (fun z ex => rfl) ⟨rfl, rfl⟩ (by decide) (Nat.le_of_ble_eq_true rfl) (Nat.le_of_ble_eq_true rfl) ?_
  refine qr_putF (fs := [.ref 15, .ref 16, .ref 17, .ref 18, .null, .int 0]) (f' := va_up _ 14 (.inr (2, [.ref 15, .ref 16, .ref 17, .ref 18, .ref 19, .int 0]))) (pc := 41) d_ib_init_41 fl_ib_23 ⟨rfl, rfl⟩ (by decide) (by decide) rfl (by decide) (fun z ex => ⟨rfl, rfl⟩) rfl ?_
  refine qr_aload_n (pc := 44) d_ib_init_44 rfl rfl ?_
  refine qr_iconst (v := 0) (pc := 45) d_ib_init_45 (by decide) ?_
  refine qr_put (fs := [.ref 15, .ref 16, .ref 17, .ref 18, .ref 19, .int 0]) (f' := va_up _ 14 (.inr (2, [.ref 15, .ref 16, .ref 17, .ref 18, .ref 19, .int 0]))) (pc := 46) d_ib_init_46 fl_ib_26 (by decide) (by decide) rfl (by decide) (fun z ex => ⟨rfl, rfl⟩) rfl ?_
  exact qr_vret (pc := 49) d_ib_init_49 rfl ⟨rfl, rfl, rfl⟩ (Nat.le_of_ble_eq_true rfl) (Nat.le_of_ble_eq_true rfl)
set_option maxRecDepth 10000 in
theorem s_pb_init_20 (l : Launch) (f : Nat → va_E) (hf : f 20 = .inr (3, [.null, .null, .null, .null, .int 0])) : qSp l y_pb_init b_pb_init 1 none true 1 4 40 [.ref 20] 21 f (qD none 25 (va_up (va_up (va_up (va_up (va_up (va_up (va_up (va_up (va_up f 21 (.inl (0, 10, .inl (fun _ => 0)))) 20 (.inr (3, [.ref 21, .null, .null, .null, .int 0]))) 22 (.inl (1, 10, .inr (.inl (fun _ => 0))))) 20 (.inr (3, [.ref 21, .ref 22, .null, .null, .int 0]))) 23 (.inl (0, 10, .inl (fun _ => 0)))) 20 (.inr (3, [.ref 21, .ref 22, .ref 23, .null, .int 0]))) 24 (.inl (0, 10, .inl (fun _ => 0)))) 20 (.inr (3, [.ref 21, .ref 22, .ref 23, .ref 24, .int 0]))) 20 (.inr (3, [.ref 21, .ref 22, .ref 23, .ref 24, .int 0])))) := by
  refine qSp_of (ini := true) (by decide +kernel) (fun _ => rfl) (Nat.le_of_ble_eq_true rfl) ?_
  refine qr_aload_n (pc := 0) d_pb_init_0 rfl rfl ?_
  refine qr_obj (pc := 1) d_pb_init_1 lk_pb_1 oi_im oi_co (Nat.le_of_ble_eq_true rfl) (Nat.le_of_ble_eq_true rfl) ?_
  refine qr_aload_n (pc := 4) d_pb_init_4 rfl rfl ?_
  refine qr_bipush (v := 10) (pc := 5) d_pb_init_5 (by decide) ?_
  refine qr_newa (t := 0) (len := 10) (ty9 := .int) (a := (10, .inl (fun _ => 0))) (pc := 7) d_pb_init_7 rfl rfl ac_int (by decide) (by decide) (by decide) (fun Cn h => nomatch h) (fun cA => rfl) (fun z ex => rfl) ⟨rfl, rfl⟩ (by decide) (Nat.le_of_ble_eq_true rfl) (Nat.le_of_ble_eq_true rfl) ?_
  refine qr_putF (fs := [.null, .null, .null, .null, .int 0]) (f' := va_up _ 20 (.inr (3, [.ref 21, .null, .null, .null, .int 0]))) (pc := 9) d_pb_init_9 fl_pb_9 ⟨rfl, rfl⟩ (by decide) (by decide) hf (by decide) (fun z ex => ⟨rfl, rfl⟩) rfl ?_
  refine qr_aload_n (pc := 12) d_pb_init_12 rfl rfl ?_
  refine qr_bipush (v := 10) (pc := 13) d_pb_init_13 (by decide) ?_
  refine qr_newa (t := 1) (len := 10) (ty9 := .long) (a := (10, .inr (.inl (fun _ => 0)))) (pc := 15) d_pb_init_15 rfl rfl ac_long (by decide) (by decide) (by decide) (fun Cn h => nomatch h) (fun cA => rfl) (fun z ex => rfl) ⟨rfl, rfl⟩ (by decide) (Nat.le_of_ble_eq_true rfl) (Nat.le_of_ble_eq_true rfl) ?_
  refine qr_putF (fs := [.ref 21, .null, .null, .null, .int 0]) (f' := va_up _ 20 (.inr (3, [.ref 21, .ref 22, .null, .null, .int 0]))) (pc := 17) d_pb_init_17 fl_pb_13 ⟨rfl, rfl⟩ (by decide) (by decide) rfl (by decide) (fun z ex => ⟨rfl, rfl⟩) rfl ?_
  refine qr_aload_n (pc := 20) d_pb_init_20 rfl rfl ?_
  refine qr_bipush (v := 10) (pc := 21) d_pb_init_21 (by decide) ?_
  refine qr_newa (t := 0) (len := 10) (ty9 := .int) (a := (10, .inl (fun _ => 0))) (pc := 23) d_pb_init_23 rfl rfl ac_int (by decide) (by decide) (by decide) (fun Cn h => nomatch h) (fun cA => rfl) (fun z ex => rfl) ⟨rfl, rfl⟩ (by decide) (Nat.le_of_ble_eq_true rfl) (Nat.le_of_ble_eq_true rfl) ?_
  refine qr_putF (fs := [.ref 21, .ref 22, .null, .null, .int 0]) (f' := va_up _ 20 (.inr (3, [.ref 21, .ref 22, .ref 23, .null, .int 0]))) (pc := 25) d_pb_init_25 fl_pb_17 ⟨rfl, rfl⟩ (by decide) (by decide) rfl (by decide) (fun z ex => ⟨rfl, rfl⟩) rfl ?_
  refine qr_aload_n (pc := 28) d_pb_init_28 rfl rfl ?_
  refine qr_bipush (v := 10) (pc := 29) d_pb_init_29 (by decide) ?_
  refine qr_newa (t := 0) (len := 10) (ty9 := .int) (a := (10, .inl (fun _ => 0))) (pc := 31) d_pb_init_31 rfl rfl ac_int (by decide) (by decide) (by decide) (fun Cn h => nomatch h) (fun cA => rfl) (fun z ex => rfl) ⟨rfl, rfl⟩ (by decide) (Nat.le_of_ble_eq_true rfl) (Nat.le_of_ble_eq_true rfl) ?_
  refine qr_putF (fs := [.ref 21, .ref 22, .ref 23, .null, .int 0]) (f' := va_up _ 20 (.inr (3, [.ref 21, .ref 22, .ref 23, .ref 24, .int 0]))) (pc := 33) d_pb_init_33 fl_pb_20 ⟨rfl, rfl⟩ (by decide) (by decide) rfl (by decide) (fun z ex => ⟨rfl, rfl⟩) rfl ?_
  refine qr_aload_n (pc := 36) d_pb_init_36 rfl rfl ?_
  refine qr_iconst (v := 0) (pc := 37) d_pb_init_37 (by decide) ?_
  refine qr_put (fs := [.ref 21, .ref 22, .ref 23, .ref 24, .int 0]) (f' := va_up _ 20 (.inr (3, [.ref 21, .ref 22, .ref 23, .ref 24, .int 0]))) (pc := 38) d_pb_init_38 fl_pb_23 (by decide) (by decide) rfl (by decide) (fun z ex => ⟨rfl, rfl⟩) rfl ?_
  exact qr_vret (pc := 41) d_pb_init_41 rfl ⟨rfl, rfl, rfl⟩ (Nat.le_of_ble_eq_true rfl) (Nat.le_of_ble_eq_true rfl)
set_option maxRecDepth 10000 in
theorem s_tr_init_1 (l : Launch) (f : Nat → va_E) (hf : f 1 = .inr (5, [.null, .null, .null, .int 0, .int 0, .int 0, .int 0])) : qSp l y_tr_init b_tr_init 1 none true 2 5 83 [.ref 1] 2 f (qD none 7 (va_up (va_up (va_up (va_up (va_up (va_up (va_up (va_up (va_up (va_up (va_up (va_up (va_up (va_up (va_up (va_up (va_up (va_up (va_up (va_up (va_up f 2 (.inl (2, 60, .inl (fun _ => 0)))) 1 (.inr (5, [.ref 2, .null, .null, .int 0, .int 0, .int 0, .int 0]))) 3 (.inl (3, 6, .inl (fun _ => 0)))) 1 (.inr (5, [.ref 2, .ref 3, .null, .int 0, .int 0, .int 0, .int 0]))) 4 (.inr (4, [.int 0, .int 0, .int 0, .int 0, .int 0, .int 0, .null, .null, .int 0]))) 4 (.inr (4, [.int 0, .int 0, .int 0, .int 0, .int 0, .int 0, .null, .null, .int 0]))) 4 (.inr (4, [.int 0, .int 0, .int 0, .int 0, .int 0, .int 0, .null, .null, .int 0]))) 4 (.inr (4, [.int 0, .int 0, .int 0, .int 0, .int 0, .int 0, .null, .null, .int 0]))) 4 (.inr (4, [.int 0, .int 0, .int 0, .int 0, .int 0, .int 0, .null, .null, .int 0]))) 4 (.inr (4, [.int 0, .int 0, .int 0, .int 0, .int 0, .int 0, .null, .null, .int 0]))) 4 (.inr (4, [.int 0, .int 0, .int 0, .int 0, .int 0, .int 0, .null, .null, .int 0]))) 5 (.inl (0, 4, .inl (fun _ => 0)))) 4 (.inr (4, [.int 0, .int 0, .int 0, .int 0, .int 0, .int 0, .ref 5, .null, .int 0]))) 6 (.inl (0, 4, .inl (fun _ => 0)))) 4 (.inr (4, [.int 0, .int 0, .int 0, .int 0, .int 0, .int 0, .ref 5, .ref 6, .int 0]))) 4 (.inr (4, [.int 0, .int 0, .int 0, .int 0, .int 0, .int 0, .ref 5, .ref 6, .int 0]))) 1 (.inr (5, [.ref 2, .ref 3, .ref 4, .int 0, .int 0, .int 0, .int 0]))) 1 (.inr (5, [.ref 2, .ref 3, .ref 4, .int 0, .int 0, .int 0, .int 0]))) 1 (.inr (5, [.ref 2, .ref 3, .ref 4, .int 0, .int 0, .int 0, .int 0]))) 1 (.inr (5, [.ref 2, .ref 3, .ref 4, .int 0, .int 0, .int 0, .int 0]))) 1 (.inr (5, [.ref 2, .ref 3, .ref 4, .int 0, .int 0, .int 0, .int (-2)])))) := by
  refine qSp_of (ini := true) (by decide +kernel) (fun _ => rfl) (Nat.le_of_ble_eq_true rfl) ?_
  refine qr_aload_n (pc := 0) d_tr_init_0 rfl rfl ?_
  refine qr_obj (pc := 1) d_tr_init_1 lk_tr_3 oi_im oi_co (Nat.le_of_ble_eq_true rfl) (Nat.le_of_ble_eq_true rfl) ?_
  refine qr_aload_n (pc := 4) d_tr_init_4 rfl rfl ?_
  refine qr_bipush (v := 60) (pc := 5) d_tr_init_5 (by decide) ?_
  refine qr_newa (t := 2) (len := 60) (ty9 := .char) (a := (60, .inl (fun _ => 0))) (pc := 7) d_tr_init_7 rfl rfl ac_char (by decide) (by decide) (by decide) (fun Cn h => nomatch h) (fun cA => rfl) (fun z ex => rfl) ⟨rfl, rfl⟩ (by decide) (Nat.le_of_ble_eq_true rfl) (Nat.le_of_ble_eq_true rfl) ?_
  refine qr_putF (fs := [.null, .null, .null, .int 0, .int 0, .int 0, .int 0]) (f' := va_up _ 1 (.inr (5, [.ref 2, .null, .null, .int 0, .int 0, .int 0, .int 0]))) (pc := 9) d_tr_init_9 fl_tr_11 ⟨rfl, rfl⟩ (by decide) (by decide) hf (by decide) (fun z ex => ⟨rfl, rfl⟩) rfl ?_
  refine qr_aload_n (pc := 12) d_tr_init_12 rfl rfl ?_
  refine qr_bipush (v := 6) (pc := 13) d_tr_init_13 (by decide) ?_
  refine qr_newa (t := 3) (len := 6) (ty9 := .boolean) (a := (6, .inl (fun _ => 0))) (pc := 15) d_tr_init_15 rfl rfl ac_boolean (by decide) (by decide) (by decide) (fun Cn h => nomatch h) (fun cA => rfl) (fun z ex => rfl) ⟨rfl, rfl⟩ (by decide) (Nat.le_of_ble_eq_true rfl) (Nat.le_of_ble_eq_true rfl) ?_
  refine qr_putF (fs := [.ref 2, .null, .null, .int 0, .int 0, .int 0, .int 0]) (f' := va_up _ 1 (.inr (5, [.ref 2, .ref 3, .null, .int 0, .int 0, .int 0, .int 0]))) (pc := 17) d_tr_init_17 fl_tr_15 ⟨rfl, rfl⟩ (by decide) (by decide) rfl (by decide) (fun z ex => ⟨rfl, rfl⟩) rfl ?_
  refine qr_aload_n (pc := 20) d_tr_init_20 rfl rfl ?_
  refine qr_new (ci := 4) (ty9 := t_tf) (fs := [.int 0, .int 0, .int 0, .int 0, .int 0, .int 0, .null, .null, .int 0]) (pc := 21) d_tr_init_21 rfl i_tf t_tf_ok cl_tr_19 in_tf ii_tf (dv_tf) (nr_tf) ⟨rfl, rfl⟩ (by decide) (Nat.le_of_ble_eq_true rfl) (Nat.le_of_ble_eq_true rfl) ?_
  refine qr_dup (pc := 24) d_tr_init_24 rfl ?_
  refine qr_callIN (q := 4) (As := []) (pc := 25) d_tr_init_25 ln_tr_21 im_tf_init rfl (s_tf_init_4 _ _ rfl) rfl rfl (Nat.le_of_ble_eq_true rfl) (Nat.le_of_ble_eq_true rfl) (Nat.le_of_ble_eq_true rfl) (Nat.le_of_ble_eq_true rfl) (Nat.le_of_ble_eq_true rfl) (fun _ => ⟨rfl, rfl, Or.inr (Nat.le_of_ble_eq_true rfl)⟩) (fun v n9 f9 hE => ?_)
  obtain ⟨rfl, rfl, rfl⟩ := hE
  refine qr_putF (fs := [.ref 2, .ref 3, .null, .int 0, .int 0, .int 0, .int 0]) (f' := va_up _ 1 (.inr (5, [.ref 2, .ref 3, .ref 4, .int 0, .int 0, .int 0, .int 0]))) (pc := 28) d_tr_init_28 fl_tr_22 ⟨rfl, rfl⟩ (by decide) (by decide) rfl (by decide) (fun z ex => ⟨rfl, rfl⟩) rfl ?_
  refine qr_aload_n (pc := 31) d_tr_init_31 rfl rfl ?_
  refine qr_iconst (v := 0) (pc := 32) d_tr_init_32 (by decide) ?_
  refine qr_put (fs := [.ref 2, .ref 3, .ref 4, .int 0, .int 0, .int 0, .int 0]) (f' := va_up _ 1 (.inr (5, [.ref 2, .ref 3, .ref 4, .int 0, .int 0, .int 0, .int 0]))) (pc := 33) d_tr_init_33 fl_tr_26 (by decide) (by decide) rfl (by decide) (fun z ex => ⟨rfl, rfl⟩) rfl ?_
  refine qr_aload_n (pc := 36) d_tr_init_36 rfl rfl ?_
  refine qr_iconst (v := 0) (pc := 37) d_tr_init_37 (by decide) ?_
  refine qr_put (fs := [.ref 2, .ref 3, .ref 4, .int 0, .int 0, .int 0, .int 0]) (f' := va_up _ 1 (.inr (5, [.ref 2, .ref 3, .ref 4, .int 0, .int 0, .int 0, .int 0]))) (pc := 38) d_tr_init_38 fl_tr_30 (by decide) (by decide) rfl (by decide) (fun z ex => ⟨rfl, rfl⟩) rfl ?_
  refine qr_aload_n (pc := 41) d_tr_init_41 rfl rfl ?_
  refine qr_iconst (v := 0) (pc := 42) d_tr_init_42 (by decide) ?_
  refine qr_put (fs := [.ref 2, .ref 3, .ref 4, .int 0, .int 0, .int 0, .int 0]) (f' := va_up _ 1 (.inr (5, [.ref 2, .ref 3, .ref 4, .int 0, .int 0, .int 0, .int 0]))) (pc := 43) d_tr_init_43 fl_tr_33 (by decide) (by decide) rfl (by decide) (fun z ex => ⟨rfl, rfl⟩) rfl ?_
  refine qr_aload_n (pc := 46) d_tr_init_46 rfl rfl ?_
  refine qr_bipush (v := (-2)) (pc := 47) d_tr_init_47 (by decide) ?_
  refine qr_put (fs := [.ref 2, .ref 3, .ref 4, .int 0, .int 0, .int 0, .int 0]) (f' := va_up _ 1 (.inr (5, [.ref 2, .ref 3, .ref 4, .int 0, .int 0, .int 0, .int (-2)]))) (pc := 49) d_tr_init_49 fl_tr_36 (by decide) (by decide) rfl (by decide) (fun z ex => ⟨rfl, rfl⟩) rfl ?_
  exact qr_vret (pc := 52) d_tr_init_52 rfl ⟨rfl, rfl, rfl⟩ (Nat.le_of_ble_eq_true rfl) (Nat.le_of_ble_eq_true rfl)
