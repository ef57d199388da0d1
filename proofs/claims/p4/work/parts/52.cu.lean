/-! the class's and the reference's constructors; the fresh state -/
/-- what the ints, the longs of the fresh cells are -/
def I0 : Nat → Nat → Int32 := fun k j => if k = 1 ∧ j = 6 then (-2) else if k = 25 then (upd (upd (upd (upd (upd (upd (upd (upd (upd (upd (upd (upd (upd (upd (upd (fun _ => 0) 0 (u_md (2000 + 0 / 12) 0)) 1 (u_md (2000 + 1 / 12) 1)) 2 (u_md (2000 + 2 / 12) 2)) 3 (u_md (2000 + 3 / 12) 3)) 4 (u_md (2000 + 4 / 12) 4)) 5 (u_md (2000 + 5 / 12) 5)) 6 (u_md (2000 + 6 / 12) 6)) 7 (u_md (2000 + 7 / 12) 7)) 8 (u_md (2000 + 8 / 12) 8)) 9 (u_md (2000 + 9 / 12) 9)) 10 (u_md (2000 + 10 / 12) 10)) 11 (u_md (2000 + 11 / 12) 11)) 12 (u_md (2000 + 12 / 12) 0)) 13 (u_md (2000 + 13 / 12) 1)) 14 (u_md (2000 + 14 / 12) 2)) j else if k = 37 ∧ j = 1 then (-1) else if k = 39 ∧ j = 1 then (-1) else if k = 41 ∧ j = 1 then (-1) else if k = 43 ∧ j = 1 then (-1) else if k = 45 ∧ j = 1 then (-1) else if k = 47 ∧ j = 1 then (-2) else if k = 58 then (upd (upd (upd (upd (upd (fun _ => 0) 0 (-1)) 1 (-1)) 2 (-1)) 3 (-1)) 4 (-1)) j else 0
theorem rw_7 : (va_up (va_up (va_up (fun _ => none) 0 (some 28)) 1 (some 31)) 2 (some 34) : Nat → Option Nat) = fun j => if j < 3 then some (28 + 3 * j) else none := by
  funext j
  match j with
  | 0 => rfl
  | 1 => rfl
  | 2 => rfl
  | j + 3 => simp [va_up]
theorem rw_8 : (va_up (va_up (va_up (va_up (va_up (fun _ => none) 0 (some 37)) 1 (some 39)) 2 (some 41)) 3 (some 43)) 4 (some 45) : Nat → Option Nat) = fun j => if j < 5 then some (37 + 2 * j) else none := by
  funext j
  match j with
  | 0 => rfl
  | 1 => rfl
  | 2 => rfl
  | 3 => rfl
  | 4 => rfl
  | j + 5 => simp [va_up]
def L0 : Nat → Nat → Int64 := fun _ _ => 0
set_option maxRecDepth 100000 in
set_option maxHeartbeats 4000000 in
theorem s_bf_init (l : Launch) (f : Nat → va_E) (hf : f 0 = .inr (6, [.null, .null, .null, .null, .null, .null, .null, .null, .null, .int 0, .long 0])) : qSp l y_bf_init b_bf_init 2 none true 4 46 2826 [.ref 0] 1 f (fun v n' f' => none = v ∧ 47 = n' ∧ ∀ k, 0 ≤ k → k < 47 → f' k = fm I0 L0 k) := by
  refine qSp_of (ini := true) (by decide +kernel) (fun _ => rfl) (Nat.le_of_ble_eq_true rfl) ?_
  refine qr_aload_n (pc := 0) d_bf_init_0 rfl rfl ?_
  refine qr_obj (pc := 1) d_bf_init_1 lk_bf_1 oi_im oi_co (Nat.le_of_ble_eq_true rfl) (Nat.le_of_ble_eq_true rfl) ?_
  refine qr_aload_n (pc := 4) d_bf_init_4 rfl rfl ?_
  refine qr_new (ci := 5) (ty9 := t_tr) (fs := [.null, .null, .null, .int 0, .int 0, .int 0, .int 0]) (pc := 5) d_bf_init_5 rfl i_tr t_tr_ok cl_bf_7 in_tr ii_tr (dv_tr) (nr_tr) ⟨rfl, rfl⟩ (by decide) (Nat.le_of_ble_eq_true rfl) (Nat.le_of_ble_eq_true rfl) ?_
  refine qr_dup (pc := 8) d_bf_init_8 rfl ?_
  refine qr_callIN (q := 1) (As := []) (pc := 9) d_bf_init_9 ln_bf_9 im_tr_init rfl (s_tr_init_1 _ _ rfl) rfl rfl (Nat.le_of_ble_eq_true rfl) (Nat.le_of_ble_eq_true rfl) (Nat.le_of_ble_eq_true rfl) (Nat.le_of_ble_eq_true rfl) (Nat.le_of_ble_eq_true rfl) (fun _ => ⟨rfl, rfl, Or.inr (Nat.le_of_ble_eq_true rfl)⟩) (fun v n9 f9 hE => ?_)
  obtain ⟨rfl, rfl, rfl⟩ := hE
  refine qr_putF (fs := [.null, .null, .null, .null, .null, .null, .null, .null, .null, .int 0, .long 0]) (f' := va_up _ 0 (.inr (6, [.ref 1, .null, .null, .null, .null, .null, .null, .null, .null, .int 0, .long 0]))) (pc := 12) d_bf_init_12 fl_bf_10 ⟨rfl, rfl⟩ (by decide) (by decide) hf (by decide) (fun z ex => ⟨rfl, rfl⟩) rfl ?_
  refine qr_aload_n (pc := 15) d_bf_init_15 rfl rfl ?_
  refine qr_iconst (v := 3) (pc := 16) d_bf_init_16 (by decide) ?_
  refine qr_anew (t := 5) (len := 3) (pc := 17) d_bf_init_17 rfl cl_bf_16 (List.mem_of_getElem? (i := 0) rfl) (by decide) (by decide) (by decide) ⟨rfl, rfl⟩ (by decide) (Nat.le_of_ble_eq_true rfl) (Nat.le_of_ble_eq_true rfl) ?_
  refine qr_putF (fs := [.ref 1, .null, .null, .null, .null, .null, .null, .null, .null, .int 0, .long 0]) (f' := va_up _ 0 (.inr (6, [.ref 1, .ref 7, .null, .null, .null, .null, .null, .null, .null, .int 0, .long 0]))) (pc := 20) d_bf_init_20 fl_bf_18 ⟨rfl, rfl⟩ (by decide) (by decide) rfl (by decide) (fun z ex => ⟨rfl, rfl⟩) rfl ?_
  refine qr_aload_n (pc := 23) d_bf_init_23 rfl rfl ?_
  refine qr_iconst (v := 5) (pc := 24) d_bf_init_24 (by decide) ?_
  refine qr_anew (t := 6) (len := 5) (pc := 25) d_bf_init_25 rfl cl_bf_22 (List.mem_of_getElem? (i := 1) rfl) (by decide) (by decide) (by decide) ⟨rfl, rfl⟩ (by decide) (Nat.le_of_ble_eq_true rfl) (Nat.le_of_ble_eq_true rfl) ?_
  refine qr_putF (fs := [.ref 1, .ref 7, .null, .null, .null, .null, .null, .null, .null, .int 0, .long 0]) (f' := va_up _ 0 (.inr (6, [.ref 1, .ref 7, .ref 8, .null, .null, .null, .null, .null, .null, .int 0, .long 0]))) (pc := 28) d_bf_init_28 fl_bf_24 ⟨rfl, rfl⟩ (by decide) (by decide) rfl (by decide) (fun z ex => ⟨rfl, rfl⟩) rfl ?_
  refine qr_aload_n (pc := 31) d_bf_init_31 rfl rfl ?_
  refine qr_new (ci := 1) (ty9 := t_ev) (fs := [.null, .null, .null, .null, .int 0]) (pc := 32) d_bf_init_32 rfl i_ev t_ev_ok cl_bf_28 in_ev ii_ev (dv_ev) (nr_ev) ⟨rfl, rfl⟩ (by decide) (Nat.le_of_ble_eq_true rfl) (Nat.le_of_ble_eq_true rfl) ?_
  refine qr_dup (pc := 35) d_bf_init_35 rfl ?_
  refine qr_callIN (q := 9) (As := []) (pc := 36) d_bf_init_36 ln_bf_30 im_ev_init rfl (s_ev_init_9 _ _ rfl) rfl rfl (Nat.le_of_ble_eq_true rfl) (Nat.le_of_ble_eq_true rfl) (Nat.le_of_ble_eq_true rfl) (Nat.le_of_ble_eq_true rfl) (Nat.le_of_ble_eq_true rfl) (fun _ => ⟨rfl, rfl, Or.inr (Nat.le_of_ble_eq_true rfl)⟩) (fun v n9 f9 hE => ?_)
  obtain ⟨rfl, rfl, rfl⟩ := hE
  refine qr_putF (fs := [.ref 1, .ref 7, .ref 8, .null, .null, .null, .null, .null, .null, .int 0, .long 0]) (f' := va_up _ 0 (.inr (6, [.ref 1, .ref 7, .ref 8, .ref 9, .null, .null, .null, .null, .null, .int 0, .long 0]))) (pc := 39) d_bf_init_39 fl_bf_31 ⟨rfl, rfl⟩ (by decide) (by decide) rfl (by decide) (fun z ex => ⟨rfl, rfl⟩) rfl ?_
  refine qr_aload_n (pc := 42) d_bf_init_42 rfl rfl ?_
  refine qr_new (ci := 2) (ty9 := t_ib) (fs := [.null, .null, .null, .null, .null, .int 0]) (pc := 43) d_bf_init_43 rfl i_ib t_ib_ok cl_bf_35 in_ib ii_ib (dv_ib) (nr_ib) ⟨rfl, rfl⟩ (by decide) (Nat.le_of_ble_eq_true rfl) (Nat.le_of_ble_eq_true rfl) ?_
  refine qr_dup (pc := 46) d_bf_init_46 rfl ?_
  refine qr_callIN (q := 14) (As := []) (pc := 47) d_bf_init_47 ln_bf_37 im_ib_init rfl (s_ib_init_14 _ _ rfl) rfl rfl (Nat.le_of_ble_eq_true rfl) (Nat.le_of_ble_eq_true rfl) (Nat.le_of_ble_eq_true rfl) (Nat.le_of_ble_eq_true rfl) (Nat.le_of_ble_eq_true rfl) (fun _ => ⟨rfl, rfl, Or.inr (Nat.le_of_ble_eq_true rfl)⟩) (fun v n9 f9 hE => ?_)
  obtain ⟨rfl, rfl, rfl⟩ := hE
  refine qr_putF (fs := [.ref 1, .ref 7, .ref 8, .ref 9, .null, .null, .null, .null, .null, .int 0, .long 0]) (f' := va_up _ 0 (.inr (6, [.ref 1, .ref 7, .ref 8, .ref 9, .ref 14, .null, .null, .null, .null, .int 0, .long 0]))) (pc := 50) d_bf_init_50 fl_bf_38 ⟨rfl, rfl⟩ (by decide) (by decide) rfl (by decide) (fun z ex => ⟨rfl, rfl⟩) rfl ?_
  refine qr_aload_n (pc := 53) d_bf_init_53 rfl rfl ?_
  refine qr_new (ci := 3) (ty9 := t_pb) (fs := [.null, .null, .null, .null, .int 0]) (pc := 54) d_bf_init_54 rfl i_pb t_pb_ok cl_bf_42 in_pb ii_pb (dv_pb) (nr_pb) ⟨rfl, rfl⟩ (by decide) (Nat.le_of_ble_eq_true rfl) (Nat.le_of_ble_eq_true rfl) ?_
  refine qr_dup (pc := 57) d_bf_init_57 rfl ?_
  refine qr_callIN (q := 20) (As := []) (pc := 58) d_bf_init_58 ln_bf_44 im_pb_init rfl (s_pb_init_20 _ _ rfl) rfl rfl (Nat.le_of_ble_eq_true rfl) (Nat.le_of_ble_eq_true rfl) (Nat.le_of_ble_eq_true rfl) (Nat.le_of_ble_eq_true rfl) (Nat.le_of_ble_eq_true rfl) (fun _ => ⟨rfl, rfl, Or.inr (Nat.le_of_ble_eq_true rfl)⟩) (fun v n9 f9 hE => ?_)
  obtain ⟨rfl, rfl, rfl⟩ := hE
  refine qr_putF (fs := [.ref 1, .ref 7, .ref 8, .ref 9, .ref 14, .null, .null, .null, .null, .int 0, .long 0]) (f' := va_up _ 0 (.inr (6, [.ref 1, .ref 7, .ref 8, .ref 9, .ref 14, .ref 20, .null, .null, .null, .int 0, .long 0]))) (pc := 61) d_bf_init_61 fl_bf_45 ⟨rfl, rfl⟩ (by decide) (by decide) rfl (by decide) (fun z ex => ⟨rfl, rfl⟩) rfl ?_
  refine qr_aload_n (pc := 64) d_bf_init_64 rfl rfl ?_
  refine qr_bipush (v := 15) (pc := 65) d_bf_init_65 (by decide) ?_
  refine qr_newa (t := 0) (len := 15) (ty9 := .int) (a := (15, .inl (fun _ => 0))) (pc := 67) d_bf_init_67 rfl rfl ac_int (by decide) (by decide) (by decide) (fun Cn h => nomatch h) (fun cA => rfl) (fun z ex => rfl) ⟨rfl, rfl⟩ (by decide) (Nat.le_of_ble_eq_true rfl) (Nat.le_of_ble_eq_true rfl) ?_
  refine qr_putF (fs := [.ref 1, .ref 7, .ref 8, .ref 9, .ref 14, .ref 20, .null, .null, .null, .int 0, .long 0]) (f' := va_up _ 0 (.inr (6, [.ref 1, .ref 7, .ref 8, .ref 9, .ref 14, .ref 20, .ref 25, .null, .null, .int 0, .long 0]))) (pc := 69) d_bf_init_69 fl_bf_49 ⟨rfl, rfl⟩ (by decide) (by decide) rfl (by decide) (fun z ex => ⟨rfl, rfl⟩) rfl ?_
  refine qr_aload_n (pc := 72) d_bf_init_72 rfl rfl ?_
  refine qr_iconst (v := 3) (pc := 73) d_bf_init_73 (by decide) ?_
  refine qr_newa (t := 0) (len := 3) (ty9 := .int) (a := (3, .inl (fun _ => 0))) (pc := 74) d_bf_init_74 rfl rfl ac_int (by decide) (by decide) (by decide) (fun Cn h => nomatch h) (fun cA => rfl) (fun z ex => rfl) ⟨rfl, rfl⟩ (by decide) (Nat.le_of_ble_eq_true rfl) (Nat.le_of_ble_eq_true rfl) ?_
  refine qr_putF (fs := [.ref 1, .ref 7, .ref 8, .ref 9, .ref 14, .ref 20, .ref 25, .null, .null, .int 0, .long 0]) (f' := va_up _ 0 (.inr (6, [.ref 1, .ref 7, .ref 8, .ref 9, .ref 14, .ref 20, .ref 25, .ref 26, .null, .int 0, .long 0]))) (pc := 76) d_bf_init_76 fl_bf_53 ⟨rfl, rfl⟩ (by decide) (by decide) rfl (by decide) (fun z ex => ⟨rfl, rfl⟩) rfl ?_
  refine qr_aload_n (pc := 79) d_bf_init_79 rfl rfl ?_
  refine qr_iconst (v := 3) (pc := 80) d_bf_init_80 (by decide) ?_
  refine qr_newa (t := 1) (len := 3) (ty9 := .long) (a := (3, .inr (.inl (fun _ => 0)))) (pc := 81) d_bf_init_81 rfl rfl ac_long (by decide) (by decide) (by decide) (fun Cn h => nomatch h) (fun cA => rfl) (fun z ex => rfl) ⟨rfl, rfl⟩ (by decide) (Nat.le_of_ble_eq_true rfl) (Nat.le_of_ble_eq_true rfl) ?_
  refine qr_putF (fs := [.ref 1, .ref 7, .ref 8, .ref 9, .ref 14, .ref 20, .ref 25, .ref 26, .null, .int 0, .long 0]) (f' := va_up _ 0 (.inr (6, [.ref 1, .ref 7, .ref 8, .ref 9, .ref 14, .ref 20, .ref 25, .ref 26, .ref 27, .int 0, .long 0]))) (pc := 83) d_bf_init_83 fl_bf_56 ⟨rfl, rfl⟩ (by decide) (by decide) rfl (by decide) (fun z ex => ⟨rfl, rfl⟩) rfl ?_
  refine qr_aload_n (pc := 86) d_bf_init_86 rfl rfl ?_
  refine qr_iconst (v := 0) (pc := 87) d_bf_init_87 (by decide) ?_
  refine qr_put (fs := [.ref 1, .ref 7, .ref 8, .ref 9, .ref 14, .ref 20, .ref 25, .ref 26, .ref 27, .int 0, .long 0]) (f' := va_up _ 0 (.inr (6, [.ref 1, .ref 7, .ref 8, .ref 9, .ref 14, .ref 20, .ref 25, .ref 26, .ref 27, .int 0, .long 0]))) (pc := 88) d_bf_init_88 fl_bf_60 (by decide) (by decide) rfl (by decide) (fun z ex => ⟨rfl, rfl⟩) rfl ?_
  refine qr_aload_n (pc := 91) d_bf_init_91 rfl rfl ?_
  refine qr_lconst (v := 0) (pc := 92) d_bf_init_92 (by decide) ?_
  refine qr_put (fs := [.ref 1, .ref 7, .ref 8, .ref 9, .ref 14, .ref 20, .ref 25, .ref 26, .ref 27, .int 0, .long 0]) (f' := va_up _ 0 (.inr (6, [.ref 1, .ref 7, .ref 8, .ref 9, .ref 14, .ref 20, .ref 25, .ref 26, .ref 27, .int 0, .long 0]))) (pc := 93) d_bf_init_93 fl_bf_64 (by decide) (by decide) rfl (by decide) (fun z ex => ⟨rfl, rfl⟩) rfl ?_
  refine qr_iconst (v := 0) (pc := 96) d_bf_init_96 (by decide) ?_
  refine qr_istore_n (lv' := [(1, .int 0), (0, .ref 0)]) (pc := 97) d_bf_init_97 rfl (Nat.le_of_ble_eq_true rfl) rfl ?_
  refine qr_iload_n (pc := 98) d_bf_init_98 rfl rfl ?_
  refine qr_iconst (v := 3) (pc := 99) d_bf_init_99 (by decide) ?_
  refine qr_icmp_ge (tgt := 122) (pc := 100) d_bf_init_100 (by decide) (fun h => absurd h (by decide)) (fun _ => ?_)
  refine qr_aload_n (pc := 103) d_bf_init_103 rfl rfl ?_
  refine qr_get (v := .ref 7) (fs := [.ref 1, .ref 7, .ref 8, .ref 9, .ref 14, .ref 20, .ref 25, .ref 26, .ref 27, .int 0, .long 0]) (pc := 104) d_bf_init_104 fl_bf_18 (by decide) (by decide) rfl rfl ?_
  refine qr_iload_n (pc := 107) d_bf_init_107 rfl rfl ?_
  refine qr_new (ci := 4) (ty9 := t_tf) (fs := [.int 0, .int 0, .int 0, .int 0, .int 0, .int 0, .null, .null, .int 0]) (pc := 108) d_bf_init_108 rfl i_tf t_tf_ok cl_bf_16 in_tf ii_tf (dv_tf) (nr_tf) ⟨rfl, rfl⟩ (by decide) (Nat.le_of_ble_eq_true rfl) (Nat.le_of_ble_eq_true rfl) ?_
  refine qr_dup (pc := 111) d_bf_init_111 rfl ?_
  refine qr_callIN (q := 28) (As := []) (pc := 112) d_bf_init_112 ln_bf_68 im_tf_init rfl (s_tf_init_28 _ _ rfl) rfl rfl (Nat.le_of_ble_eq_true rfl) (Nat.le_of_ble_eq_true rfl) (Nat.le_of_ble_eq_true rfl) (Nat.le_of_ble_eq_true rfl) (Nat.le_of_ble_eq_true rfl) (fun _ => ⟨rfl, rfl, Or.inr (Nat.le_of_ble_eq_true rfl)⟩) (fun v n9 f9 hE => ?_)
  obtain ⟨rfl, rfl, rfl⟩ := hE
  refine qr_aast (g := (fun _ => none)) (f' := va_up _ 7 (.inl (5, 3, .inr (.inr (.inr (.inr (va_up (fun _ => none) 0 (some 28)))))))) (pc := 115) d_bf_init_115 (by decide) (by decide) rfl rfl (by decide) (by decide) rfl rfl (by unfold vp_in; decide) rfl ?_
  refine qr_iinc (v := 1) (lv' := [(1, .int 1), (0, .ref 0)]) (pc := 116) d_bf_init_116 rfl (by decide) (Nat.le_of_ble_eq_true rfl) rfl ?_
  refine qr_goto (tgt := 98) (pc := 119) d_bf_init_119 (by decide) ?_
  refine qr_iload_n (pc := 98) d_bf_init_98 rfl rfl ?_
  refine qr_iconst (v := 3) (pc := 99) d_bf_init_99 (by decide) ?_
  refine qr_icmp_ge (tgt := 122) (pc := 100) d_bf_init_100 (by decide) (fun h => absurd h (by decide)) (fun _ => ?_)
  refine qr_aload_n (pc := 103) d_bf_init_103 rfl rfl ?_
  refine qr_get (v := .ref 7) (fs := [.ref 1, .ref 7, .ref 8, .ref 9, .ref 14, .ref 20, .ref 25, .ref 26, .ref 27, .int 0, .long 0]) (pc := 104) d_bf_init_104 fl_bf_18 (by decide) (by decide) rfl rfl ?_
  refine qr_iload_n (pc := 107) d_bf_init_107 rfl rfl ?_
  refine qr_new (ci := 4) (ty9 := t_tf) (fs := [.int 0, .int 0, .int 0, .int 0, .int 0, .int 0, .null, .null, .int 0]) (pc := 108) d_bf_init_108 rfl i_tf t_tf_ok cl_bf_16 in_tf ii_tf (dv_tf) (nr_tf) ⟨rfl, rfl⟩ (by decide) (Nat.le_of_ble_eq_true rfl) (Nat.le_of_ble_eq_true rfl) ?_
  refine qr_dup (pc := 111) d_bf_init_111 rfl ?_
  refine qr_callIN (q := 31) (As := []) (pc := 112) d_bf_init_112 ln_bf_68 im_tf_init rfl (s_tf_init_31 _ _ rfl) rfl rfl (Nat.le_of_ble_eq_true rfl) (Nat.le_of_ble_eq_true rfl) (Nat.le_of_ble_eq_true rfl) (Nat.le_of_ble_eq_true rfl) (Nat.le_of_ble_eq_true rfl) (fun _ => ⟨rfl, rfl, Or.inr (Nat.le_of_ble_eq_true rfl)⟩) (fun v n9 f9 hE => ?_)
  obtain ⟨rfl, rfl, rfl⟩ := hE
  refine qr_aast (g := va_up (fun _ => none) 0 (some 28)) (f' := va_up _ 7 (.inl (5, 3, .inr (.inr (.inr (.inr (va_up (va_up (fun _ => none) 0 (some 28)) 1 (some 31)))))))) (pc := 115) d_bf_init_115 (by decide) (by decide) rfl rfl (by decide) (by decide) rfl rfl (by unfold vp_in; decide) rfl ?_
  refine qr_iinc (v := 2) (lv' := [(1, .int 2), (0, .ref 0)]) (pc := 116) d_bf_init_116 rfl (by decide) (Nat.le_of_ble_eq_true rfl) rfl ?_
  refine qr_goto (tgt := 98) (pc := 119) d_bf_init_119 (by decide) ?_
  refine qr_iload_n (pc := 98) d_bf_init_98 rfl rfl ?_
  refine qr_iconst (v := 3) (pc := 99) d_bf_init_99 (by decide) ?_
  refine qr_icmp_ge (tgt := 122) (pc := 100) d_bf_init_100 (by decide) (fun h => absurd h (by decide)) (fun _ => ?_)
  refine qr_aload_n (pc := 103) d_bf_init_103 rfl rfl ?_
  refine qr_get (v := .ref 7) (fs := [.ref 1, .ref 7, .ref 8, .ref 9, .ref 14, .ref 20, .ref 25, .ref 26, .ref 27, .int 0, .long 0]) (pc := 104) d_bf_init_104 fl_bf_18 (by decide) (by decide) rfl rfl ?_
  refine qr_iload_n (pc := 107) d_bf_init_107 rfl rfl ?_
  refine qr_new (ci := 4) (ty9 := t_tf) (fs := [.int 0, .int 0, .int 0, .int 0, .int 0, .int 0, .null, .null, .int 0]) (pc := 108) d_bf_init_108 rfl i_tf t_tf_ok cl_bf_16 in_tf ii_tf (dv_tf) (nr_tf) ⟨rfl, rfl⟩ (by decide) (Nat.le_of_ble_eq_true rfl) (Nat.le_of_ble_eq_true rfl) ?_
  refine qr_dup (pc := 111) d_bf_init_111 rfl ?_
  refine qr_callIN (q := 34) (As := []) (pc := 112) d_bf_init_112 ln_bf_68 im_tf_init rfl (s_tf_init_34 _ _ rfl) rfl rfl (Nat.le_of_ble_eq_true rfl) (Nat.le_of_ble_eq_true rfl) (Nat.le_of_ble_eq_true rfl) (Nat.le_of_ble_eq_true rfl) (Nat.le_of_ble_eq_true rfl) (fun _ => ⟨rfl, rfl, Or.inr (Nat.le_of_ble_eq_true rfl)⟩) (fun v n9 f9 hE => ?_)
  obtain ⟨rfl, rfl, rfl⟩ := hE
  refine qr_aast (g := va_up (va_up (fun _ => none) 0 (some 28)) 1 (some 31)) (f' := va_up _ 7 (.inl (5, 3, .inr (.inr (.inr (.inr (va_up (va_up (va_up (fun _ => none) 0 (some 28)) 1 (some 31)) 2 (some 34)))))))) (pc := 115) d_bf_init_115 (by decide) (by decide) rfl rfl (by decide) (by decide) rfl rfl (by unfold vp_in; decide) rfl ?_
  refine qr_iinc (v := 3) (lv' := [(1, .int 3), (0, .ref 0)]) (pc := 116) d_bf_init_116 rfl (by decide) (Nat.le_of_ble_eq_true rfl) rfl ?_
  refine qr_goto (tgt := 98) (pc := 119) d_bf_init_119 (by decide) ?_
  refine qr_iload_n (pc := 98) d_bf_init_98 rfl rfl ?_
  refine qr_iconst (v := 3) (pc := 99) d_bf_init_99 (by decide) ?_
  refine qr_icmp_ge (tgt := 122) (pc := 100) d_bf_init_100 (by decide) (fun _ => ?_) (fun h => absurd h (by decide))
  refine qr_iconst (v := 0) (pc := 122) d_bf_init_122 (by decide) ?_
  refine qr_istore_n (lv' := [(1, .int 0), (0, .ref 0)]) (pc := 123) d_bf_init_123 rfl (Nat.le_of_ble_eq_true rfl) rfl ?_
  refine qr_iload_n (pc := 124) d_bf_init_124 rfl rfl ?_
  refine qr_iconst (v := 5) (pc := 125) d_bf_init_125 (by decide) ?_
  refine qr_icmp_ge (tgt := 148) (pc := 126) d_bf_init_126 (by decide) (fun h => absurd h (by decide)) (fun _ => ?_)
  refine qr_aload_n (pc := 129) d_bf_init_129 rfl rfl ?_
  refine qr_get (v := .ref 8) (fs := [.ref 1, .ref 7, .ref 8, .ref 9, .ref 14, .ref 20, .ref 25, .ref 26, .ref 27, .int 0, .long 0]) (pc := 130) d_bf_init_130 fl_bf_24 (by decide) (by decide) rfl rfl ?_
  refine qr_iload_n (pc := 133) d_bf_init_133 rfl rfl ?_
  refine qr_new (ci := 0) (ty9 := t_cu) (fs := [.null, .int 0, .int 0, .int 0, .long 0]) (pc := 134) d_bf_init_134 rfl i_cu t_cu_ok cl_bf_22 in_cu ii_cu (dv_cu) (nr_cu) ⟨rfl, rfl⟩ (by decide) (Nat.le_of_ble_eq_true rfl) (Nat.le_of_ble_eq_true rfl) ?_
  refine qr_dup (pc := 137) d_bf_init_137 rfl ?_
  refine qr_callIN (q := 37) (As := []) (pc := 138) d_bf_init_138 ln_bf_69 im_cu_init rfl (s_cu_init_37 _ _ rfl) rfl rfl (Nat.le_of_ble_eq_true rfl) (Nat.le_of_ble_eq_true rfl) (Nat.le_of_ble_eq_true rfl) (Nat.le_of_ble_eq_true rfl) (Nat.le_of_ble_eq_true rfl) (fun _ => ⟨rfl, rfl, Or.inr (Nat.le_of_ble_eq_true rfl)⟩) (fun v n9 f9 hE => ?_)
  obtain ⟨rfl, rfl, rfl⟩ := hE
  refine qr_aast (g := (fun _ => none)) (f' := va_up _ 8 (.inl (6, 5, .inr (.inr (.inr (.inr (va_up (fun _ => none) 0 (some 37)))))))) (pc := 141) d_bf_init_141 (by decide) (by decide) rfl rfl (by decide) (by decide) rfl rfl (by unfold vp_in; decide) rfl ?_
  refine qr_iinc (v := 1) (lv' := [(1, .int 1), (0, .ref 0)]) (pc := 142) d_bf_init_142 rfl (by decide) (Nat.le_of_ble_eq_true rfl) rfl ?_
  refine qr_goto (tgt := 124) (pc := 145) d_bf_init_145 (by decide) ?_
  refine qr_iload_n (pc := 124) d_bf_init_124 rfl rfl ?_
  refine qr_iconst (v := 5) (pc := 125) d_bf_init_125 (by decide) ?_
  refine qr_icmp_ge (tgt := 148) (pc := 126) d_bf_init_126 (by decide) (fun h => absurd h (by decide)) (fun _ => ?_)
  refine qr_aload_n (pc := 129) d_bf_init_129 rfl rfl ?_
  refine qr_get (v := .ref 8) (fs := [.ref 1, .ref 7, .ref 8, .ref 9, .ref 14, .ref 20, .ref 25, .ref 26, .ref 27, .int 0, .long 0]) (pc := 130) d_bf_init_130 fl_bf_24 (by decide) (by decide) rfl rfl ?_
  refine qr_iload_n (pc := 133) d_bf_init_133 rfl rfl ?_
  refine qr_new (ci := 0) (ty9 := t_cu) (fs := [.null, .int 0, .int 0, .int 0, .long 0]) (pc := 134) d_bf_init_134 rfl i_cu t_cu_ok cl_bf_22 in_cu ii_cu (dv_cu) (nr_cu) ⟨rfl, rfl⟩ (by decide) (Nat.le_of_ble_eq_true rfl) (Nat.le_of_ble_eq_true rfl) ?_
  refine qr_dup (pc := 137) d_bf_init_137 rfl ?_
  refine qr_callIN (q := 39) (As := []) (pc := 138) d_bf_init_138 ln_bf_69 im_cu_init rfl (s_cu_init_39 _ _ rfl) rfl rfl (Nat.le_of_ble_eq_true rfl) (Nat.le_of_ble_eq_true rfl) (Nat.le_of_ble_eq_true rfl) (Nat.le_of_ble_eq_true rfl) (Nat.le_of_ble_eq_true rfl) (fun _ => ⟨rfl, rfl, Or.inr (Nat.le_of_ble_eq_true rfl)⟩) (fun v n9 f9 hE => ?_)
  obtain ⟨rfl, rfl, rfl⟩ := hE
  refine qr_aast (g := va_up (fun _ => none) 0 (some 37)) (f' := va_up _ 8 (.inl (6, 5, .inr (.inr (.inr (.inr (va_up (va_up (fun _ => none) 0 (some 37)) 1 (some 39)))))))) (pc := 141) d_bf_init_141 (by decide) (by decide) rfl rfl (by decide) (by decide) rfl rfl (by unfold vp_in; decide) rfl ?_
  refine qr_iinc (v := 2) (lv' := [(1, .int 2), (0, .ref 0)]) (pc := 142) d_bf_init_142 rfl (by decide) (Nat.le_of_ble_eq_true rfl) rfl ?_
  refine qr_goto (tgt := 124) (pc := 145) d_bf_init_145 (by decide) ?_
  refine qr_iload_n (pc := 124) d_bf_init_124 rfl rfl ?_
  refine qr_iconst (v := 5) (pc := 125) d_bf_init_125 (by decide) ?_
  refine qr_icmp_ge (tgt := 148) (pc := 126) d_bf_init_126 (by decide) (fun h => absurd h (by decide)) (fun _ => ?_)
  refine qr_aload_n (pc := 129) d_bf_init_129 rfl rfl ?_
  refine qr_get (v := .ref 8) (fs := [.ref 1, .ref 7, .ref 8, .ref 9, .ref 14, .ref 20, .ref 25, .ref 26, .ref 27, .int 0, .long 0]) (pc := 130) d_bf_init_130 fl_bf_24 (by decide) (by decide) rfl rfl ?_
  refine qr_iload_n (pc := 133) d_bf_init_133 rfl rfl ?_
  refine qr_new (ci := 0) (ty9 := t_cu) (fs := [.null, .int 0, .int 0, .int 0, .long 0]) (pc := 134) d_bf_init_134 rfl i_cu t_cu_ok cl_bf_22 in_cu ii_cu (dv_cu) (nr_cu) ⟨rfl, rfl⟩ (by decide) (Nat.le_of_ble_eq_true rfl) (Nat.le_of_ble_eq_true rfl) ?_
  refine qr_dup (pc := 137) d_bf_init_137 rfl ?_
  refine qr_callIN (q := 41) (As := []) (pc := 138) d_bf_init_138 ln_bf_69 im_cu_init rfl (s_cu_init_41 _ _ rfl) rfl rfl (Nat.le_of_ble_eq_true rfl) (Nat.le_of_ble_eq_true rfl) (Nat.le_of_ble_eq_true rfl) (Nat.le_of_ble_eq_true rfl) (Nat.le_of_ble_eq_true rfl) (fun _ => ⟨rfl, rfl, Or.inr (Nat.le_of_ble_eq_true rfl)⟩) (fun v n9 f9 hE => ?_)
  obtain ⟨rfl, rfl, rfl⟩ := hE
  refine qr_aast (g := va_up (va_up (fun _ => none) 0 (some 37)) 1 (some 39)) (f' := va_up _ 8 (.inl (6, 5, .inr (.inr (.inr (.inr (va_up (va_up (va_up (fun _ => none) 0 (some 37)) 1 (some 39)) 2 (some 41)))))))) (pc := 141) d_bf_init_141 (by decide) (by decide) rfl rfl (by decide) (by decide) rfl rfl (by unfold vp_in; decide) rfl ?_
  refine qr_iinc (v := 3) (lv' := [(1, .int 3), (0, .ref 0)]) (pc := 142) d_bf_init_142 rfl (by decide) (Nat.le_of_ble_eq_true rfl) rfl ?_
  refine qr_goto (tgt := 124) (pc := 145) d_bf_init_145 (by decide) ?_
  refine qr_iload_n (pc := 124) d_bf_init_124 rfl rfl ?_
  refine qr_iconst (v := 5) (pc := 125) d_bf_init_125 (by decide) ?_
  refine qr_icmp_ge (tgt := 148) (pc := 126) d_bf_init_126 (by decide) (fun h => absurd h (by decide)) (fun _ => ?_)
  refine qr_aload_n (pc := 129) d_bf_init_129 rfl rfl ?_
  refine qr_get (v := .ref 8) (fs := [.ref 1, .ref 7, .ref 8, .ref 9, .ref 14, .ref 20, .ref 25, .ref 26, .ref 27, .int 0, .long 0]) (pc := 130) d_bf_init_130 fl_bf_24 (by decide) (by decide) rfl rfl ?_
  refine qr_iload_n (pc := 133) d_bf_init_133 rfl rfl ?_
  refine qr_new (ci := 0) (ty9 := t_cu) (fs := [.null, .int 0, .int 0, .int 0, .long 0]) (pc := 134) d_bf_init_134 rfl i_cu t_cu_ok cl_bf_22 in_cu ii_cu (dv_cu) (nr_cu) ⟨rfl, rfl⟩ (by decide) (Nat.le_of_ble_eq_true rfl) (Nat.le_of_ble_eq_true rfl) ?_
  refine qr_dup (pc := 137) d_bf_init_137 rfl ?_
  refine qr_callIN (q := 43) (As := []) (pc := 138) d_bf_init_138 ln_bf_69 im_cu_init rfl (s_cu_init_43 _ _ rfl) rfl rfl (Nat.le_of_ble_eq_true rfl) (Nat.le_of_ble_eq_true rfl) (Nat.le_of_ble_eq_true rfl) (Nat.le_of_ble_eq_true rfl) (Nat.le_of_ble_eq_true rfl) (fun _ => ⟨rfl, rfl, Or.inr (Nat.le_of_ble_eq_true rfl)⟩) (fun v n9 f9 hE => ?_)
  obtain ⟨rfl, rfl, rfl⟩ := hE
  refine qr_aast (g := va_up (va_up (va_up (fun _ => none) 0 (some 37)) 1 (some 39)) 2 (some 41)) (f' := va_up _ 8 (.inl (6, 5, .inr (.inr (.inr (.inr (va_up (va_up (va_up (va_up (fun _ => none) 0 (some 37)) 1 (some 39)) 2 (some 41)) 3 (some 43)))))))) (pc := 141) d_bf_init_141 (by decide) (by decide) rfl rfl (by decide) (by decide) rfl rfl (by unfold vp_in; decide) rfl ?_
  refine qr_iinc (v := 4) (lv' := [(1, .int 4), (0, .ref 0)]) (pc := 142) d_bf_init_142 rfl (by decide) (Nat.le_of_ble_eq_true rfl) rfl ?_
  refine qr_goto (tgt := 124) (pc := 145) d_bf_init_145 (by decide) ?_
  refine qr_iload_n (pc := 124) d_bf_init_124 rfl rfl ?_
  refine qr_iconst (v := 5) (pc := 125) d_bf_init_125 (by decide) ?_
  refine qr_icmp_ge (tgt := 148) (pc := 126) d_bf_init_126 (by decide) (fun h => absurd h (by decide)) (fun _ => ?_)
  refine qr_aload_n (pc := 129) d_bf_init_129 rfl rfl ?_
  refine qr_get (v := .ref 8) (fs := [.ref 1, .ref 7, .ref 8, .ref 9, .ref 14, .ref 20, .ref 25, .ref 26, .ref 27, .int 0, .long 0]) (pc := 130) d_bf_init_130 fl_bf_24 (by decide) (by decide) rfl rfl ?_
  refine qr_iload_n (pc := 133) d_bf_init_133 rfl rfl ?_
  refine qr_new (ci := 0) (ty9 := t_cu) (fs := [.null, .int 0, .int 0, .int 0, .long 0]) (pc := 134) d_bf_init_134 rfl i_cu t_cu_ok cl_bf_22 in_cu ii_cu (dv_cu) (nr_cu) ⟨rfl, rfl⟩ (by decide) (Nat.le_of_ble_eq_true rfl) (Nat.le_of_ble_eq_true rfl) ?_
  refine qr_dup (pc := 137) d_bf_init_137 rfl ?_
  refine qr_callIN (q := 45) (As := []) (pc := 138) d_bf_init_138 ln_bf_69 im_cu_init rfl (s_cu_init_45 _ _ rfl) rfl rfl (Nat.le_of_ble_eq_true rfl) (Nat.le_of_ble_eq_true rfl) (Nat.le_of_ble_eq_true rfl) (Nat.le_of_ble_eq_true rfl) (Nat.le_of_ble_eq_true rfl) (fun _ => ⟨rfl, rfl, Or.inr (Nat.le_of_ble_eq_true rfl)⟩) (fun v n9 f9 hE => ?_)
  obtain ⟨rfl, rfl, rfl⟩ := hE
  refine qr_aast (g := va_up (va_up (va_up (va_up (fun _ => none) 0 (some 37)) 1 (some 39)) 2 (some 41)) 3 (some 43)) (f' := va_up _ 8 (.inl (6, 5, .inr (.inr (.inr (.inr (va_up (va_up (va_up (va_up (va_up (fun _ => none) 0 (some 37)) 1 (some 39)) 2 (some 41)) 3 (some 43)) 4 (some 45)))))))) (pc := 141) d_bf_init_141 (by decide) (by decide) rfl rfl (by decide) (by decide) rfl rfl (by unfold vp_in; decide) rfl ?_
  refine qr_iinc (v := 5) (lv' := [(1, .int 5), (0, .ref 0)]) (pc := 142) d_bf_init_142 rfl (by decide) (Nat.le_of_ble_eq_true rfl) rfl ?_
  refine qr_goto (tgt := 124) (pc := 145) d_bf_init_145 (by decide) ?_
  refine qr_iload_n (pc := 124) d_bf_init_124 rfl rfl ?_
  refine qr_iconst (v := 5) (pc := 125) d_bf_init_125 (by decide) ?_
  refine qr_icmp_ge (tgt := 148) (pc := 126) d_bf_init_126 (by decide) (fun _ => ?_) (fun h => absurd h (by decide))
  refine qr_iconst (v := 0) (pc := 148) d_bf_init_148 (by decide) ?_
  refine qr_istore_n (lv' := [(1, .int 0), (0, .ref 0)]) (pc := 149) d_bf_init_149 rfl (Nat.le_of_ble_eq_true rfl) rfl ?_
  refine qr_iload_n (pc := 150) d_bf_init_150 rfl rfl ?_
  refine qr_bipush (v := 14) (pc := 151) d_bf_init_151 (by decide) ?_
  refine qr_icmp_gt (tgt := 172) (pc := 153) d_bf_init_153 (by decide) (fun h => absurd h (by decide)) (fun _ => ?_)
  refine qr_aload_n (pc := 156) d_bf_init_156 rfl rfl ?_
  refine qr_get (v := .ref 25) (fs := [.ref 1, .ref 7, .ref 8, .ref 9, .ref 14, .ref 20, .ref 25, .ref 26, .ref 27, .int 0, .long 0]) (pc := 157) d_bf_init_157 fl_bf_49 (by decide) (by decide) rfl rfl ?_
  refine qr_iload_n (pc := 160) d_bf_init_160 rfl rfl ?_
  refine qr_iload_n (pc := 161) d_bf_init_161 rfl rfl ?_
  refine qr_callS (As := [.int 0]) (pc := 162) d_bf_init_162 lk_bf_70 sm_al_firstDayOf (s_al_firstDayOf _ false _ _ 0 0 (by decide) (by decide)) rfl rfl (Nat.le_of_ble_eq_true rfl) (Nat.le_of_ble_eq_true rfl) (Nat.le_of_ble_eq_true rfl) (Nat.le_of_ble_eq_true rfl) (Nat.le_of_ble_eq_true rfl) (fun h => nomatch h) (fun v n9 f9 hE => ?_)
  obtain ⟨rfl, rfl, rfl⟩ := hE
  refine qr_iastN (j := 0) (g := (fun _ => 0)) (f' := va_up _ 25 (.inl (0, 15, .inl (upd (fun _ => 0) 0 (u_md (2000 + 0 / 12) 0))))) (pc := 165) d_bf_init_165 (by decide) (by decide) rfl (by decide) (by decide) rfl ?_
  refine qr_iinc (v := 1) (lv' := [(1, .int 1), (0, .ref 0)]) (pc := 166) d_bf_init_166 rfl (by decide) (Nat.le_of_ble_eq_true rfl) rfl ?_
  refine qr_goto (tgt := 150) (pc := 169) d_bf_init_169 (by decide) ?_
  refine qr_iload_n (pc := 150) d_bf_init_150 rfl rfl ?_
  refine qr_bipush (v := 14) (pc := 151) d_bf_init_151 (by decide) ?_
  refine qr_icmp_gt (tgt := 172) (pc := 153) d_bf_init_153 (by decide) (fun h => absurd h (by decide)) (fun _ => ?_)
  refine qr_aload_n (pc := 156) d_bf_init_156 rfl rfl ?_
  refine qr_get (v := .ref 25) (fs := [.ref 1, .ref 7, .ref 8, .ref 9, .ref 14, .ref 20, .ref 25, .ref 26, .ref 27, .int 0, .long 0]) (pc := 157) d_bf_init_157 fl_bf_49 (by decide) (by decide) rfl rfl ?_
  refine qr_iload_n (pc := 160) d_bf_init_160 rfl rfl ?_
  refine qr_iload_n (pc := 161) d_bf_init_161 rfl rfl ?_
  refine qr_callS (As := [.int 1]) (pc := 162) d_bf_init_162 lk_bf_70 sm_al_firstDayOf (s_al_firstDayOf _ false _ _ 1 1 (by decide) (by decide)) rfl rfl (Nat.le_of_ble_eq_true rfl) (Nat.le_of_ble_eq_true rfl) (Nat.le_of_ble_eq_true rfl) (Nat.le_of_ble_eq_true rfl) (Nat.le_of_ble_eq_true rfl) (fun h => nomatch h) (fun v n9 f9 hE => ?_)
  obtain ⟨rfl, rfl, rfl⟩ := hE
  refine qr_iastN (j := 1) (g := upd (fun _ => 0) 0 (u_md (2000 + 0 / 12) 0)) (f' := va_up _ 25 (.inl (0, 15, .inl (upd (upd (fun _ => 0) 0 (u_md (2000 + 0 / 12) 0)) 1 (u_md (2000 + 1 / 12) 1))))) (pc := 165) d_bf_init_165 (by decide) (by decide) rfl (by decide) (by decide) rfl ?_
  refine qr_iinc (v := 2) (lv' := [(1, .int 2), (0, .ref 0)]) (pc := 166) d_bf_init_166 rfl (by decide) (Nat.le_of_ble_eq_true rfl) rfl ?_
  refine qr_goto (tgt := 150) (pc := 169) d_bf_init_169 (by decide) ?_
  refine qr_iload_n (pc := 150) d_bf_init_150 rfl rfl ?_
  refine qr_bipush (v := 14) (pc := 151) d_bf_init_151 (by decide) ?_
  refine qr_icmp_gt (tgt := 172) (pc := 153) d_bf_init_153 (by decide) (fun h => absurd h (by decide)) (fun _ => ?_)
  refine qr_aload_n (pc := 156) d_bf_init_156 rfl rfl ?_
  refine qr_get (v := .ref 25) (fs := [.ref 1, .ref 7, .ref 8, .ref 9, .ref 14, .ref 20, .ref 25, .ref 26, .ref 27, .int 0, .long 0]) (pc := 157) d_bf_init_157 fl_bf_49 (by decide) (by decide) rfl rfl ?_
  refine qr_iload_n (pc := 160) d_bf_init_160 rfl rfl ?_
  refine qr_iload_n (pc := 161) d_bf_init_161 rfl rfl ?_
  refine qr_callS (As := [.int 2]) (pc := 162) d_bf_init_162 lk_bf_70 sm_al_firstDayOf (s_al_firstDayOf _ false _ _ 2 2 (by decide) (by decide)) rfl rfl (Nat.le_of_ble_eq_true rfl) (Nat.le_of_ble_eq_true rfl) (Nat.le_of_ble_eq_true rfl) (Nat.le_of_ble_eq_true rfl) (Nat.le_of_ble_eq_true rfl) (fun h => nomatch h) (fun v n9 f9 hE => ?_)
  obtain ⟨rfl, rfl, rfl⟩ := hE
  refine qr_iastN (j := 2) (g := upd (upd (fun _ => 0) 0 (u_md (2000 + 0 / 12) 0)) 1 (u_md (2000 + 1 / 12) 1)) (f' := va_up _ 25 (.inl (0, 15, .inl (upd (upd (upd (fun _ => 0) 0 (u_md (2000 + 0 / 12) 0)) 1 (u_md (2000 + 1 / 12) 1)) 2 (u_md (2000 + 2 / 12) 2))))) (pc := 165) d_bf_init_165 (by decide) (by decide) rfl (by decide) (by decide) rfl ?_
  refine qr_iinc (v := 3) (lv' := [(1, .int 3), (0, .ref 0)]) (pc := 166) d_bf_init_166 rfl (by decide) (Nat.le_of_ble_eq_true rfl) rfl ?_
  refine qr_goto (tgt := 150) (pc := 169) d_bf_init_169 (by decide) ?_
  refine qr_iload_n (pc := 150) d_bf_init_150 rfl rfl ?_
  refine qr_bipush (v := 14) (pc := 151) d_bf_init_151 (by decide) ?_
  refine qr_icmp_gt (tgt := 172) (pc := 153) d_bf_init_153 (by decide) (fun h => absurd h (by decide)) (fun _ => ?_)
  refine qr_aload_n (pc := 156) d_bf_init_156 rfl rfl ?_
  refine qr_get (v := .ref 25) (fs := [.ref 1, .ref 7, .ref 8, .ref 9, .ref 14, .ref 20, .ref 25, .ref 26, .ref 27, .int 0, .long 0]) (pc := 157) d_bf_init_157 fl_bf_49 (by decide) (by decide) rfl rfl ?_
  refine qr_iload_n (pc := 160) d_bf_init_160 rfl rfl ?_
  refine qr_iload_n (pc := 161) d_bf_init_161 rfl rfl ?_
  refine qr_callS (As := [.int 3]) (pc := 162) d_bf_init_162 lk_bf_70 sm_al_firstDayOf (s_al_firstDayOf _ false _ _ 3 3 (by decide) (by decide)) rfl rfl (Nat.le_of_ble_eq_true rfl) (Nat.le_of_ble_eq_true rfl) (Nat.le_of_ble_eq_true rfl) (Nat.le_of_ble_eq_true rfl) (Nat.le_of_ble_eq_true rfl) (fun h => nomatch h) (fun v n9 f9 hE => ?_)
  obtain ⟨rfl, rfl, rfl⟩ := hE
  refine qr_iastN (j := 3) (g := upd (upd (upd (fun _ => 0) 0 (u_md (2000 + 0 / 12) 0)) 1 (u_md (2000 + 1 / 12) 1)) 2 (u_md (2000 + 2 / 12) 2)) (f' := va_up _ 25 (.inl (0, 15, .inl (upd (upd (upd (upd (fun _ => 0) 0 (u_md (2000 + 0 / 12) 0)) 1 (u_md (2000 + 1 / 12) 1)) 2 (u_md (2000 + 2 / 12) 2)) 3 (u_md (2000 + 3 / 12) 3))))) (pc := 165) d_bf_init_165 (by decide) (by decide) rfl (by decide) (by decide) rfl ?_
  refine qr_iinc (v := 4) (lv' := [(1, .int 4), (0, .ref 0)]) (pc := 166) d_bf_init_166 rfl (by decide) (Nat.le_of_ble_eq_true rfl) rfl ?_
  refine qr_goto (tgt := 150) (pc := 169) d_bf_init_169 (by decide) ?_
  refine qr_iload_n (pc := 150) d_bf_init_150 rfl rfl ?_
  refine qr_bipush (v := 14) (pc := 151) d_bf_init_151 (by decide) ?_
  refine qr_icmp_gt (tgt := 172) (pc := 153) d_bf_init_153 (by decide) (fun h => absurd h (by decide)) (fun _ => ?_)
  refine qr_aload_n (pc := 156) d_bf_init_156 rfl rfl ?_
  refine qr_get (v := .ref 25) (fs := [.ref 1, .ref 7, .ref 8, .ref 9, .ref 14, .ref 20, .ref 25, .ref 26, .ref 27, .int 0, .long 0]) (pc := 157) d_bf_init_157 fl_bf_49 (by decide) (by decide) rfl rfl ?_
  refine qr_iload_n (pc := 160) d_bf_init_160 rfl rfl ?_
  refine qr_iload_n (pc := 161) d_bf_init_161 rfl rfl ?_
  refine qr_callS (As := [.int 4]) (pc := 162) d_bf_init_162 lk_bf_70 sm_al_firstDayOf (s_al_firstDayOf _ false _ _ 4 4 (by decide) (by decide)) rfl rfl (Nat.le_of_ble_eq_true rfl) (Nat.le_of_ble_eq_true rfl) (Nat.le_of_ble_eq_true rfl) (Nat.le_of_ble_eq_true rfl) (Nat.le_of_ble_eq_true rfl) (fun h => nomatch h) (fun v n9 f9 hE => ?_)
  obtain ⟨rfl, rfl, rfl⟩ := hE
  refine qr_iastN (j := 4) (g := upd (upd (upd (upd (fun _ => 0) 0 (u_md (2000 + 0 / 12) 0)) 1 (u_md (2000 + 1 / 12) 1)) 2 (u_md (2000 + 2 / 12) 2)) 3 (u_md (2000 + 3 / 12) 3)) (f' := va_up _ 25 (.inl (0, 15, .inl (upd (upd (upd (upd (upd (fun _ => 0) 0 (u_md (2000 + 0 / 12) 0)) 1 (u_md (2000 + 1 / 12) 1)) 2 (u_md (2000 + 2 / 12) 2)) 3 (u_md (2000 + 3 / 12) 3)) 4 (u_md (2000 + 4 / 12) 4))))) (pc := 165) d_bf_init_165 (by decide) (by decide) rfl (by decide) (by decide) rfl ?_
  refine qr_iinc (v := 5) (lv' := [(1, .int 5), (0, .ref 0)]) (pc := 166) d_bf_init_166 rfl (by decide) (Nat.le_of_ble_eq_true rfl) rfl ?_
  refine qr_goto (tgt := 150) (pc := 169) d_bf_init_169 (by decide) ?_
  refine qr_iload_n (pc := 150) d_bf_init_150 rfl rfl ?_
  refine qr_bipush (v := 14) (pc := 151) d_bf_init_151 (by decide) ?_
  refine qr_icmp_gt (tgt := 172) (pc := 153) d_bf_init_153 (by decide) (fun h => absurd h (by decide)) (fun _ => ?_)
  refine qr_aload_n (pc := 156) d_bf_init_156 rfl rfl ?_
  refine qr_get (v := .ref 25) (fs := [.ref 1, .ref 7, .ref 8, .ref 9, .ref 14, .ref 20, .ref 25, .ref 26, .ref 27, .int 0, .long 0]) (pc := 157) d_bf_init_157 fl_bf_49 (by decide) (by decide) rfl rfl ?_
  refine qr_iload_n (pc := 160) d_bf_init_160 rfl rfl ?_
  refine qr_iload_n (pc := 161) d_bf_init_161 rfl rfl ?_
  refine qr_callS (As := [.int 5]) (pc := 162) d_bf_init_162 lk_bf_70 sm_al_firstDayOf (s_al_firstDayOf _ false _ _ 5 5 (by decide) (by decide)) rfl rfl (Nat.le_of_ble_eq_true rfl) (Nat.le_of_ble_eq_true rfl) (Nat.le_of_ble_eq_true rfl) (Nat.le_of_ble_eq_true rfl) (Nat.le_of_ble_eq_true rfl) (fun h => nomatch h) (fun v n9 f9 hE => ?_)
  obtain ⟨rfl, rfl, rfl⟩ := hE
  refine qr_iastN (j := 5) (g := upd (upd (upd (upd (upd (fun _ => 0) 0 (u_md (2000 + 0 / 12) 0)) 1 (u_md (2000 + 1 / 12) 1)) 2 (u_md (2000 + 2 / 12) 2)) 3 (u_md (2000 + 3 / 12) 3)) 4 (u_md (2000 + 4 / 12) 4)) (f' := va_up _ 25 (.inl (0, 15, .inl (upd (upd (upd (upd (upd (upd (fun _ => 0) 0 (u_md (2000 + 0 / 12) 0)) 1 (u_md (2000 + 1 / 12) 1)) 2 (u_md (2000 + 2 / 12) 2)) 3 (u_md (2000 + 3 / 12) 3)) 4 (u_md (2000 + 4 / 12) 4)) 5 (u_md (2000 + 5 / 12) 5))))) (pc := 165) d_bf_init_165 (by decide) (by decide) rfl (by decide) (by decide) rfl ?_
  refine qr_iinc (v := 6) (lv' := [(1, .int 6), (0, .ref 0)]) (pc := 166) d_bf_init_166 rfl (by decide) (Nat.le_of_ble_eq_true rfl) rfl ?_
  refine qr_goto (tgt := 150) (pc := 169) d_bf_init_169 (by decide) ?_
  refine qr_iload_n (pc := 150) d_bf_init_150 rfl rfl ?_
  refine qr_bipush (v := 14) (pc := 151) d_bf_init_151 (by decide) ?_
  refine qr_icmp_gt (tgt := 172) (pc := 153) d_bf_init_153 (by decide) (fun h => absurd h (by decide)) (fun _ => ?_)
  refine qr_aload_n (pc := 156) d_bf_init_156 rfl rfl ?_
  refine qr_get (v := .ref 25) (fs := [.ref 1, .ref 7, .ref 8, .ref 9, .ref 14, .ref 20, .ref 25, .ref 26, .ref 27, .int 0, .long 0]) (pc := 157) d_bf_init_157 fl_bf_49 (by decide) (by decide) rfl rfl ?_
  refine qr_iload_n (pc := 160) d_bf_init_160 rfl rfl ?_
  refine qr_iload_n (pc := 161) d_bf_init_161 rfl rfl ?_
  refine qr_callS (As := [.int 6]) (pc := 162) d_bf_init_162 lk_bf_70 sm_al_firstDayOf (s_al_firstDayOf _ false _ _ 6 6 (by decide) (by decide)) rfl rfl (Nat.le_of_ble_eq_true rfl) (Nat.le_of_ble_eq_true rfl) (Nat.le_of_ble_eq_true rfl) (Nat.le_of_ble_eq_true rfl) (Nat.le_of_ble_eq_true rfl) (fun h => nomatch h) (fun v n9 f9 hE => ?_)
  obtain ⟨rfl, rfl, rfl⟩ := hE
  refine qr_iastN (j := 6) (g := upd (upd (upd (upd (upd (upd (fun _ => 0) 0 (u_md (2000 + 0 / 12) 0)) 1 (u_md (2000 + 1 / 12) 1)) 2 (u_md (2000 + 2 / 12) 2)) 3 (u_md (2000 + 3 / 12) 3)) 4 (u_md (2000 + 4 / 12) 4)) 5 (u_md (2000 + 5 / 12) 5)) (f' := va_up _ 25 (.inl (0, 15, .inl (upd (upd (upd (upd (upd (upd (upd (fun _ => 0) 0 (u_md (2000 + 0 / 12) 0)) 1 (u_md (2000 + 1 / 12) 1)) 2 (u_md (2000 + 2 / 12) 2)) 3 (u_md (2000 + 3 / 12) 3)) 4 (u_md (2000 + 4 / 12) 4)) 5 (u_md (2000 + 5 / 12) 5)) 6 (u_md (2000 + 6 / 12) 6))))) (pc := 165) d_bf_init_165 (by decide) (by decide) rfl (by decide) (by decide) rfl ?_
  refine qr_iinc (v := 7) (lv' := [(1, .int 7), (0, .ref 0)]) (pc := 166) d_bf_init_166 rfl (by decide) (Nat.le_of_ble_eq_true rfl) rfl ?_
  refine qr_goto (tgt := 150) (pc := 169) d_bf_init_169 (by decide) ?_
  refine qr_iload_n (pc := 150) d_bf_init_150 rfl rfl ?_
  refine qr_bipush (v := 14) (pc := 151) d_bf_init_151 (by decide) ?_
  refine qr_icmp_gt (tgt := 172) (pc := 153) d_bf_init_153 (by decide) (fun h => absurd h (by decide)) (fun _ => ?_)
  refine qr_aload_n (pc := 156) d_bf_init_156 rfl rfl ?_
  refine qr_get (v := .ref 25) (fs := [.ref 1, .ref 7, .ref 8, .ref 9, .ref 14, .ref 20, .ref 25, .ref 26, .ref 27, .int 0, .long 0]) (pc := 157) d_bf_init_157 fl_bf_49 (by decide) (by decide) rfl rfl ?_
  refine qr_iload_n (pc := 160) d_bf_init_160 rfl rfl ?_
  refine qr_iload_n (pc := 161) d_bf_init_161 rfl rfl ?_
  refine qr_callS (As := [.int 7]) (pc := 162) d_bf_init_162 lk_bf_70 sm_al_firstDayOf (s_al_firstDayOf _ false _ _ 7 7 (by decide) (by decide)) rfl rfl (Nat.le_of_ble_eq_true rfl) (Nat.le_of_ble_eq_true rfl) (Nat.le_of_ble_eq_true rfl) (Nat.le_of_ble_eq_true rfl) (Nat.le_of_ble_eq_true rfl) (fun h => nomatch h) (fun v n9 f9 hE => ?_)
  obtain ⟨rfl, rfl, rfl⟩ := hE
  refine qr_iastN (j := 7) (g := upd (upd (upd (upd (upd (upd (upd (fun _ => 0) 0 (u_md (2000 + 0 / 12) 0)) 1 (u_md (2000 + 1 / 12) 1)) 2 (u_md (2000 + 2 / 12) 2)) 3 (u_md (2000 + 3 / 12) 3)) 4 (u_md (2000 + 4 / 12) 4)) 5 (u_md (2000 + 5 / 12) 5)) 6 (u_md (2000 + 6 / 12) 6)) (f' := va_up _ 25 (.inl (0, 15, .inl (upd (upd (upd (upd (upd (upd (upd (upd (fun _ => 0) 0 (u_md (2000 + 0 / 12) 0)) 1 (u_md (2000 + 1 / 12) 1)) 2 (u_md (2000 + 2 / 12) 2)) 3 (u_md (2000 + 3 / 12) 3)) 4 (u_md (2000 + 4 / 12) 4)) 5 (u_md (2000 + 5 / 12) 5)) 6 (u_md (2000 + 6 / 12) 6)) 7 (u_md (2000 + 7 / 12) 7))))) (pc := 165) d_bf_init_165 (by decide) (by decide) rfl (by decide) (by decide) rfl ?_
  refine qr_iinc (v := 8) (lv' := [(1, .int 8), (0, .ref 0)]) (pc := 166) d_bf_init_166 rfl (by decide) (Nat.le_of_ble_eq_true rfl) rfl ?_
  refine qr_goto (tgt := 150) (pc := 169) d_bf_init_169 (by decide) ?_
  refine qr_iload_n (pc := 150) d_bf_init_150 rfl rfl ?_
  refine qr_bipush (v := 14) (pc := 151) d_bf_init_151 (by decide) ?_
  refine qr_icmp_gt (tgt := 172) (pc := 153) d_bf_init_153 (by decide) (fun h => absurd h (by decide)) (fun _ => ?_)
  refine qr_aload_n (pc := 156) d_bf_init_156 rfl rfl ?_
  refine qr_get (v := .ref 25) (fs := [.ref 1, .ref 7, .ref 8, .ref 9, .ref 14, .ref 20, .ref 25, .ref 26, .ref 27, .int 0, .long 0]) (pc := 157) d_bf_init_157 fl_bf_49 (by decide) (by decide) rfl rfl ?_
  refine qr_iload_n (pc := 160) d_bf_init_160 rfl rfl ?_
  refine qr_iload_n (pc := 161) d_bf_init_161 rfl rfl ?_
  refine qr_callS (As := [.int 8]) (pc := 162) d_bf_init_162 lk_bf_70 sm_al_firstDayOf (s_al_firstDayOf _ false _ _ 8 8 (by decide) (by decide)) rfl rfl (Nat.le_of_ble_eq_true rfl) (Nat.le_of_ble_eq_true rfl) (Nat.le_of_ble_eq_true rfl) (Nat.le_of_ble_eq_true rfl) (Nat.le_of_ble_eq_true rfl) (fun h => nomatch h) (fun v n9 f9 hE => ?_)
  obtain ⟨rfl, rfl, rfl⟩ := hE
  refine qr_iastN (j := 8) (g := upd (upd (upd (upd (upd (upd (upd (upd (fun _ => 0) 0 (u_md (2000 + 0 / 12) 0)) 1 (u_md (2000 + 1 / 12) 1)) 2 (u_md (2000 + 2 / 12) 2)) 3 (u_md (2000 + 3 / 12) 3)) 4 (u_md (2000 + 4 / 12) 4)) 5 (u_md (2000 + 5 / 12) 5)) 6 (u_md (2000 + 6 / 12) 6)) 7 (u_md (2000 + 7 / 12) 7)) (f' := va_up _ 25 (.inl (0, 15, .inl (upd (upd (upd (upd (upd (upd (upd (upd (upd (fun _ => 0) 0 (u_md (2000 + 0 / 12) 0)) 1 (u_md (2000 + 1 / 12) 1)) 2 (u_md (2000 + 2 / 12) 2)) 3 (u_md (2000 + 3 / 12) 3)) 4 (u_md (2000 + 4 / 12) 4)) 5 (u_md (2000 + 5 / 12) 5)) 6 (u_md (2000 + 6 / 12) 6)) 7 (u_md (2000 + 7 / 12) 7)) 8 (u_md (2000 + 8 / 12) 8))))) (pc := 165) d_bf_init_165 (by decide) (by decide) rfl (by decide) (by decide) rfl ?_
  refine qr_iinc (v := 9) (lv' := [(1, .int 9), (0, .ref 0)]) (pc := 166) d_bf_init_166 rfl (by decide) (Nat.le_of_ble_eq_true rfl) rfl ?_
  refine qr_goto (tgt := 150) (pc := 169) d_bf_init_169 (by decide) ?_
  refine qr_iload_n (pc := 150) d_bf_init_150 rfl rfl ?_
  refine qr_bipush (v := 14) (pc := 151) d_bf_init_151 (by decide) ?_
  refine qr_icmp_gt (tgt := 172) (pc := 153) d_bf_init_153 (by decide) (fun h => absurd h (by decide)) (fun _ => ?_)
  refine qr_aload_n (pc := 156) d_bf_init_156 rfl rfl ?_
  refine qr_get (v := .ref 25) (fs := [.ref 1, .ref 7, .ref 8, .ref 9, .ref 14, .ref 20, .ref 25, .ref 26, .ref 27, .int 0, .long 0]) (pc := 157) d_bf_init_157 fl_bf_49 (by decide) (by decide) rfl rfl ?_
  refine qr_iload_n (pc := 160) d_bf_init_160 rfl rfl ?_
  refine qr_iload_n (pc := 161) d_bf_init_161 rfl rfl ?_
  refine qr_callS (As := [.int 9]) (pc := 162) d_bf_init_162 lk_bf_70 sm_al_firstDayOf (s_al_firstDayOf _ false _ _ 9 9 (by decide) (by decide)) rfl rfl (Nat.le_of_ble_eq_true rfl) (Nat.le_of_ble_eq_true rfl) (Nat.le_of_ble_eq_true rfl) (Nat.le_of_ble_eq_true rfl) (Nat.le_of_ble_eq_true rfl) (fun h => nomatch h) (fun v n9 f9 hE => ?_)
  obtain ⟨rfl, rfl, rfl⟩ := hE
  refine qr_iastN (j := 9) (g := upd (upd (upd (upd (upd (upd (upd (upd (upd (fun _ => 0) 0 (u_md (2000 + 0 / 12) 0)) 1 (u_md (2000 + 1 / 12) 1)) 2 (u_md (2000 + 2 / 12) 2)) 3 (u_md (2000 + 3 / 12) 3)) 4 (u_md (2000 + 4 / 12) 4)) 5 (u_md (2000 + 5 / 12) 5)) 6 (u_md (2000 + 6 / 12) 6)) 7 (u_md (2000 + 7 / 12) 7)) 8 (u_md (2000 + 8 / 12) 8)) (f' := va_up _ 25 (.inl (0, 15, .inl (upd (upd (upd (upd (upd (upd (upd (upd (upd (upd (fun _ => 0) 0 (u_md (2000 + 0 / 12) 0)) 1 (u_md (2000 + 1 / 12) 1)) 2 (u_md (2000 + 2 / 12) 2)) 3 (u_md (2000 + 3 / 12) 3)) 4 (u_md (2000 + 4 / 12) 4)) 5 (u_md (2000 + 5 / 12) 5)) 6 (u_md (2000 + 6 / 12) 6)) 7 (u_md (2000 + 7 / 12) 7)) 8 (u_md (2000 + 8 / 12) 8)) 9 (u_md (2000 + 9 / 12) 9))))) (pc := 165) d_bf_init_165 (by decide) (by decide) rfl (by decide) (by decide) rfl ?_
  refine qr_iinc (v := 10) (lv' := [(1, .int 10), (0, .ref 0)]) (pc := 166) d_bf_init_166 rfl (by decide) (Nat.le_of_ble_eq_true rfl) rfl ?_
  refine qr_goto (tgt := 150) (pc := 169) d_bf_init_169 (by decide) ?_
  refine qr_iload_n (pc := 150) d_bf_init_150 rfl rfl ?_
  refine qr_bipush (v := 14) (pc := 151) d_bf_init_151 (by decide) ?_
  refine qr_icmp_gt (tgt := 172) (pc := 153) d_bf_init_153 (by decide) (fun h => absurd h (by decide)) (fun _ => ?_)
  refine qr_aload_n (pc := 156) d_bf_init_156 rfl rfl ?_
  refine qr_get (v := .ref 25) (fs := [.ref 1, .ref 7, .ref 8, .ref 9, .ref 14, .ref 20, .ref 25, .ref 26, .ref 27, .int 0, .long 0]) (pc := 157) d_bf_init_157 fl_bf_49 (by decide) (by decide) rfl rfl ?_
  refine qr_iload_n (pc := 160) d_bf_init_160 rfl rfl ?_
  refine qr_iload_n (pc := 161) d_bf_init_161 rfl rfl ?_
  refine qr_callS (As := [.int 10]) (pc := 162) d_bf_init_162 lk_bf_70 sm_al_firstDayOf (s_al_firstDayOf _ false _ _ 10 10 (by decide) (by decide)) rfl rfl (Nat.le_of_ble_eq_true rfl) (Nat.le_of_ble_eq_true rfl) (Nat.le_of_ble_eq_true rfl) (Nat.le_of_ble_eq_true rfl) (Nat.le_of_ble_eq_true rfl) (fun h => nomatch h) (fun v n9 f9 hE => ?_)
  obtain ⟨rfl, rfl, rfl⟩ := hE
  refine qr_iastN (j := 10) (g := upd (upd (upd (upd (upd (upd (upd (upd (upd (upd (fun _ => 0) 0 (u_md (2000 + 0 / 12) 0)) 1 (u_md (2000 + 1 / 12) 1)) 2 (u_md (2000 + 2 / 12) 2)) 3 (u_md (2000 + 3 / 12) 3)) 4 (u_md (2000 + 4 / 12) 4)) 5 (u_md (2000 + 5 / 12) 5)) 6 (u_md (2000 + 6 / 12) 6)) 7 (u_md (2000 + 7 / 12) 7)) 8 (u_md (2000 + 8 / 12) 8)) 9 (u_md (2000 + 9 / 12) 9)) (f' := va_up _ 25 (.inl (0, 15, .inl (upd (upd (upd (upd (upd (upd (upd (upd (upd (upd (upd (fun _ => 0) 0 (u_md (2000 + 0 / 12) 0)) 1 (u_md (2000 + 1 / 12) 1)) 2 (u_md (2000 + 2 / 12) 2)) 3 (u_md (2000 + 3 / 12) 3)) 4 (u_md (2000 + 4 / 12) 4)) 5 (u_md (2000 + 5 / 12) 5)) 6 (u_md (2000 + 6 / 12) 6)) 7 (u_md (2000 + 7 / 12) 7)) 8 (u_md (2000 + 8 / 12) 8)) 9 (u_md (2000 + 9 / 12) 9)) 10 (u_md (2000 + 10 / 12) 10))))) (pc := 165) d_bf_init_165 (by decide) (by decide) rfl (by decide) (by decide) rfl ?_
  refine qr_iinc (v := 11) (lv' := [(1, .int 11), (0, .ref 0)]) (pc := 166) d_bf_init_166 rfl (by decide) (Nat.le_of_ble_eq_true rfl) rfl ?_
  refine qr_goto (tgt := 150) (pc := 169) d_bf_init_169 (by decide) ?_
  refine qr_iload_n (pc := 150) d_bf_init_150 rfl rfl ?_
  refine qr_bipush (v := 14) (pc := 151) d_bf_init_151 (by decide) ?_
  refine qr_icmp_gt (tgt := 172) (pc := 153) d_bf_init_153 (by decide) (fun h => absurd h (by decide)) (fun _ => ?_)
  refine qr_aload_n (pc := 156) d_bf_init_156 rfl rfl ?_
  refine qr_get (v := .ref 25) (fs := [.ref 1, .ref 7, .ref 8, .ref 9, .ref 14, .ref 20, .ref 25, .ref 26, .ref 27, .int 0, .long 0]) (pc := 157) d_bf_init_157 fl_bf_49 (by decide) (by decide) rfl rfl ?_
  refine qr_iload_n (pc := 160) d_bf_init_160 rfl rfl ?_
  refine qr_iload_n (pc := 161) d_bf_init_161 rfl rfl ?_
  refine qr_callS (As := [.int 11]) (pc := 162) d_bf_init_162 lk_bf_70 sm_al_firstDayOf (s_al_firstDayOf _ false _ _ 11 11 (by decide) (by decide)) rfl rfl (Nat.le_of_ble_eq_true rfl) (Nat.le_of_ble_eq_true rfl) (Nat.le_of_ble_eq_true rfl) (Nat.le_of_ble_eq_true rfl) (Nat.le_of_ble_eq_true rfl) (fun h => nomatch h) (fun v n9 f9 hE => ?_)
  obtain ⟨rfl, rfl, rfl⟩ := hE
  refine qr_iastN (j := 11) (g := upd (upd (upd (upd (upd (upd (upd (upd (upd (upd (upd (fun _ => 0) 0 (u_md (2000 + 0 / 12) 0)) 1 (u_md (2000 + 1 / 12) 1)) 2 (u_md (2000 + 2 / 12) 2)) 3 (u_md (2000 + 3 / 12) 3)) 4 (u_md (2000 + 4 / 12) 4)) 5 (u_md (2000 + 5 / 12) 5)) 6 (u_md (2000 + 6 / 12) 6)) 7 (u_md (2000 + 7 / 12) 7)) 8 (u_md (2000 + 8 / 12) 8)) 9 (u_md (2000 + 9 / 12) 9)) 10 (u_md (2000 + 10 / 12) 10)) (f' := va_up _ 25 (.inl (0, 15, .inl (upd (upd (upd (upd (upd (upd (upd (upd (upd (upd (upd (upd (fun _ => 0) 0 (u_md (2000 + 0 / 12) 0)) 1 (u_md (2000 + 1 / 12) 1)) 2 (u_md (2000 + 2 / 12) 2)) 3 (u_md (2000 + 3 / 12) 3)) 4 (u_md (2000 + 4 / 12) 4)) 5 (u_md (2000 + 5 / 12) 5)) 6 (u_md (2000 + 6 / 12) 6)) 7 (u_md (2000 + 7 / 12) 7)) 8 (u_md (2000 + 8 / 12) 8)) 9 (u_md (2000 + 9 / 12) 9)) 10 (u_md (2000 + 10 / 12) 10)) 11 (u_md (2000 + 11 / 12) 11))))) (pc := 165) d_bf_init_165 (by decide) (by decide) rfl (by decide) (by decide) rfl ?_
  refine qr_iinc (v := 12) (lv' := [(1, .int 12), (0, .ref 0)]) (pc := 166) d_bf_init_166 rfl (by decide) (Nat.le_of_ble_eq_true rfl) rfl ?_
  refine qr_goto (tgt := 150) (pc := 169) d_bf_init_169 (by decide) ?_
  refine qr_iload_n (pc := 150) d_bf_init_150 rfl rfl ?_
  refine qr_bipush (v := 14) (pc := 151) d_bf_init_151 (by decide) ?_
  refine qr_icmp_gt (tgt := 172) (pc := 153) d_bf_init_153 (by decide) (fun h => absurd h (by decide)) (fun _ => ?_)
  refine qr_aload_n (pc := 156) d_bf_init_156 rfl rfl ?_
  refine qr_get (v := .ref 25) (fs := [.ref 1, .ref 7, .ref 8, .ref 9, .ref 14, .ref 20, .ref 25, .ref 26, .ref 27, .int 0, .long 0]) (pc := 157) d_bf_init_157 fl_bf_49 (by decide) (by decide) rfl rfl ?_
  refine qr_iload_n (pc := 160) d_bf_init_160 rfl rfl ?_
  refine qr_iload_n (pc := 161) d_bf_init_161 rfl rfl ?_
  refine qr_callS (As := [.int 12]) (pc := 162) d_bf_init_162 lk_bf_70 sm_al_firstDayOf (s_al_firstDayOf _ false _ _ 12 0 (by decide) (by decide)) rfl rfl (Nat.le_of_ble_eq_true rfl) (Nat.le_of_ble_eq_true rfl) (Nat.le_of_ble_eq_true rfl) (Nat.le_of_ble_eq_true rfl) (Nat.le_of_ble_eq_true rfl) (fun h => nomatch h) (fun v n9 f9 hE => ?_)
  obtain ⟨rfl, rfl, rfl⟩ := hE
  refine qr_iastN (j := 12) (g := upd (upd (upd (upd (upd (upd (upd (upd (upd (upd (upd (upd (fun _ => 0) 0 (u_md (2000 + 0 / 12) 0)) 1 (u_md (2000 + 1 / 12) 1)) 2 (u_md (2000 + 2 / 12) 2)) 3 (u_md (2000 + 3 / 12) 3)) 4 (u_md (2000 + 4 / 12) 4)) 5 (u_md (2000 + 5 / 12) 5)) 6 (u_md (2000 + 6 / 12) 6)) 7 (u_md (2000 + 7 / 12) 7)) 8 (u_md (2000 + 8 / 12) 8)) 9 (u_md (2000 + 9 / 12) 9)) 10 (u_md (2000 + 10 / 12) 10)) 11 (u_md (2000 + 11 / 12) 11)) (f' := va_up _ 25 (.inl (0, 15, .inl (upd (upd (upd (upd (upd (upd (upd (upd (upd (upd (upd (upd (upd (fun _ => 0) 0 (u_md (2000 + 0 / 12) 0)) 1 (u_md (2000 + 1 / 12) 1)) 2 (u_md (2000 + 2 / 12) 2)) 3 (u_md (2000 + 3 / 12) 3)) 4 (u_md (2000 + 4 / 12) 4)) 5 (u_md (2000 + 5 / 12) 5)) 6 (u_md (2000 + 6 / 12) 6)) 7 (u_md (2000 + 7 / 12) 7)) 8 (u_md (2000 + 8 / 12) 8)) 9 (u_md (2000 + 9 / 12) 9)) 10 (u_md (2000 + 10 / 12) 10)) 11 (u_md (2000 + 11 / 12) 11)) 12 (u_md (2000 + 12 / 12) 0))))) (pc := 165) d_bf_init_165 (by decide) (by decide) rfl (by decide) (by decide) rfl ?_
  refine qr_iinc (v := 13) (lv' := [(1, .int 13), (0, .ref 0)]) (pc := 166) d_bf_init_166 rfl (by decide) (Nat.le_of_ble_eq_true rfl) rfl ?_
  refine qr_goto (tgt := 150) (pc := 169) d_bf_init_169 (by decide) ?_
  refine qr_iload_n (pc := 150) d_bf_init_150 rfl rfl ?_
  refine qr_bipush (v := 14) (pc := 151) d_bf_init_151 (by decide) ?_
  refine qr_icmp_gt (tgt := 172) (pc := 153) d_bf_init_153 (by decide) (fun h => absurd h (by decide)) (fun _ => ?_)
  refine qr_aload_n (pc := 156) d_bf_init_156 rfl rfl ?_
  refine qr_get (v := .ref 25) (fs := [.ref 1, .ref 7, .ref 8, .ref 9, .ref 14, .ref 20, .ref 25, .ref 26, .ref 27, .int 0, .long 0]) (pc := 157) d_bf_init_157 fl_bf_49 (by decide) (by decide) rfl rfl ?_
  refine qr_iload_n (pc := 160) d_bf_init_160 rfl rfl ?_
  refine qr_iload_n (pc := 161) d_bf_init_161 rfl rfl ?_
  refine qr_callS (As := [.int 13]) (pc := 162) d_bf_init_162 lk_bf_70 sm_al_firstDayOf (s_al_firstDayOf _ false _ _ 13 1 (by decide) (by decide)) rfl rfl (Nat.le_of_ble_eq_true rfl) (Nat.le_of_ble_eq_true rfl) (Nat.le_of_ble_eq_true rfl) (Nat.le_of_ble_eq_true rfl) (Nat.le_of_ble_eq_true rfl) (fun h => nomatch h) (fun v n9 f9 hE => ?_)
  obtain ⟨rfl, rfl, rfl⟩ := hE
  refine qr_iastN (j := 13) (g := upd (upd (upd (upd (upd (upd (upd (upd (upd (upd (upd (upd (upd (fun _ => 0) 0 (u_md (2000 + 0 / 12) 0)) 1 (u_md (2000 + 1 / 12) 1)) 2 (u_md (2000 + 2 / 12) 2)) 3 (u_md (2000 + 3 / 12) 3)) 4 (u_md (2000 + 4 / 12) 4)) 5 (u_md (2000 + 5 / 12) 5)) 6 (u_md (2000 + 6 / 12) 6)) 7 (u_md (2000 + 7 / 12) 7)) 8 (u_md (2000 + 8 / 12) 8)) 9 (u_md (2000 + 9 / 12) 9)) 10 (u_md (2000 + 10 / 12) 10)) 11 (u_md (2000 + 11 / 12) 11)) 12 (u_md (2000 + 12 / 12) 0)) (f' := va_up _ 25 (.inl (0, 15, .inl (upd (upd (upd (upd (upd (upd (upd (upd (upd (upd (upd (upd (upd (upd (fun _ => 0) 0 (u_md (2000 + 0 / 12) 0)) 1 (u_md (2000 + 1 / 12) 1)) 2 (u_md (2000 + 2 / 12) 2)) 3 (u_md (2000 + 3 / 12) 3)) 4 (u_md (2000 + 4 / 12) 4)) 5 (u_md (2000 + 5 / 12) 5)) 6 (u_md (2000 + 6 / 12) 6)) 7 (u_md (2000 + 7 / 12) 7)) 8 (u_md (2000 + 8 / 12) 8)) 9 (u_md (2000 + 9 / 12) 9)) 10 (u_md (2000 + 10 / 12) 10)) 11 (u_md (2000 + 11 / 12) 11)) 12 (u_md (2000 + 12 / 12) 0)) 13 (u_md (2000 + 13 / 12) 1))))) (pc := 165) d_bf_init_165 (by decide) (by decide) rfl (by decide) (by decide) rfl ?_
  refine qr_iinc (v := 14) (lv' := [(1, .int 14), (0, .ref 0)]) (pc := 166) d_bf_init_166 rfl (by decide) (Nat.le_of_ble_eq_true rfl) rfl ?_
  refine qr_goto (tgt := 150) (pc := 169) d_bf_init_169 (by decide) ?_
  refine qr_iload_n (pc := 150) d_bf_init_150 rfl rfl ?_
  refine qr_bipush (v := 14) (pc := 151) d_bf_init_151 (by decide) ?_
  refine qr_icmp_gt (tgt := 172) (pc := 153) d_bf_init_153 (by decide) (fun h => absurd h (by decide)) (fun _ => ?_)
  refine qr_aload_n (pc := 156) d_bf_init_156 rfl rfl ?_
  refine qr_get (v := .ref 25) (fs := [.ref 1, .ref 7, .ref 8, .ref 9, .ref 14, .ref 20, .ref 25, .ref 26, .ref 27, .int 0, .long 0]) (pc := 157) d_bf_init_157 fl_bf_49 (by decide) (by decide) rfl rfl ?_
  refine qr_iload_n (pc := 160) d_bf_init_160 rfl rfl ?_
  refine qr_iload_n (pc := 161) d_bf_init_161 rfl rfl ?_
  refine qr_callS (As := [.int 14]) (pc := 162) d_bf_init_162 lk_bf_70 sm_al_firstDayOf (s_al_firstDayOf _ false _ _ 14 2 (by decide) (by decide)) rfl rfl (Nat.le_of_ble_eq_true rfl) (Nat.le_of_ble_eq_true rfl) (Nat.le_of_ble_eq_true rfl) (Nat.le_of_ble_eq_true rfl) (Nat.le_of_ble_eq_true rfl) (fun h => nomatch h) (fun v n9 f9 hE => ?_)
  obtain ⟨rfl, rfl, rfl⟩ := hE
  refine qr_iastN (j := 14) (g := upd (upd (upd (upd (upd (upd (upd (upd (upd (upd (upd (upd (upd (upd (fun _ => 0) 0 (u_md (2000 + 0 / 12) 0)) 1 (u_md (2000 + 1 / 12) 1)) 2 (u_md (2000 + 2 / 12) 2)) 3 (u_md (2000 + 3 / 12) 3)) 4 (u_md (2000 + 4 / 12) 4)) 5 (u_md (2000 + 5 / 12) 5)) 6 (u_md (2000 + 6 / 12) 6)) 7 (u_md (2000 + 7 / 12) 7)) 8 (u_md (2000 + 8 / 12) 8)) 9 (u_md (2000 + 9 / 12) 9)) 10 (u_md (2000 + 10 / 12) 10)) 11 (u_md (2000 + 11 / 12) 11)) 12 (u_md (2000 + 12 / 12) 0)) 13 (u_md (2000 + 13 / 12) 1)) (f' := va_up _ 25 (.inl (0, 15, .inl (upd (upd (upd (upd (upd (upd (upd (upd (upd (upd (upd (upd (upd (upd (upd (fun _ => 0) 0 (u_md (2000 + 0 / 12) 0)) 1 (u_md (2000 + 1 / 12) 1)) 2 (u_md (2000 + 2 / 12) 2)) 3 (u_md (2000 + 3 / 12) 3)) 4 (u_md (2000 + 4 / 12) 4)) 5 (u_md (2000 + 5 / 12) 5)) 6 (u_md (2000 + 6 / 12) 6)) 7 (u_md (2000 + 7 / 12) 7)) 8 (u_md (2000 + 8 / 12) 8)) 9 (u_md (2000 + 9 / 12) 9)) 10 (u_md (2000 + 10 / 12) 10)) 11 (u_md (2000 + 11 / 12) 11)) 12 (u_md (2000 + 12 / 12) 0)) 13 (u_md (2000 + 13 / 12) 1)) 14 (u_md (2000 + 14 / 12) 2))))) (pc := 165) d_bf_init_165 (by decide) (by decide) rfl (by decide) (by decide) rfl ?_
  refine qr_iinc (v := 15) (lv' := [(1, .int 15), (0, .ref 0)]) (pc := 166) d_bf_init_166 rfl (by decide) (Nat.le_of_ble_eq_true rfl) rfl ?_
  refine qr_goto (tgt := 150) (pc := 169) d_bf_init_169 (by decide) ?_
  refine qr_iload_n (pc := 150) d_bf_init_150 rfl rfl ?_
  refine qr_bipush (v := 14) (pc := 151) d_bf_init_151 (by decide) ?_
  refine qr_icmp_gt (tgt := 172) (pc := 153) d_bf_init_153 (by decide) (fun _ => ?_) (fun h => absurd h (by decide))
  refine qr_vret (pc := 172) d_bf_init_172 rfl ⟨rfl, rfl, ?_⟩ (Nat.le_of_ble_eq_true rfl) (Nat.le_of_ble_eq_true rfl)
  · intro k h1 h2
    match k, h1, h2 with
    | 0, _, _ => exact rfl
    | 1, _, _ => exact rfl
    | 2, _, _ => exact rfl
    | 3, _, _ => exact rfl
    | 4, _, _ => exact rfl
    | 5, _, _ => exact rfl
    | 6, _, _ => exact rfl
    | 7, _, _ => exact congrArg (fun g => (.inl (5, 3, .inr (.inr (.inr (.inr g)))) : va_E)) rw_7
    | 8, _, _ => exact congrArg (fun g => (.inl (6, 5, .inr (.inr (.inr (.inr g)))) : va_E)) rw_8
    | 9, _, _ => exact rfl
    | 10, _, _ => exact rfl
    | 11, _, _ => exact rfl
    | 12, _, _ => exact rfl
    | 13, _, _ => exact rfl
    | 14, _, _ => exact rfl
    | 15, _, _ => exact rfl
    | 16, _, _ => exact rfl
    | 17, _, _ => exact rfl
    | 18, _, _ => exact rfl
    | 19, _, _ => exact rfl
    | 20, _, _ => exact rfl
    | 21, _, _ => exact rfl
    | 22, _, _ => exact rfl
    | 23, _, _ => exact rfl
    | 24, _, _ => exact rfl
    | 25, _, _ => exact rfl
    | 26, _, _ => exact rfl
    | 27, _, _ => exact rfl
    | 28, _, _ => exact rfl
    | 29, _, _ => exact rfl
    | 30, _, _ => exact rfl
    | 31, _, _ => exact rfl
    | 32, _, _ => exact rfl
    | 33, _, _ => exact rfl
    | 34, _, _ => exact rfl
    | 35, _, _ => exact rfl
    | 36, _, _ => exact rfl
    | 37, _, _ => exact rfl
    | 38, _, _ => exact rfl
    | 39, _, _ => exact rfl
    | 40, _, _ => exact rfl
    | 41, _, _ => exact rfl
    | 42, _, _ => exact rfl
    | 43, _, _ => exact rfl
    | 44, _, _ => exact rfl
    | 45, _, _ => exact rfl
    | 46, _, _ => exact rfl
    | k + 47, _, h => exact absurd h (by omega)
set_option maxRecDepth 100000 in
set_option maxHeartbeats 4000000 in
theorem s_md_init (l : Launch) (f : Nat → va_E) (hf : f 47 = .inr (7, [.int 0, .int 0, .int 0, .null, .int 0, .null, .null, .null, .null, .null, .null, .null, .null, .null, .null, .null, .null, .null, .null, .null, .null, .null, .null, .int 0, .null, .null, .null, .null, .null, .int 0, .null, .null, .null, .null, .int 0, .long 0, .int 0, .int 0, .int 0])) : qSp l y_md_init b_md_init 1 none true 1 28 2755 [.ref 47] 48 f (fun v n' f' => none = v ∧ 76 = n' ∧ (∀ k, k < 47 → f' k = f k) ∧ ∀ k, 47 ≤ k → k < 76 → f' k = fm I0 L0 k) := by
  refine qSp_of (ini := true) (by decide +kernel) (fun _ => rfl) (Nat.le_of_ble_eq_true rfl) ?_
  refine qr_aload_n (pc := 0) d_md_init_0 rfl rfl ?_
  refine qr_obj (pc := 1) d_md_init_1 lk_md_1 oi_im oi_co (Nat.le_of_ble_eq_true rfl) (Nat.le_of_ble_eq_true rfl) ?_
  refine qr_aload_n (pc := 4) d_md_init_4 rfl rfl ?_
  refine qr_bipush (v := (-2)) (pc := 5) d_md_init_5 (by decide) ?_
  refine qr_put (fs := [.int 0, .int 0, .int 0, .null, .int 0, .null, .null, .null, .null, .null, .null, .null, .null, .null, .null, .null, .null, .null, .null, .null, .null, .null, .null, .int 0, .null, .null, .null, .null, .null, .int 0, .null, .null, .null, .null, .int 0, .long 0, .int 0, .int 0, .int 0]) (f' := va_up _ 47 (.inr (7, [.int 0, .int (-2), .int 0, .null, .int 0, .null, .null, .null, .null, .null, .null, .null, .null, .null, .null, .null, .null, .null, .null, .null, .null, .null, .null, .int 0, .null, .null, .null, .null, .null, .int 0, .null, .null, .null, .null, .int 0, .long 0, .int 0, .int 0, .int 0]))) (pc := 7) d_md_init_7 fl_md_7 (by decide) (by decide) hf (by decide) (fun z ex => ⟨rfl, rfl⟩) rfl ?_
  refine qr_aload_n (pc := 10) d_md_init_10 rfl rfl ?_
  refine qr_bipush (v := 60) (pc := 11) d_md_init_11 (by decide) ?_
  refine qr_newa (t := 0) (len := 60) (ty9 := .int) (a := (60, .inl (fun _ => 0))) (pc := 13) d_md_init_13 rfl rfl ac_int (by decide) (by decide) (by decide) (fun Cn h => nomatch h) (fun cA => rfl) (fun z ex => rfl) ⟨rfl, rfl⟩ (by decide) (Nat.le_of_ble_eq_true rfl) (Nat.le_of_ble_eq_true rfl) ?_
  refine qr_putF (fs := [.int 0, .int (-2), .int 0, .null, .int 0, .null, .null, .null, .null, .null, .null, .null, .null, .null, .null, .null, .null, .null, .null, .null, .null, .null, .null, .int 0, .null, .null, .null, .null, .null, .int 0, .null, .null, .null, .null, .int 0, .long 0, .int 0, .int 0, .int 0]) (f' := va_up _ 47 (.inr (7, [.int 0, .int (-2), .int 0, .ref 48, .int 0, .null, .null, .null, .null, .null, .null, .null, .null, .null, .null, .null, .null, .null, .null, .null, .null, .null, .null, .int 0, .null, .null, .null, .null, .null, .int 0, .null, .null, .null, .null, .int 0, .long 0, .int 0, .int 0, .int 0]))) (pc := 15) d_md_init_15 fl_md_13 ⟨rfl, rfl⟩ (by decide) (by decide) rfl (by decide) (fun z ex => ⟨rfl, rfl⟩) rfl ?_
  refine qr_aload_n (pc := 18) d_md_init_18 rfl rfl ?_
  refine qr_iconst (v := 4) (pc := 19) d_md_init_19 (by decide) ?_
  refine qr_newa (t := 0) (len := 4) (ty9 := .int) (a := (4, .inl (fun _ => 0))) (pc := 20) d_md_init_20 rfl rfl ac_int (by decide) (by decide) (by decide) (fun Cn h => nomatch h) (fun cA => rfl) (fun z ex => rfl) ⟨rfl, rfl⟩ (by decide) (Nat.le_of_ble_eq_true rfl) (Nat.le_of_ble_eq_true rfl) ?_
  refine qr_putF (fs := [.int 0, .int (-2), .int 0, .ref 48, .int 0, .null, .null, .null, .null, .null, .null, .null, .null, .null, .null, .null, .null, .null, .null, .null, .null, .null, .null, .int 0, .null, .null, .null, .null, .null, .int 0, .null, .null, .null, .null, .int 0, .long 0, .int 0, .int 0, .int 0]) (f' := va_up _ 47 (.inr (7, [.int 0, .int (-2), .int 0, .ref 48, .int 0, .ref 49, .null, .null, .null, .null, .null, .null, .null, .null, .null, .null, .null, .null, .null, .null, .null, .null, .null, .int 0, .null, .null, .null, .null, .null, .int 0, .null, .null, .null, .null, .int 0, .long 0, .int 0, .int 0, .int 0]))) (pc := 22) d_md_init_22 fl_md_17 ⟨rfl, rfl⟩ (by decide) (by decide) rfl (by decide) (fun z ex => ⟨rfl, rfl⟩) rfl ?_
  refine qr_aload_n (pc := 25) d_md_init_25 rfl rfl ?_
  refine qr_iconst (v := 4) (pc := 26) d_md_init_26 (by decide) ?_
  refine qr_newa (t := 0) (len := 4) (ty9 := .int) (a := (4, .inl (fun _ => 0))) (pc := 27) d_md_init_27 rfl rfl ac_int (by decide) (by decide) (by decide) (fun Cn h => nomatch h) (fun cA => rfl) (fun z ex => rfl) ⟨rfl, rfl⟩ (by decide) (Nat.le_of_ble_eq_true rfl) (Nat.le_of_ble_eq_true rfl) ?_
  refine qr_putF (fs := [.int 0, .int (-2), .int 0, .ref 48, .int 0, .ref 49, .null, .null, .null, .null, .null, .null, .null, .null, .null, .null, .null, .null, .null, .null, .null, .null, .null, .int 0, .null, .null, .null, .null, .null, .int 0, .null, .null, .null, .null, .int 0, .long 0, .int 0, .int 0, .int 0]) (f' := va_up _ 47 (.inr (7, [.int 0, .int (-2), .int 0, .ref 48, .int 0, .ref 49, .ref 50, .null, .null, .null, .null, .null, .null, .null, .null, .null, .null, .null, .null, .null, .null, .null, .null, .int 0, .null, .null, .null, .null, .null, .int 0, .null, .null, .null, .null, .int 0, .long 0, .int 0, .int 0, .int 0]))) (pc := 29) d_md_init_29 fl_md_20 ⟨rfl, rfl⟩ (by decide) (by decide) rfl (by decide) (fun z ex => ⟨rfl, rfl⟩) rfl ?_
  refine qr_aload_n (pc := 32) d_md_init_32 rfl rfl ?_
  refine qr_iconst (v := 4) (pc := 33) d_md_init_33 (by decide) ?_
  refine qr_newa (t := 0) (len := 4) (ty9 := .int) (a := (4, .inl (fun _ => 0))) (pc := 34) d_md_init_34 rfl rfl ac_int (by decide) (by decide) (by decide) (fun Cn h => nomatch h) (fun cA => rfl) (fun z ex => rfl) ⟨rfl, rfl⟩ (by decide) (Nat.le_of_ble_eq_true rfl) (Nat.le_of_ble_eq_true rfl) ?_
  refine qr_putF (fs := [.int 0, .int (-2), .int 0, .ref 48, .int 0, .ref 49, .ref 50, .null, .null, .null, .null, .null, .null, .null, .null, .null, .null, .null, .null, .null, .null, .null, .null, .int 0, .null, .null, .null, .null, .null, .int 0, .null, .null, .null, .null, .int 0, .long 0, .int 0, .int 0, .int 0]) (f' := va_up _ 47 (.inr (7, [.int 0, .int (-2), .int 0, .ref 48, .int 0, .ref 49, .ref 50, .ref 51, .null, .null, .null, .null, .null, .null, .null, .null, .null, .null, .null, .null, .null, .null, .null, .int 0, .null, .null, .null, .null, .null, .int 0, .null, .null, .null, .null, .int 0, .long 0, .int 0, .int 0, .int 0]))) (pc := 36) d_md_init_36 fl_md_23 ⟨rfl, rfl⟩ (by decide) (by decide) rfl (by decide) (fun z ex => ⟨rfl, rfl⟩) rfl ?_
  refine qr_aload_n (pc := 39) d_md_init_39 rfl rfl ?_
  refine qr_iconst (v := 4) (pc := 40) d_md_init_40 (by decide) ?_
  refine qr_newa (t := 0) (len := 4) (ty9 := .int) (a := (4, .inl (fun _ => 0))) (pc := 41) d_md_init_41 rfl rfl ac_int (by decide) (by decide) (by decide) (fun Cn h => nomatch h) (fun cA => rfl) (fun z ex => rfl) ⟨rfl, rfl⟩ (by decide) (Nat.le_of_ble_eq_true rfl) (Nat.le_of_ble_eq_true rfl) ?_
  refine qr_putF (fs := [.int 0, .int (-2), .int 0, .ref 48, .int 0, .ref 49, .ref 50, .ref 51, .null, .null, .null, .null, .null, .null, .null, .null, .null, .null, .null, .null, .null, .null, .null, .int 0, .null, .null, .null, .null, .null, .int 0, .null, .null, .null, .null, .int 0, .long 0, .int 0, .int 0, .int 0]) (f' := va_up _ 47 (.inr (7, [.int 0, .int (-2), .int 0, .ref 48, .int 0, .ref 49, .ref 50, .ref 51, .ref 52, .null, .null, .null, .null, .null, .null, .null, .null, .null, .null, .null, .null, .null, .null, .int 0, .null, .null, .null, .null, .null, .int 0, .null, .null, .null, .null, .int 0, .long 0, .int 0, .int 0, .int 0]))) (pc := 43) d_md_init_43 fl_md_26 ⟨rfl, rfl⟩ (by decide) (by decide) rfl (by decide) (fun z ex => ⟨rfl, rfl⟩) rfl ?_
  refine qr_aload_n (pc := 46) d_md_init_46 rfl rfl ?_
  refine qr_iconst (v := 4) (pc := 47) d_md_init_47 (by decide) ?_
  refine qr_newa (t := 0) (len := 4) (ty9 := .int) (a := (4, .inl (fun _ => 0))) (pc := 48) d_md_init_48 rfl rfl ac_int (by decide) (by decide) (by decide) (fun Cn h => nomatch h) (fun cA => rfl) (fun z ex => rfl) ⟨rfl, rfl⟩ (by decide) (Nat.le_of_ble_eq_true rfl) (Nat.le_of_ble_eq_true rfl) ?_
  refine qr_putF (fs := [.int 0, .int (-2), .int 0, .ref 48, .int 0, .ref 49, .ref 50, .ref 51, .ref 52, .null, .null, .null, .null, .null, .null, .null, .null, .null, .null, .null, .null, .null, .null, .int 0, .null, .null, .null, .null, .null, .int 0, .null, .null, .null, .null, .int 0, .long 0, .int 0, .int 0, .int 0]) (f' := va_up _ 47 (.inr (7, [.int 0, .int (-2), .int 0, .ref 48, .int 0, .ref 49, .ref 50, .ref 51, .ref 52, .ref 53, .null, .null, .null, .null, .null, .null, .null, .null, .null, .null, .null, .null, .null, .int 0, .null, .null, .null, .null, .null, .int 0, .null, .null, .null, .null, .int 0, .long 0, .int 0, .int 0, .int 0]))) (pc := 50) d_md_init_50 fl_md_29 ⟨rfl, rfl⟩ (by decide) (by decide) rfl (by decide) (fun z ex => ⟨rfl, rfl⟩) rfl ?_
  refine qr_aload_n (pc := 53) d_md_init_53 rfl rfl ?_
  refine qr_iconst (v := 4) (pc := 54) d_md_init_54 (by decide) ?_
  refine qr_newa (t := 0) (len := 4) (ty9 := .int) (a := (4, .inl (fun _ => 0))) (pc := 55) d_md_init_55 rfl rfl ac_int (by decide) (by decide) (by decide) (fun Cn h => nomatch h) (fun cA => rfl) (fun z ex => rfl) ⟨rfl, rfl⟩ (by decide) (Nat.le_of_ble_eq_true rfl) (Nat.le_of_ble_eq_true rfl) ?_
  refine qr_putF (fs := [.int 0, .int (-2), .int 0, .ref 48, .int 0, .ref 49, .ref 50, .ref 51, .ref 52, .ref 53, .null, .null, .null, .null, .null, .null, .null, .null, .null, .null, .null, .null, .null, .int 0, .null, .null, .null, .null, .null, .int 0, .null, .null, .null, .null, .int 0, .long 0, .int 0, .int 0, .int 0]) (f' := va_up _ 47 (.inr (7, [.int 0, .int (-2), .int 0, .ref 48, .int 0, .ref 49, .ref 50, .ref 51, .ref 52, .ref 53, .ref 54, .null, .null, .null, .null, .null, .null, .null, .null, .null, .null, .null, .null, .int 0, .null, .null, .null, .null, .null, .int 0, .null, .null, .null, .null, .int 0, .long 0, .int 0, .int 0, .int 0]))) (pc := 57) d_md_init_57 fl_md_32 ⟨rfl, rfl⟩ (by decide) (by decide) rfl (by decide) (fun z ex => ⟨rfl, rfl⟩) rfl ?_
  refine qr_aload_n (pc := 60) d_md_init_60 rfl rfl ?_
  refine qr_iconst (v := 4) (pc := 61) d_md_init_61 (by decide) ?_
  refine qr_newa (t := 0) (len := 4) (ty9 := .int) (a := (4, .inl (fun _ => 0))) (pc := 62) d_md_init_62 rfl rfl ac_int (by decide) (by decide) (by decide) (fun Cn h => nomatch h) (fun cA => rfl) (fun z ex => rfl) ⟨rfl, rfl⟩ (by decide) (Nat.le_of_ble_eq_true rfl) (Nat.le_of_ble_eq_true rfl) ?_
  refine qr_putF (fs := [.int 0, .int (-2), .int 0, .ref 48, .int 0, .ref 49, .ref 50, .ref 51, .ref 52, .ref 53, .ref 54, .null, .null, .null, .null, .null, .null, .null, .null, .null, .null, .null, .null, .int 0, .null, .null, .null, .null, .null, .int 0, .null, .null, .null, .null, .int 0, .long 0, .int 0, .int 0, .int 0]) (f' := va_up _ 47 (.inr (7, [.int 0, .int (-2), .int 0, .ref 48, .int 0, .ref 49, .ref 50, .ref 51, .ref 52, .ref 53, .ref 54, .ref 55, .null, .null, .null, .null, .null, .null, .null, .null, .null, .null, .null, .int 0, .null, .null, .null, .null, .null, .int 0, .null, .null, .null, .null, .int 0, .long 0, .int 0, .int 0, .int 0]))) (pc := 64) d_md_init_64 fl_md_35 ⟨rfl, rfl⟩ (by decide) (by decide) rfl (by decide) (fun z ex => ⟨rfl, rfl⟩) rfl ?_
  refine qr_aload_n (pc := 67) d_md_init_67 rfl rfl ?_
  refine qr_bipush (v := 16) (pc := 68) d_md_init_68 (by decide) ?_
  refine qr_newa (t := 0) (len := 16) (ty9 := .int) (a := (16, .inl (fun _ => 0))) (pc := 70) d_md_init_70 rfl rfl ac_int (by decide) (by decide) (by decide) (fun Cn h => nomatch h) (fun cA => rfl) (fun z ex => rfl) ⟨rfl, rfl⟩ (by decide) (Nat.le_of_ble_eq_true rfl) (Nat.le_of_ble_eq_true rfl) ?_
  refine qr_putF (fs := [.int 0, .int (-2), .int 0, .ref 48, .int 0, .ref 49, .ref 50, .ref 51, .ref 52, .ref 53, .ref 54, .ref 55, .null, .null, .null, .null, .null, .null, .null, .null, .null, .null, .null, .int 0, .null, .null, .null, .null, .null, .int 0, .null, .null, .null, .null, .int 0, .long 0, .int 0, .int 0, .int 0]) (f' := va_up _ 47 (.inr (7, [.int 0, .int (-2), .int 0, .ref 48, .int 0, .ref 49, .ref 50, .ref 51, .ref 52, .ref 53, .ref 54, .ref 55, .ref 56, .null, .null, .null, .null, .null, .null, .null, .null, .null, .null, .int 0, .null, .null, .null, .null, .null, .int 0, .null, .null, .null, .null, .int 0, .long 0, .int 0, .int 0, .int 0]))) (pc := 72) d_md_init_72 fl_md_38 ⟨rfl, rfl⟩ (by decide) (by decide) rfl (by decide) (fun z ex => ⟨rfl, rfl⟩) rfl ?_
  refine qr_aload_n (pc := 75) d_md_init_75 rfl rfl ?_
  refine qr_bipush (v := 16) (pc := 76) d_md_init_76 (by decide) ?_
  refine qr_newa (t := 0) (len := 16) (ty9 := .int) (a := (16, .inl (fun _ => 0))) (pc := 78) d_md_init_78 rfl rfl ac_int (by decide) (by decide) (by decide) (fun Cn h => nomatch h) (fun cA => rfl) (fun z ex => rfl) ⟨rfl, rfl⟩ (by decide) (Nat.le_of_ble_eq_true rfl) (Nat.le_of_ble_eq_true rfl) ?_
  refine qr_putF (fs := [.int 0, .int (-2), .int 0, .ref 48, .int 0, .ref 49, .ref 50, .ref 51, .ref 52, .ref 53, .ref 54, .ref 55, .ref 56, .null, .null, .null, .null, .null, .null, .null, .null, .null, .null, .int 0, .null, .null, .null, .null, .null, .int 0, .null, .null, .null, .null, .int 0, .long 0, .int 0, .int 0, .int 0]) (f' := va_up _ 47 (.inr (7, [.int 0, .int (-2), .int 0, .ref 48, .int 0, .ref 49, .ref 50, .ref 51, .ref 52, .ref 53, .ref 54, .ref 55, .ref 56, .ref 57, .null, .null, .null, .null, .null, .null, .null, .null, .null, .int 0, .null, .null, .null, .null, .null, .int 0, .null, .null, .null, .null, .int 0, .long 0, .int 0, .int 0, .int 0]))) (pc := 80) d_md_init_80 fl_md_41 ⟨rfl, rfl⟩ (by decide) (by decide) rfl (by decide) (fun z ex => ⟨rfl, rfl⟩) rfl ?_
  refine qr_aload_n (pc := 83) d_md_init_83 rfl rfl ?_
  refine qr_iconst (v := 5) (pc := 84) d_md_init_84 (by decide) ?_
  refine qr_newa (t := 0) (len := 5) (ty9 := .int) (a := (5, .inl (fun _ => 0))) (pc := 85) d_md_init_85 rfl rfl ac_int (by decide) (by decide) (by decide) (fun Cn h => nomatch h) (fun cA => rfl) (fun z ex => rfl) ⟨rfl, rfl⟩ (by decide) (Nat.le_of_ble_eq_true rfl) (Nat.le_of_ble_eq_true rfl) ?_
  refine qr_dup (pc := 87) d_md_init_87 rfl ?_
  refine qr_iconst (v := 0) (pc := 88) d_md_init_88 (by decide) ?_
  refine qr_iconst (v := (-1)) (pc := 89) d_md_init_89 (by decide) ?_
  refine qr_iastN (j := 0) (g := (fun _ => 0)) (f' := va_up _ 58 (.inl (0, 5, .inl (upd (fun _ => 0) 0 (-1))))) (pc := 90) d_md_init_90 (by decide) (by decide) rfl (by decide) (by decide) rfl ?_
  refine qr_dup (pc := 91) d_md_init_91 rfl ?_
  refine qr_iconst (v := 1) (pc := 92) d_md_init_92 (by decide) ?_
  refine qr_iconst (v := (-1)) (pc := 93) d_md_init_93 (by decide) ?_
  refine qr_iastN (j := 1) (g := upd (fun _ => 0) 0 (-1)) (f' := va_up _ 58 (.inl (0, 5, .inl (upd (upd (fun _ => 0) 0 (-1)) 1 (-1))))) (pc := 94) d_md_init_94 (by decide) (by decide) rfl (by decide) (by decide) rfl ?_
  refine qr_dup (pc := 95) d_md_init_95 rfl ?_
  refine qr_iconst (v := 2) (pc := 96) d_md_init_96 (by decide) ?_
  refine qr_iconst (v := (-1)) (pc := 97) d_md_init_97 (by decide) ?_
  refine qr_iastN (j := 2) (g := upd (upd (fun _ => 0) 0 (-1)) 1 (-1)) (f' := va_up _ 58 (.inl (0, 5, .inl (upd (upd (upd (fun _ => 0) 0 (-1)) 1 (-1)) 2 (-1))))) (pc := 98) d_md_init_98 (by decide) (by decide) rfl (by decide) (by decide) rfl ?_
  refine qr_dup (pc := 99) d_md_init_99 rfl ?_
  refine qr_iconst (v := 3) (pc := 100) d_md_init_100 (by decide) ?_
  refine qr_iconst (v := (-1)) (pc := 101) d_md_init_101 (by decide) ?_
  refine qr_iastN (j := 3) (g := upd (upd (upd (fun _ => 0) 0 (-1)) 1 (-1)) 2 (-1)) (f' := va_up _ 58 (.inl (0, 5, .inl (upd (upd (upd (upd (fun _ => 0) 0 (-1)) 1 (-1)) 2 (-1)) 3 (-1))))) (pc := 102) d_md_init_102 (by decide) (by decide) rfl (by decide) (by decide) rfl ?_
  refine qr_dup (pc := 103) d_md_init_103 rfl ?_
  refine qr_iconst (v := 4) (pc := 104) d_md_init_104 (by decide) ?_
  refine qr_iconst (v := (-1)) (pc := 105) d_md_init_105 (by decide) ?_
  refine qr_iastN (j := 4) (g := upd (upd (upd (upd (fun _ => 0) 0 (-1)) 1 (-1)) 2 (-1)) 3 (-1)) (f' := va_up _ 58 (.inl (0, 5, .inl (upd (upd (upd (upd (upd (fun _ => 0) 0 (-1)) 1 (-1)) 2 (-1)) 3 (-1)) 4 (-1))))) (pc := 106) d_md_init_106 (by decide) (by decide) rfl (by decide) (by decide) rfl ?_
  refine qr_putF (fs := [.int 0, .int (-2), .int 0, .ref 48, .int 0, .ref 49, .ref 50, .ref 51, .ref 52, .ref 53, .ref 54, .ref 55, .ref 56, .ref 57, .null, .null, .null, .null, .null, .null, .null, .null, .null, .int 0, .null, .null, .null, .null, .null, .int 0, .null, .null, .null, .null, .int 0, .long 0, .int 0, .int 0, .int 0]) (f' := va_up _ 47 (.inr (7, [.int 0, .int (-2), .int 0, .ref 48, .int 0, .ref 49, .ref 50, .ref 51, .ref 52, .ref 53, .ref 54, .ref 55, .ref 56, .ref 57, .ref 58, .null, .null, .null, .null, .null, .null, .null, .null, .int 0, .null, .null, .null, .null, .null, .int 0, .null, .null, .null, .null, .int 0, .long 0, .int 0, .int 0, .int 0]))) (pc := 107) d_md_init_107 fl_md_44 ⟨rfl, rfl⟩ (by decide) (by decide) rfl (by decide) (fun z ex => ⟨rfl, rfl⟩) rfl ?_
  refine qr_aload_n (pc := 110) d_md_init_110 rfl rfl ?_
  refine qr_iconst (v := 5) (pc := 111) d_md_init_111 (by decide) ?_
  refine qr_newa (t := 0) (len := 5) (ty9 := .int) (a := (5, .inl (fun _ => 0))) (pc := 112) d_md_init_112 rfl rfl ac_int (by decide) (by decide) (by decide) (fun Cn h => nomatch h) (fun cA => rfl) (fun z ex => rfl) ⟨rfl, rfl⟩ (by decide) (Nat.le_of_ble_eq_true rfl) (Nat.le_of_ble_eq_true rfl) ?_
  refine qr_putF (fs := [.int 0, .int (-2), .int 0, .ref 48, .int 0, .ref 49, .ref 50, .ref 51, .ref 52, .ref 53, .ref 54, .ref 55, .ref 56, .ref 57, .ref 58, .null, .null, .null, .null, .null, .null, .null, .null, .int 0, .null, .null, .null, .null, .null, .int 0, .null, .null, .null, .null, .int 0, .long 0, .int 0, .int 0, .int 0]) (f' := va_up _ 47 (.inr (7, [.int 0, .int (-2), .int 0, .ref 48, .int 0, .ref 49, .ref 50, .ref 51, .ref 52, .ref 53, .ref 54, .ref 55, .ref 56, .ref 57, .ref 58, .ref 59, .null, .null, .null, .null, .null, .null, .null, .int 0, .null, .null, .null, .null, .null, .int 0, .null, .null, .null, .null, .int 0, .long 0, .int 0, .int 0, .int 0]))) (pc := 114) d_md_init_114 fl_md_47 ⟨rfl, rfl⟩ (by decide) (by decide) rfl (by decide) (fun z ex => ⟨rfl, rfl⟩) rfl ?_
  refine qr_aload_n (pc := 117) d_md_init_117 rfl rfl ?_
  refine qr_iconst (v := 5) (pc := 118) d_md_init_118 (by decide) ?_
  refine qr_newa (t := 0) (len := 5) (ty9 := .int) (a := (5, .inl (fun _ => 0))) (pc := 119) d_md_init_119 rfl rfl ac_int (by decide) (by decide) (by decide) (fun Cn h => nomatch h) (fun cA => rfl) (fun z ex => rfl) ⟨rfl, rfl⟩ (by decide) (Nat.le_of_ble_eq_true rfl) (Nat.le_of_ble_eq_true rfl) ?_
  refine qr_putF (fs := [.int 0, .int (-2), .int 0, .ref 48, .int 0, .ref 49, .ref 50, .ref 51, .ref 52, .ref 53, .ref 54, .ref 55, .ref 56, .ref 57, .ref 58, .ref 59, .null, .null, .null, .null, .null, .null, .null, .int 0, .null, .null, .null, .null, .null, .int 0, .null, .null, .null, .null, .int 0, .long 0, .int 0, .int 0, .int 0]) (f' := va_up _ 47 (.inr (7, [.int 0, .int (-2), .int 0, .ref 48, .int 0, .ref 49, .ref 50, .ref 51, .ref 52, .ref 53, .ref 54, .ref 55, .ref 56, .ref 57, .ref 58, .ref 59, .ref 60, .null, .null, .null, .null, .null, .null, .int 0, .null, .null, .null, .null, .null, .int 0, .null, .null, .null, .null, .int 0, .long 0, .int 0, .int 0, .int 0]))) (pc := 121) d_md_init_121 fl_md_50 ⟨rfl, rfl⟩ (by decide) (by decide) rfl (by decide) (fun z ex => ⟨rfl, rfl⟩) rfl ?_
  refine qr_aload_n (pc := 124) d_md_init_124 rfl rfl ?_
  refine qr_iconst (v := 5) (pc := 125) d_md_init_125 (by decide) ?_
  refine qr_newa (t := 1) (len := 5) (ty9 := .long) (a := (5, .inr (.inl (fun _ => 0)))) (pc := 126) d_md_init_126 rfl rfl ac_long (by decide) (by decide) (by decide) (fun Cn h => nomatch h) (fun cA => rfl) (fun z ex => rfl) ⟨rfl, rfl⟩ (by decide) (Nat.le_of_ble_eq_true rfl) (Nat.le_of_ble_eq_true rfl) ?_
  refine qr_putF (fs := [.int 0, .int (-2), .int 0, .ref 48, .int 0, .ref 49, .ref 50, .ref 51, .ref 52, .ref 53, .ref 54, .ref 55, .ref 56, .ref 57, .ref 58, .ref 59, .ref 60, .null, .null, .null, .null, .null, .null, .int 0, .null, .null, .null, .null, .null, .int 0, .null, .null, .null, .null, .int 0, .long 0, .int 0, .int 0, .int 0]) (f' := va_up _ 47 (.inr (7, [.int 0, .int (-2), .int 0, .ref 48, .int 0, .ref 49, .ref 50, .ref 51, .ref 52, .ref 53, .ref 54, .ref 55, .ref 56, .ref 57, .ref 58, .ref 59, .ref 60, .ref 61, .null, .null, .null, .null, .null, .int 0, .null, .null, .null, .null, .null, .int 0, .null, .null, .null, .null, .int 0, .long 0, .int 0, .int 0, .int 0]))) (pc := 128) d_md_init_128 fl_md_53 ⟨rfl, rfl⟩ (by decide) (by decide) rfl (by decide) (fun z ex => ⟨rfl, rfl⟩) rfl ?_
  refine qr_aload_n (pc := 131) d_md_init_131 rfl rfl ?_
  refine qr_sipush (v := 2005) (pc := 132) d_md_init_132 (by decide) ?_
  refine qr_newa (t := 0) (len := 2005) (ty9 := .int) (a := (2005, .inl (fun _ => 0))) (pc := 135) d_md_init_135 rfl rfl ac_int (by decide) (by decide) (by decide) (fun Cn h => nomatch h) (fun cA => rfl) (fun z ex => rfl) ⟨rfl, rfl⟩ (by decide) (Nat.le_of_ble_eq_true rfl) (Nat.le_of_ble_eq_true rfl) ?_
  refine qr_putF (fs := [.int 0, .int (-2), .int 0, .ref 48, .int 0, .ref 49, .ref 50, .ref 51, .ref 52, .ref 53, .ref 54, .ref 55, .ref 56, .ref 57, .ref 58, .ref 59, .ref 60, .ref 61, .null, .null, .null, .null, .null, .int 0, .null, .null, .null, .null, .null, .int 0, .null, .null, .null, .null, .int 0, .long 0, .int 0, .int 0, .int 0]) (f' := va_up _ 47 (.inr (7, [.int 0, .int (-2), .int 0, .ref 48, .int 0, .ref 49, .ref 50, .ref 51, .ref 52, .ref 53, .ref 54, .ref 55, .ref 56, .ref 57, .ref 58, .ref 59, .ref 60, .ref 61, .ref 62, .null, .null, .null, .null, .int 0, .null, .null, .null, .null, .null, .int 0, .null, .null, .null, .null, .int 0, .long 0, .int 0, .int 0, .int 0]))) (pc := 137) d_md_init_137 fl_md_57 ⟨rfl, rfl⟩ (by decide) (by decide) rfl (by decide) (fun z ex => ⟨rfl, rfl⟩) rfl ?_
  refine qr_aload_n (pc := 140) d_md_init_140 rfl rfl ?_
  refine qr_bipush (v := 80) (pc := 141) d_md_init_141 (by decide) ?_
  refine qr_newa (t := 0) (len := 80) (ty9 := .int) (a := (80, .inl (fun _ => 0))) (pc := 143) d_md_init_143 rfl rfl ac_int (by decide) (by decide) (by decide) (fun Cn h => nomatch h) (fun cA => rfl) (fun z ex => rfl) ⟨rfl, rfl⟩ (by decide) (Nat.le_of_ble_eq_true rfl) (Nat.le_of_ble_eq_true rfl) ?_
  refine qr_putF (fs := [.int 0, .int (-2), .int 0, .ref 48, .int 0, .ref 49, .ref 50, .ref 51, .ref 52, .ref 53, .ref 54, .ref 55, .ref 56, .ref 57, .ref 58, .ref 59, .ref 60, .ref 61, .ref 62, .null, .null, .null, .null, .int 0, .null, .null, .null, .null, .null, .int 0, .null, .null, .null, .null, .int 0, .long 0, .int 0, .int 0, .int 0]) (f' := va_up _ 47 (.inr (7, [.int 0, .int (-2), .int 0, .ref 48, .int 0, .ref 49, .ref 50, .ref 51, .ref 52, .ref 53, .ref 54, .ref 55, .ref 56, .ref 57, .ref 58, .ref 59, .ref 60, .ref 61, .ref 62, .ref 63, .null, .null, .null, .int 0, .null, .null, .null, .null, .null, .int 0, .null, .null, .null, .null, .int 0, .long 0, .int 0, .int 0, .int 0]))) (pc := 145) d_md_init_145 fl_md_60 ⟨rfl, rfl⟩ (by decide) (by decide) rfl (by decide) (fun z ex => ⟨rfl, rfl⟩) rfl ?_
  refine qr_aload_n (pc := 148) d_md_init_148 rfl rfl ?_
  refine qr_bipush (v := 80) (pc := 149) d_md_init_149 (by decide) ?_
  refine qr_newa (t := 0) (len := 80) (ty9 := .int) (a := (80, .inl (fun _ => 0))) (pc := 151) d_md_init_151 rfl rfl ac_int (by decide) (by decide) (by decide) (fun Cn h => nomatch h) (fun cA => rfl) (fun z ex => rfl) ⟨rfl, rfl⟩ (by decide) (Nat.le_of_ble_eq_true rfl) (Nat.le_of_ble_eq_true rfl) ?_
  refine qr_putF (fs := [.int 0, .int (-2), .int 0, .ref 48, .int 0, .ref 49, .ref 50, .ref 51, .ref 52, .ref 53, .ref 54, .ref 55, .ref 56, .ref 57, .ref 58, .ref 59, .ref 60, .ref 61, .ref 62, .ref 63, .null, .null, .null, .int 0, .null, .null, .null, .null, .null, .int 0, .null, .null, .null, .null, .int 0, .long 0, .int 0, .int 0, .int 0]) (f' := va_up _ 47 (.inr (7, [.int 0, .int (-2), .int 0, .ref 48, .int 0, .ref 49, .ref 50, .ref 51, .ref 52, .ref 53, .ref 54, .ref 55, .ref 56, .ref 57, .ref 58, .ref 59, .ref 60, .ref 61, .ref 62, .ref 63, .ref 64, .null, .null, .int 0, .null, .null, .null, .null, .null, .int 0, .null, .null, .null, .null, .int 0, .long 0, .int 0, .int 0, .int 0]))) (pc := 153) d_md_init_153 fl_md_63 ⟨rfl, rfl⟩ (by decide) (by decide) rfl (by decide) (fun z ex => ⟨rfl, rfl⟩) rfl ?_
  refine qr_aload_n (pc := 156) d_md_init_156 rfl rfl ?_
  refine qr_bipush (v := 80) (pc := 157) d_md_init_157 (by decide) ?_
  refine qr_newa (t := 0) (len := 80) (ty9 := .int) (a := (80, .inl (fun _ => 0))) (pc := 159) d_md_init_159 rfl rfl ac_int (by decide) (by decide) (by decide) (fun Cn h => nomatch h) (fun cA => rfl) (fun z ex => rfl) ⟨rfl, rfl⟩ (by decide) (Nat.le_of_ble_eq_true rfl) (Nat.le_of_ble_eq_true rfl) ?_
  refine qr_putF (fs := [.int 0, .int (-2), .int 0, .ref 48, .int 0, .ref 49, .ref 50, .ref 51, .ref 52, .ref 53, .ref 54, .ref 55, .ref 56, .ref 57, .ref 58, .ref 59, .ref 60, .ref 61, .ref 62, .ref 63, .ref 64, .null, .null, .int 0, .null, .null, .null, .null, .null, .int 0, .null, .null, .null, .null, .int 0, .long 0, .int 0, .int 0, .int 0]) (f' := va_up _ 47 (.inr (7, [.int 0, .int (-2), .int 0, .ref 48, .int 0, .ref 49, .ref 50, .ref 51, .ref 52, .ref 53, .ref 54, .ref 55, .ref 56, .ref 57, .ref 58, .ref 59, .ref 60, .ref 61, .ref 62, .ref 63, .ref 64, .ref 65, .null, .int 0, .null, .null, .null, .null, .null, .int 0, .null, .null, .null, .null, .int 0, .long 0, .int 0, .int 0, .int 0]))) (pc := 161) d_md_init_161 fl_md_66 ⟨rfl, rfl⟩ (by decide) (by decide) rfl (by decide) (fun z ex => ⟨rfl, rfl⟩) rfl ?_
  refine qr_aload_n (pc := 164) d_md_init_164 rfl rfl ?_
  refine qr_bipush (v := 80) (pc := 165) d_md_init_165 (by decide) ?_
  refine qr_newa (t := 0) (len := 80) (ty9 := .int) (a := (80, .inl (fun _ => 0))) (pc := 167) d_md_init_167 rfl rfl ac_int (by decide) (by decide) (by decide) (fun Cn h => nomatch h) (fun cA => rfl) (fun z ex => rfl) ⟨rfl, rfl⟩ (by decide) (Nat.le_of_ble_eq_true rfl) (Nat.le_of_ble_eq_true rfl) ?_
  refine qr_putF (fs := [.int 0, .int (-2), .int 0, .ref 48, .int 0, .ref 49, .ref 50, .ref 51, .ref 52, .ref 53, .ref 54, .ref 55, .ref 56, .ref 57, .ref 58, .ref 59, .ref 60, .ref 61, .ref 62, .ref 63, .ref 64, .ref 65, .null, .int 0, .null, .null, .null, .null, .null, .int 0, .null, .null, .null, .null, .int 0, .long 0, .int 0, .int 0, .int 0]) (f' := va_up _ 47 (.inr (7, [.int 0, .int (-2), .int 0, .ref 48, .int 0, .ref 49, .ref 50, .ref 51, .ref 52, .ref 53, .ref 54, .ref 55, .ref 56, .ref 57, .ref 58, .ref 59, .ref 60, .ref 61, .ref 62, .ref 63, .ref 64, .ref 65, .ref 66, .int 0, .null, .null, .null, .null, .null, .int 0, .null, .null, .null, .null, .int 0, .long 0, .int 0, .int 0, .int 0]))) (pc := 169) d_md_init_169 fl_md_69 ⟨rfl, rfl⟩ (by decide) (by decide) rfl (by decide) (fun z ex => ⟨rfl, rfl⟩) rfl ?_
  refine qr_aload_n (pc := 172) d_md_init_172 rfl rfl ?_
  refine qr_bipush (v := 50) (pc := 173) d_md_init_173 (by decide) ?_
  refine qr_newa (t := 0) (len := 50) (ty9 := .int) (a := (50, .inl (fun _ => 0))) (pc := 175) d_md_init_175 rfl rfl ac_int (by decide) (by decide) (by decide) (fun Cn h => nomatch h) (fun cA => rfl) (fun z ex => rfl) ⟨rfl, rfl⟩ (by decide) (Nat.le_of_ble_eq_true rfl) (Nat.le_of_ble_eq_true rfl) ?_
  refine qr_putF (fs := [.int 0, .int (-2), .int 0, .ref 48, .int 0, .ref 49, .ref 50, .ref 51, .ref 52, .ref 53, .ref 54, .ref 55, .ref 56, .ref 57, .ref 58, .ref 59, .ref 60, .ref 61, .ref 62, .ref 63, .ref 64, .ref 65, .ref 66, .int 0, .null, .null, .null, .null, .null, .int 0, .null, .null, .null, .null, .int 0, .long 0, .int 0, .int 0, .int 0]) (f' := va_up _ 47 (.inr (7, [.int 0, .int (-2), .int 0, .ref 48, .int 0, .ref 49, .ref 50, .ref 51, .ref 52, .ref 53, .ref 54, .ref 55, .ref 56, .ref 57, .ref 58, .ref 59, .ref 60, .ref 61, .ref 62, .ref 63, .ref 64, .ref 65, .ref 66, .int 0, .ref 67, .null, .null, .null, .null, .int 0, .null, .null, .null, .null, .int 0, .long 0, .int 0, .int 0, .int 0]))) (pc := 177) d_md_init_177 fl_md_72 ⟨rfl, rfl⟩ (by decide) (by decide) rfl (by decide) (fun z ex => ⟨rfl, rfl⟩) rfl ?_
  refine qr_aload_n (pc := 180) d_md_init_180 rfl rfl ?_
  refine qr_bipush (v := 50) (pc := 181) d_md_init_181 (by decide) ?_
  refine qr_newa (t := 0) (len := 50) (ty9 := .int) (a := (50, .inl (fun _ => 0))) (pc := 183) d_md_init_183 rfl rfl ac_int (by decide) (by decide) (by decide) (fun Cn h => nomatch h) (fun cA => rfl) (fun z ex => rfl) ⟨rfl, rfl⟩ (by decide) (Nat.le_of_ble_eq_true rfl) (Nat.le_of_ble_eq_true rfl) ?_
  refine qr_putF (fs := [.int 0, .int (-2), .int 0, .ref 48, .int 0, .ref 49, .ref 50, .ref 51, .ref 52, .ref 53, .ref 54, .ref 55, .ref 56, .ref 57, .ref 58, .ref 59, .ref 60, .ref 61, .ref 62, .ref 63, .ref 64, .ref 65, .ref 66, .int 0, .ref 67, .null, .null, .null, .null, .int 0, .null, .null, .null, .null, .int 0, .long 0, .int 0, .int 0, .int 0]) (f' := va_up _ 47 (.inr (7, [.int 0, .int (-2), .int 0, .ref 48, .int 0, .ref 49, .ref 50, .ref 51, .ref 52, .ref 53, .ref 54, .ref 55, .ref 56, .ref 57, .ref 58, .ref 59, .ref 60, .ref 61, .ref 62, .ref 63, .ref 64, .ref 65, .ref 66, .int 0, .ref 67, .ref 68, .null, .null, .null, .int 0, .null, .null, .null, .null, .int 0, .long 0, .int 0, .int 0, .int 0]))) (pc := 185) d_md_init_185 fl_md_75 ⟨rfl, rfl⟩ (by decide) (by decide) rfl (by decide) (fun z ex => ⟨rfl, rfl⟩) rfl ?_
  refine qr_aload_n (pc := 188) d_md_init_188 rfl rfl ?_
  refine qr_bipush (v := 50) (pc := 189) d_md_init_189 (by decide) ?_
  refine qr_newa (t := 0) (len := 50) (ty9 := .int) (a := (50, .inl (fun _ => 0))) (pc := 191) d_md_init_191 rfl rfl ac_int (by decide) (by decide) (by decide) (fun Cn h => nomatch h) (fun cA => rfl) (fun z ex => rfl) ⟨rfl, rfl⟩ (by decide) (Nat.le_of_ble_eq_true rfl) (Nat.le_of_ble_eq_true rfl) ?_
  refine qr_putF (fs := [.int 0, .int (-2), .int 0, .ref 48, .int 0, .ref 49, .ref 50, .ref 51, .ref 52, .ref 53, .ref 54, .ref 55, .ref 56, .ref 57, .ref 58, .ref 59, .ref 60, .ref 61, .ref 62, .ref 63, .ref 64, .ref 65, .ref 66, .int 0, .ref 67, .ref 68, .null, .null, .null, .int 0, .null, .null, .null, .null, .int 0, .long 0, .int 0, .int 0, .int 0]) (f' := va_up _ 47 (.inr (7, [.int 0, .int (-2), .int 0, .ref 48, .int 0, .ref 49, .ref 50, .ref 51, .ref 52, .ref 53, .ref 54, .ref 55, .ref 56, .ref 57, .ref 58, .ref 59, .ref 60, .ref 61, .ref 62, .ref 63, .ref 64, .ref 65, .ref 66, .int 0, .ref 67, .ref 68, .ref 69, .null, .null, .int 0, .null, .null, .null, .null, .int 0, .long 0, .int 0, .int 0, .int 0]))) (pc := 193) d_md_init_193 fl_md_78 ⟨rfl, rfl⟩ (by decide) (by decide) rfl (by decide) (fun z ex => ⟨rfl, rfl⟩) rfl ?_
  refine qr_aload_n (pc := 196) d_md_init_196 rfl rfl ?_
  refine qr_bipush (v := 50) (pc := 197) d_md_init_197 (by decide) ?_
  refine qr_newa (t := 1) (len := 50) (ty9 := .long) (a := (50, .inr (.inl (fun _ => 0)))) (pc := 199) d_md_init_199 rfl rfl ac_long (by decide) (by decide) (by decide) (fun Cn h => nomatch h) (fun cA => rfl) (fun z ex => rfl) ⟨rfl, rfl⟩ (by decide) (Nat.le_of_ble_eq_true rfl) (Nat.le_of_ble_eq_true rfl) ?_
  refine qr_putF (fs := [.int 0, .int (-2), .int 0, .ref 48, .int 0, .ref 49, .ref 50, .ref 51, .ref 52, .ref 53, .ref 54, .ref 55, .ref 56, .ref 57, .ref 58, .ref 59, .ref 60, .ref 61, .ref 62, .ref 63, .ref 64, .ref 65, .ref 66, .int 0, .ref 67, .ref 68, .ref 69, .null, .null, .int 0, .null, .null, .null, .null, .int 0, .long 0, .int 0, .int 0, .int 0]) (f' := va_up _ 47 (.inr (7, [.int 0, .int (-2), .int 0, .ref 48, .int 0, .ref 49, .ref 50, .ref 51, .ref 52, .ref 53, .ref 54, .ref 55, .ref 56, .ref 57, .ref 58, .ref 59, .ref 60, .ref 61, .ref 62, .ref 63, .ref 64, .ref 65, .ref 66, .int 0, .ref 67, .ref 68, .ref 69, .ref 70, .null, .int 0, .null, .null, .null, .null, .int 0, .long 0, .int 0, .int 0, .int 0]))) (pc := 201) d_md_init_201 fl_md_81 ⟨rfl, rfl⟩ (by decide) (by decide) rfl (by decide) (fun z ex => ⟨rfl, rfl⟩) rfl ?_
  refine qr_aload_n (pc := 204) d_md_init_204 rfl rfl ?_
  refine qr_bipush (v := 50) (pc := 205) d_md_init_205 (by decide) ?_
  refine qr_newa (t := 1) (len := 50) (ty9 := .long) (a := (50, .inr (.inl (fun _ => 0)))) (pc := 207) d_md_init_207 rfl rfl ac_long (by decide) (by decide) (by decide) (fun Cn h => nomatch h) (fun cA => rfl) (fun z ex => rfl) ⟨rfl, rfl⟩ (by decide) (Nat.le_of_ble_eq_true rfl) (Nat.le_of_ble_eq_true rfl) ?_
  refine qr_putF (fs := [.int 0, .int (-2), .int 0, .ref 48, .int 0, .ref 49, .ref 50, .ref 51, .ref 52, .ref 53, .ref 54, .ref 55, .ref 56, .ref 57, .ref 58, .ref 59, .ref 60, .ref 61, .ref 62, .ref 63, .ref 64, .ref 65, .ref 66, .int 0, .ref 67, .ref 68, .ref 69, .ref 70, .null, .int 0, .null, .null, .null, .null, .int 0, .long 0, .int 0, .int 0, .int 0]) (f' := va_up _ 47 (.inr (7, [.int 0, .int (-2), .int 0, .ref 48, .int 0, .ref 49, .ref 50, .ref 51, .ref 52, .ref 53, .ref 54, .ref 55, .ref 56, .ref 57, .ref 58, .ref 59, .ref 60, .ref 61, .ref 62, .ref 63, .ref 64, .ref 65, .ref 66, .int 0, .ref 67, .ref 68, .ref 69, .ref 70, .ref 71, .int 0, .null, .null, .null, .null, .int 0, .long 0, .int 0, .int 0, .int 0]))) (pc := 209) d_md_init_209 fl_md_84 ⟨rfl, rfl⟩ (by decide) (by decide) rfl (by decide) (fun z ex => ⟨rfl, rfl⟩) rfl ?_
  refine qr_aload_n (pc := 212) d_md_init_212 rfl rfl ?_
  refine qr_bipush (v := 10) (pc := 213) d_md_init_213 (by decide) ?_
  refine qr_newa (t := 0) (len := 10) (ty9 := .int) (a := (10, .inl (fun _ => 0))) (pc := 215) d_md_init_215 rfl rfl ac_int (by decide) (by decide) (by decide) (fun Cn h => nomatch h) (fun cA => rfl) (fun z ex => rfl) ⟨rfl, rfl⟩ (by decide) (Nat.le_of_ble_eq_true rfl) (Nat.le_of_ble_eq_true rfl) ?_
  refine qr_putF (fs := [.int 0, .int (-2), .int 0, .ref 48, .int 0, .ref 49, .ref 50, .ref 51, .ref 52, .ref 53, .ref 54, .ref 55, .ref 56, .ref 57, .ref 58, .ref 59, .ref 60, .ref 61, .ref 62, .ref 63, .ref 64, .ref 65, .ref 66, .int 0, .ref 67, .ref 68, .ref 69, .ref 70, .ref 71, .int 0, .null, .null, .null, .null, .int 0, .long 0, .int 0, .int 0, .int 0]) (f' := va_up _ 47 (.inr (7, [.int 0, .int (-2), .int 0, .ref 48, .int 0, .ref 49, .ref 50, .ref 51, .ref 52, .ref 53, .ref 54, .ref 55, .ref 56, .ref 57, .ref 58, .ref 59, .ref 60, .ref 61, .ref 62, .ref 63, .ref 64, .ref 65, .ref 66, .int 0, .ref 67, .ref 68, .ref 69, .ref 70, .ref 71, .int 0, .ref 72, .null, .null, .null, .int 0, .long 0, .int 0, .int 0, .int 0]))) (pc := 217) d_md_init_217 fl_md_87 ⟨rfl, rfl⟩ (by decide) (by decide) rfl (by decide) (fun z ex => ⟨rfl, rfl⟩) rfl ?_
  refine qr_aload_n (pc := 220) d_md_init_220 rfl rfl ?_
  refine qr_bipush (v := 10) (pc := 221) d_md_init_221 (by decide) ?_
  refine qr_newa (t := 0) (len := 10) (ty9 := .int) (a := (10, .inl (fun _ => 0))) (pc := 223) d_md_init_223 rfl rfl ac_int (by decide) (by decide) (by decide) (fun Cn h => nomatch h) (fun cA => rfl) (fun z ex => rfl) ⟨rfl, rfl⟩ (by decide) (Nat.le_of_ble_eq_true rfl) (Nat.le_of_ble_eq_true rfl) ?_
  refine qr_putF (fs := [.int 0, .int (-2), .int 0, .ref 48, .int 0, .ref 49, .ref 50, .ref 51, .ref 52, .ref 53, .ref 54, .ref 55, .ref 56, .ref 57, .ref 58, .ref 59, .ref 60, .ref 61, .ref 62, .ref 63, .ref 64, .ref 65, .ref 66, .int 0, .ref 67, .ref 68, .ref 69, .ref 70, .ref 71, .int 0, .ref 72, .null, .null, .null, .int 0, .long 0, .int 0, .int 0, .int 0]) (f' := va_up _ 47 (.inr (7, [.int 0, .int (-2), .int 0, .ref 48, .int 0, .ref 49, .ref 50, .ref 51, .ref 52, .ref 53, .ref 54, .ref 55, .ref 56, .ref 57, .ref 58, .ref 59, .ref 60, .ref 61, .ref 62, .ref 63, .ref 64, .ref 65, .ref 66, .int 0, .ref 67, .ref 68, .ref 69, .ref 70, .ref 71, .int 0, .ref 72, .ref 73, .null, .null, .int 0, .long 0, .int 0, .int 0, .int 0]))) (pc := 225) d_md_init_225 fl_md_90 ⟨rfl, rfl⟩ (by decide) (by decide) rfl (by decide) (fun z ex => ⟨rfl, rfl⟩) rfl ?_
  refine qr_aload_n (pc := 228) d_md_init_228 rfl rfl ?_
  refine qr_bipush (v := 10) (pc := 229) d_md_init_229 (by decide) ?_
  refine qr_newa (t := 0) (len := 10) (ty9 := .int) (a := (10, .inl (fun _ => 0))) (pc := 231) d_md_init_231 rfl rfl ac_int (by decide) (by decide) (by decide) (fun Cn h => nomatch h) (fun cA => rfl) (fun z ex => rfl) ⟨rfl, rfl⟩ (by decide) (Nat.le_of_ble_eq_true rfl) (Nat.le_of_ble_eq_true rfl) ?_
  refine qr_putF (fs := [.int 0, .int (-2), .int 0, .ref 48, .int 0, .ref 49, .ref 50, .ref 51, .ref 52, .ref 53, .ref 54, .ref 55, .ref 56, .ref 57, .ref 58, .ref 59, .ref 60, .ref 61, .ref 62, .ref 63, .ref 64, .ref 65, .ref 66, .int 0, .ref 67, .ref 68, .ref 69, .ref 70, .ref 71, .int 0, .ref 72, .ref 73, .null, .null, .int 0, .long 0, .int 0, .int 0, .int 0]) (f' := va_up _ 47 (.inr (7, [.int 0, .int (-2), .int 0, .ref 48, .int 0, .ref 49, .ref 50, .ref 51, .ref 52, .ref 53, .ref 54, .ref 55, .ref 56, .ref 57, .ref 58, .ref 59, .ref 60, .ref 61, .ref 62, .ref 63, .ref 64, .ref 65, .ref 66, .int 0, .ref 67, .ref 68, .ref 69, .ref 70, .ref 71, .int 0, .ref 72, .ref 73, .ref 74, .null, .int 0, .long 0, .int 0, .int 0, .int 0]))) (pc := 233) d_md_init_233 fl_md_93 ⟨rfl, rfl⟩ (by decide) (by decide) rfl (by decide) (fun z ex => ⟨rfl, rfl⟩) rfl ?_
  refine qr_aload_n (pc := 236) d_md_init_236 rfl rfl ?_
  refine qr_bipush (v := 10) (pc := 237) d_md_init_237 (by decide) ?_
  refine qr_newa (t := 1) (len := 10) (ty9 := .long) (a := (10, .inr (.inl (fun _ => 0)))) (pc := 239) d_md_init_239 rfl rfl ac_long (by decide) (by decide) (by decide) (fun Cn h => nomatch h) (fun cA => rfl) (fun z ex => rfl) ⟨rfl, rfl⟩ (by decide) (Nat.le_of_ble_eq_true rfl) (Nat.le_of_ble_eq_true rfl) ?_
  refine qr_putF (fs := [.int 0, .int (-2), .int 0, .ref 48, .int 0, .ref 49, .ref 50, .ref 51, .ref 52, .ref 53, .ref 54, .ref 55, .ref 56, .ref 57, .ref 58, .ref 59, .ref 60, .ref 61, .ref 62, .ref 63, .ref 64, .ref 65, .ref 66, .int 0, .ref 67, .ref 68, .ref 69, .ref 70, .ref 71, .int 0, .ref 72, .ref 73, .ref 74, .null, .int 0, .long 0, .int 0, .int 0, .int 0]) (f' := va_up _ 47 (.inr (7, [.int 0, .int (-2), .int 0, .ref 48, .int 0, .ref 49, .ref 50, .ref 51, .ref 52, .ref 53, .ref 54, .ref 55, .ref 56, .ref 57, .ref 58, .ref 59, .ref 60, .ref 61, .ref 62, .ref 63, .ref 64, .ref 65, .ref 66, .int 0, .ref 67, .ref 68, .ref 69, .ref 70, .ref 71, .int 0, .ref 72, .ref 73, .ref 74, .ref 75, .int 0, .long 0, .int 0, .int 0, .int 0]))) (pc := 241) d_md_init_241 fl_md_96 ⟨rfl, rfl⟩ (by decide) (by decide) rfl (by decide) (fun z ex => ⟨rfl, rfl⟩) rfl ?_
  refine qr_vret (pc := 244) d_md_init_244 rfl ⟨rfl, rfl, ?_, ?_⟩ (Nat.le_of_ble_eq_true rfl) (Nat.le_of_ble_eq_true rfl)
  · intro k hk
    simp only [va_up]
    repeat rw [if_neg (by omega)]
  · intro k h1 h2
    match k, h1, h2 with
    | 47, _, _ => exact rfl
    | 48, _, _ => exact rfl
    | 49, _, _ => exact rfl
    | 50, _, _ => exact rfl
    | 51, _, _ => exact rfl
    | 52, _, _ => exact rfl
    | 53, _, _ => exact rfl
    | 54, _, _ => exact rfl
    | 55, _, _ => exact rfl
    | 56, _, _ => exact rfl
    | 57, _, _ => exact rfl
    | 58, _, _ => exact rfl
    | 59, _, _ => exact rfl
    | 60, _, _ => exact rfl
    | 61, _, _ => exact rfl
    | 62, _, _ => exact rfl
    | 63, _, _ => exact rfl
    | 64, _, _ => exact rfl
    | 65, _, _ => exact rfl
    | 66, _, _ => exact rfl
    | 67, _, _ => exact rfl
    | 68, _, _ => exact rfl
    | 69, _, _ => exact rfl
    | 70, _, _ => exact rfl
    | 71, _, _ => exact rfl
    | 72, _, _ => exact rfl
    | 73, _, _ => exact rfl
    | 74, _, _ => exact rfl
    | 75, _, _ => exact rfl
    | k + 76, _, h => exact absurd h (by omega)
