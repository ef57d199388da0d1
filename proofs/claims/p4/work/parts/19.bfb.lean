theorem isT0 (t : Int32) : ((if t < 0 then (0 : Int32) else if 3 ≤ t then 0 else 1) = 0) ↔ (t < 0 ∨ 3 ≤ t) := by
  by_cases h1 : t < 0
  · simp [h1]
  · by_cases h2 : 3 ≤ t <;> simp [h1, h2]
theorem isT_nI {t : Int32} (h : ¬ (t < 0 ∨ 3 ≤ t)) : ∃ k : Nat, k < 3 ∧ t = nI k := by
  have h1 : ¬ t < 0 := fun q => h (Or.inl q)
  have h2 : ¬ 3 ≤ t := fun q => h (Or.inr q)
  obtain ⟨k, hk, rfl⟩ := nI_of h1
  exact ⟨k, Nat.not_le.mp (fun q => h2 (nI_le (a := 3) q hk)), rfl⟩
def u_z26 (I : Nat → Nat → Int32) : Nat → Nat → Int32 := wI (wI (wI I 26 0 0) 26 1 0) 26 2 0
def u_z27 (L : Nat → Nat → Int64) : Nat → Nat → Int64 := wL (wL (wL L 27 0 0) 27 1 0) 27 2 0
/-- live days by tariffs (row 26) behind the first i days from F on -/
def u_cd (I : Nat → Nat → Int32) (c F T : Nat) : Nat → Nat → Nat → Int32
  | 0 => u_z26 I
  | i + 1 => if u_live (u_cd I c F T i) (37 + 2 * c) (38 + 2 * c) (nI (F + i)) (nI T) < 0 ∨ 3 ≤ u_live (u_cd I c F T i) (37 + 2 * c) (38 + 2 * c) (nI (F + i)) (nI T) then u_cd I c F T i else
      wI (u_cd I c F T i) 26 (u_live (u_cd I c F T i) (37 + 2 * c) (38 + 2 * c) (nI (F + i)) (nI T)).toNatClampNeg (u_cd I c F T i 26 (u_live (u_cd I c F T i) (37 + 2 * c) (38 + 2 * c) (nI (F + i)) (nI T)).toNatClampNeg + 1)
theorem u_z26_ne {I : Nat → Nat → Int32} {a b : Nat} (h : a ≠ 26) : u_z26 I a b = I a b := by
  unfold u_z26
  rw [wI_ne (Or.inl h), wI_ne (Or.inl h), wI_ne (Or.inl h)]
theorem u_cd_ne {I : Nat → Nat → Int32} {c F T a b : Nat} (h : a ≠ 26) : ∀ i, u_cd I c F T i a b = I a b
  | 0 => u_z26_ne h
  | i + 1 => by
    unfold u_cd
    split
    · exact u_cd_ne h i
    · rw [wI_ne (Or.inl h)]
      exact u_cd_ne h i
set_option maxRecDepth 10000 in
theorem s_bf_countLiveDays (l : Launch) (x : Bool) (I : Nat → Nat → Int32) (L : Nat → Nat → Int64) (c P F G T M : Nat) (hc : c < 5) (hP : P < 14) (hF : I 25 P = nI F) (hG : I 25 (P + 1) = nI G) (hT : I 0 9 = nI T) (hT2 : T ≤ 400) (hFG : F ≤ G) (hG9 : G ≤ 1000) (hM : M = min (G - F) (T + 1 - F)) : qSp l y_bf_countLiveDays b_bf_countLiveDays 5 none x 3 0 0 [.ref 0, .int (nI c), .int (nI P)] 77 (fm I L) (qD none 77 (fm (u_cd I c F T M) L)) := by
  refine qSp_of (ini := false) (by decide +kernel) (fun h => nomatch h) (Nat.le_of_ble_eq_true rfl) ?_
  show qR _ _ _ 0 [(0, .ref 0), (1, .int (nI c)), (2, .int (nI P))] [] _ _ _ _
  refine qr_iconst (v := 0) (pc := 0) d_bf_countLiveDays_0 (by decide) ?_
  refine qr_istore_n (lv' := [(3, .int 0), (0, .ref 0), (1, .int (nI c)), (2, .int (nI P))]) (pc := 1) d_bf_countLiveDays_1 rfl (Nat.le_of_ble_eq_true rfl) rfl ?_
  refine qr_iload_n (pc := 2) d_bf_countLiveDays_2 rfl rfl ?_
  refine qr_iconst (v := 3) (pc := 3) d_bf_countLiveDays_3 (by decide) ?_
  refine qr_icmp_ge (tgt := 20) (pc := 4) d_bf_countLiveDays_4 (by decide) (fun h4 => absurd h4 (by decide)) (fun _ => ?_)
  refine qr_aload_n (pc := 7) d_bf_countLiveDays_7 rfl rfl ?_
  refine qr_get (v := .ref 26) (pc := 8) d_bf_countLiveDays_8 fl_bf_53 (by decide) (by decide) (c_0 _ _) rfl ?_
  refine qr_iload_n (pc := 11) d_bf_countLiveDays_11 rfl rfl ?_
  refine qr_iconst (v := 0) (pc := 12) d_bf_countLiveDays_12 (by decide) ?_
  refine qr_iastMN (j := 0) (pc := 13) d_bf_countLiveDays_13 (by decide) (by decide) (c_26 _ _) (by decide) (by decide) (fun w => rfl) ?_
  refine qr_iinc (v := 1) (lv' := [(3, .int 1), (0, .ref 0), (1, .int (nI c)), (2, .int (nI P))]) (pc := 14) d_bf_countLiveDays_14 rfl (by decide) (Nat.le_of_ble_eq_true rfl) rfl ?_
  refine qr_goto (tgt := 2) (pc := 17) d_bf_countLiveDays_17 (by decide) ?_
  refine qr_iload_n (pc := 2) d_bf_countLiveDays_2 rfl rfl ?_
  refine qr_iconst (v := 3) (pc := 3) d_bf_countLiveDays_3 (by decide) ?_
  refine qr_icmp_ge (tgt := 20) (pc := 4) d_bf_countLiveDays_4 (by decide) (fun h4 => absurd h4 (by decide)) (fun _ => ?_)
  refine qr_aload_n (pc := 7) d_bf_countLiveDays_7 rfl rfl ?_
  refine qr_get (v := .ref 26) (pc := 8) d_bf_countLiveDays_8 fl_bf_53 (by decide) (by decide) (c_0 _ _) rfl ?_
  refine qr_iload_n (pc := 11) d_bf_countLiveDays_11 rfl rfl ?_
  refine qr_iconst (v := 0) (pc := 12) d_bf_countLiveDays_12 (by decide) ?_
  refine qr_iastMN (j := 1) (pc := 13) d_bf_countLiveDays_13 (by decide) (by decide) (c_26 _ _) (by decide) (by decide) (fun w => rfl) ?_
  refine qr_iinc (v := 2) (lv' := [(3, .int 2), (0, .ref 0), (1, .int (nI c)), (2, .int (nI P))]) (pc := 14) d_bf_countLiveDays_14 rfl (by decide) (Nat.le_of_ble_eq_true rfl) rfl ?_
  refine qr_goto (tgt := 2) (pc := 17) d_bf_countLiveDays_17 (by decide) ?_
  refine qr_iload_n (pc := 2) d_bf_countLiveDays_2 rfl rfl ?_
  refine qr_iconst (v := 3) (pc := 3) d_bf_countLiveDays_3 (by decide) ?_
  refine qr_icmp_ge (tgt := 20) (pc := 4) d_bf_countLiveDays_4 (by decide) (fun h4 => absurd h4 (by decide)) (fun _ => ?_)
  refine qr_aload_n (pc := 7) d_bf_countLiveDays_7 rfl rfl ?_
  refine qr_get (v := .ref 26) (pc := 8) d_bf_countLiveDays_8 fl_bf_53 (by decide) (by decide) (c_0 _ _) rfl ?_
  refine qr_iload_n (pc := 11) d_bf_countLiveDays_11 rfl rfl ?_
  refine qr_iconst (v := 0) (pc := 12) d_bf_countLiveDays_12 (by decide) ?_
  refine qr_iastMN (j := 2) (pc := 13) d_bf_countLiveDays_13 (by decide) (by decide) (c_26 _ _) (by decide) (by decide) (fun w => rfl) ?_
  refine qr_iinc (v := 3) (lv' := [(3, .int 3), (0, .ref 0), (1, .int (nI c)), (2, .int (nI P))]) (pc := 14) d_bf_countLiveDays_14 rfl (by decide) (Nat.le_of_ble_eq_true rfl) rfl ?_
  refine qr_goto (tgt := 2) (pc := 17) d_bf_countLiveDays_17 (by decide) ?_
  refine qr_iload_n (pc := 2) d_bf_countLiveDays_2 rfl rfl ?_
  refine qr_iconst (v := 3) (pc := 3) d_bf_countLiveDays_3 (by decide) ?_
  refine qr_icmp_ge (tgt := 20) (pc := 4) d_bf_countLiveDays_4 (by decide) (fun _ => ?_) (fun h4 => absurd h4 (by decide))
  refine qr_aload_n (pc := 20) d_bf_countLiveDays_20 rfl rfl ?_
  refine qr_get (v := .ref 25) (pc := 21) d_bf_countLiveDays_21 fl_bf_49 (by decide) (by decide) (c_0 _ _) rfl ?_
  refine qr_iload_n (pc := 24) d_bf_countLiveDays_24 rfl rfl ?_
  refine qr_ialdN (j := P) (pc := 25) d_bf_countLiveDays_25 (by decide) (by decide) (c_25 _ _) (by omega) (by decide) ?_
  refine qR_st (st' := [.int (I 25 P)]) rfl rfl rfl ?_
  refine qR_st (st' := [.int (nI F)]) rfl (by rw [hF] <;> rfl) rfl ?_
  refine qr_istore_n (lv' := [(3, .int (nI F)), (0, .ref 0), (1, .int (nI c)), (2, .int (nI P))]) (pc := 26) d_bf_countLiveDays_26 rfl (Nat.le_of_ble_eq_true rfl) rfl ?_
  have loop27 : ∀ (j i : Nat), M - i < j → i ≤ M → qR (l, y_bf_countLiveDays.cls, b_bf_countLiveDays, 5, none, false, x, 3, 0, 0, 77, q0) (qD none 77 (fm (u_cd I c F T M) L)) (fun _ _ _ => False) 27 [(3, .int (nI (F + i))), (0, .ref 0), (1, .int (nI c)), (2, .int (nI P))] [] 77 0 0 (fm (u_cd I c F T i) L) := by
    intro j
    induction j with
    | zero => intro i hj; omega
    | succ j ih =>
    intro i hj hi
    have hG2 : (u_cd I c F T i) 25 (P + 1) = nI G := (u_cd_ne (by decide) i).trans hG
    have hT2x : (u_cd I c F T i) 0 9 = nI T := (u_cd_ne (by decide) i).trans hT
    refine qr_iload_n (pc := 27) d_bf_countLiveDays_27 rfl rfl ?_
    refine qr_aload_n (pc := 28) d_bf_countLiveDays_28 rfl rfl ?_
    refine qr_get (v := .ref 25) (pc := 29) d_bf_countLiveDays_29 fl_bf_49 (by decide) (by decide) (c_0 _ _) rfl ?_
    refine qr_iload_n (pc := 32) d_bf_countLiveDays_32 rfl rfl ?_
    refine qr_iconst (v := 1) (pc := 33) d_bf_countLiveDays_33 (by decide) ?_
    refine qr_iadd (pc := 34) d_bf_countLiveDays_34 ?_
    refine qR_st (st' := [.int (nI (P + 1)), .ref 25, .int (nI (F + i))]) rfl (by rw [nI_1] <;> rfl) rfl ?_
    refine qr_ialdN (j := (P + 1)) (pc := 35) d_bf_countLiveDays_35 (by decide) (by decide) (c_25 _ _) (by omega) (by decide) ?_
    refine qR_st (st' := [.int (nI G), .int (nI (F + i))]) rfl (by rw [hG2] <;> rfl) rfl ?_
    refine qr_icmp_ge (tgt := 88) (pc := 36) d_bf_countLiveDays_36 (by decide) (fun h36 => ?_) (fun h36 => ?_)
    · skip
      have hi9 : M = i := by
        have := (nI_leI (a := G) (b := F + i) (by omega) (by omega)).mp h36
        omega
      subst hi9
      exact qr_vret (pc := 88) d_bf_countLiveDays_88 rfl ⟨rfl, rfl, rfl⟩ (Nat.zero_le _) (Nat.zero_le _)
    · skip
      have hi8 : F + i < G := Nat.not_le.mp (fun q => h36 (nI_le q (by omega)))
      refine qr_iload_n (pc := 39) d_bf_countLiveDays_39 rfl rfl ?_
      refine qr_aload_n (pc := 40) d_bf_countLiveDays_40 rfl rfl ?_
      refine qr_get (v := .int (nI T)) (pc := 41) d_bf_countLiveDays_41 fl_bf_60 (by decide) (by decide) (c_0 _ _) (congrArg (fun t => some (Value.int t)) hT2x) ?_
      refine qr_icmp_gt (tgt := 88) (pc := 44) d_bf_countLiveDays_44 (by decide) (fun h44 => ?_) (fun h44 => ?_)
      · skip
        have hi9 : M = i := by
          have := (nI_ltI (a := T) (b := F + i) (by omega) (by omega)).mp h44
          omega
        subst hi9
        exact qr_vret (pc := 88) d_bf_countLiveDays_88 rfl ⟨rfl, rfl, rfl⟩ (Nat.zero_le _) (Nat.zero_le _)
      · skip
        have hi7 : ¬ T < F + i := fun q => h44 (nI_lt q (by omega))
        have hi9 : i < M := by omega
        refine qr_aload_n (pc := 47) d_bf_countLiveDays_47 rfl rfl ?_
        refine qr_get (v := .ref 8) (pc := 48) d_bf_countLiveDays_48 fl_bf_24 (by decide) (by decide) (c_0 _ _) rfl ?_
        refine qr_iload_n (pc := 51) d_bf_countLiveDays_51 rfl rfl ?_
        refine qr_aald (w := 37 + 2 * c) (pc := 52) d_bf_countLiveDays_52 (by decide) (by decide) (c_8 _ _) rfl (vp_in_nI (by omega) (by decide)) (aal_8 (by omega)) ?_
        refine qr_iload_n (pc := 53) d_bf_countLiveDays_53 rfl rfl ?_
        refine qr_aload_n (pc := 54) d_bf_countLiveDays_54 rfl rfl ?_
        refine qr_get (v := .int (nI T)) (pc := 55) d_bf_countLiveDays_55 fl_bf_60 (by decide) (by decide) (c_0 _ _) (congrArg (fun t => some (Value.int t)) hT2x) ?_
        refine qr_callV (q := 37 + 2 * c) (As := [.int (nI (F + i)), .int (nI T)]) (pc := 58) d_bf_countLiveDays_58 lk_bf_282 im_cu_liveTariff se_cu_liveTariff rfl (isCu_c hc).1 (isCu_c hc).1 ((isCu_c hc).2.2.1 _ _) (s_cu_liveTariff _ x (u_cd I c F T i) L (37 + 2 * c) (38 + 2 * c) (isCu_c hc) (nI (F + i)) (nI T)) rfl rfl (Nat.le_of_ble_eq_true rfl) (Nat.le_of_ble_eq_true rfl) (Nat.le_of_ble_eq_true rfl) (Nat.zero_le _) (Nat.zero_le _) (fun h => ⟨h, rfl, Or.inl rfl⟩) (fun v n9 f9 hE58 => ?_)
        obtain ⟨rfl, rfl, rfl⟩ := hE58
        refine qr_istore (lv' := [(4, .int (u_live (u_cd I c F T i) (37 + 2 * c) (38 + 2 * c) (nI (F + i)) (nI T))), (3, .int (nI (F + i))), (0, .ref 0), (1, .int (nI c)), (2, .int (nI P))]) (pc := 61) d_bf_countLiveDays_61 (Nat.le_of_ble_eq_true rfl) rfl ?_
        generalize hglt : u_live (u_cd I c F T i) (37 + 2 * c) (38 + 2 * c) (nI (F + i)) (nI T) = lt
        refine qr_iload (pc := 63) d_bf_countLiveDays_63 rfl ?_
        refine qr_callS (As := [.int lt]) (pc := 65) d_bf_countLiveDays_65 lk_bf_94 sm_bf_isTariff (s_bf_isTariff _ x _ _ lt) rfl rfl (Nat.le_of_ble_eq_true rfl) (Nat.le_of_ble_eq_true rfl) (Nat.le_of_ble_eq_true rfl) (Nat.zero_le _) (Nat.zero_le _) (fun h => ⟨h, rfl, Or.inl rfl⟩) (fun v n9 f9 hE65 => ?_)
        obtain ⟨rfl, rfl, rfl⟩ := hE65
        refine qr_if_eq (tgt := 82) (pc := 68) d_bf_countLiveDays_68 (by decide) (fun h68 => ?_) (fun h68 => ?_)
        · skip
          rw [isT0] at h68
          refine qr_iinc (v := nI ((F + i) + 1)) (lv' := [(3, .int (nI ((F + i) + 1))), (4, .int lt), (0, .ref 0), (1, .int (nI c)), (2, .int (nI P))]) (pc := 82) d_bf_countLiveDays_82 rfl (nI_1 (F + i)) (Nat.le_of_ble_eq_true rfl) rfl ?_
          refine qr_goto (tgt := 27) (pc := 85) d_bf_countLiveDays_85 (by decide) ?_
          refine qR_sub (lv' := [(3, .int (nI ((F + i) + 1))), (0, .ref 0), (1, .int (nI c)), (2, .int (nI P))]) [0, 2, 3, 4] rfl ?_
          exact qR_st rfl rfl (by simp only [u_cd, hglt, h68, if_true, if_false, reduceIte]) (ih (i + 1) (by omega) (by omega))
        · skip
          rw [isT0] at h68
          obtain ⟨t9, ht9, rfl⟩ := isT_nI h68
          have hcl9 : (nI t9).toNatClampNeg = t9 := nI_clamp (by omega)
          refine qr_aload_n (pc := 71) d_bf_countLiveDays_71 rfl rfl ?_
          refine qr_get (v := .ref 26) (pc := 72) d_bf_countLiveDays_72 fl_bf_53 (by decide) (by decide) (c_0 _ _) rfl ?_
          refine qr_iload (pc := 75) d_bf_countLiveDays_75 rfl ?_
          refine qr_dup2_11 (pc := 77) d_bf_countLiveDays_77 rfl rfl ?_
          refine qr_ialdN (j := t9) (pc := 78) d_bf_countLiveDays_78 (by decide) (by decide) (c_26 _ _) (by omega) (by decide) ?_
          refine qr_iconst (v := 1) (pc := 79) d_bf_countLiveDays_79 (by decide) ?_
          refine qr_iadd (pc := 80) d_bf_countLiveDays_80 ?_
          refine qr_iastMN (j := t9) (pc := 81) d_bf_countLiveDays_81 (by decide) (by decide) (c_26 _ _) (by omega) (by decide) (fun w => rfl) ?_
          refine qr_iinc (v := nI ((F + i) + 1)) (lv' := [(3, .int (nI ((F + i) + 1))), (4, .int (nI t9)), (0, .ref 0), (1, .int (nI c)), (2, .int (nI P))]) (pc := 82) d_bf_countLiveDays_82 rfl (nI_1 (F + i)) (Nat.le_of_ble_eq_true rfl) rfl ?_
          refine qr_goto (tgt := 27) (pc := 85) d_bf_countLiveDays_85 (by decide) ?_
          refine qR_sub (lv' := [(3, .int (nI ((F + i) + 1))), (0, .ref 0), (1, .int (nI c)), (2, .int (nI P))]) [0, 2, 3, 4] rfl ?_
          exact qR_st rfl rfl (by simp only [u_cd, hglt, h68, if_true, if_false, reduceIte, hcl9]) (ih (i + 1) (by omega) (by omega))
  exact loop27 (M + 1) 0 (by omega) (by omega)
