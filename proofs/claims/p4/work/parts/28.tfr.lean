/-! BillForge.run: FD the first days of the periods, pe how many of them have ended, s = (ints, longs) -/
theorem u_spend_ne {I : Nat → Nat → Int32} {L : Nat → Nat → Int64} {c z a b : Nat} (h : a < 37) : (u_spend I L c z).1 a b = I a b := by
  unfold u_spend
  split
  · rfl
  · exact u_look_ne (by omega)
theorem u_id_ne {I : Nat → Nat → Int32} {L : Nat → Nat → Int64} {c P F G T M ne z a b : Nat} (h : a < 37) (h26 : a ≠ 26) (h14 : a < 14 ∨ 18 < a) : (u_id I L c P F G T M ne z).1 a b = I a b := by
  unfold u_id
  split
  · rfl
  · split
    · exact u_cd_ne h26 M
    · rw [u_spend_ne h, u_id2I, wI_ne (Or.inl (by omega)), wI_ne (Or.inl (by omega)), wI_ne (Or.inl (by omega)), wI_ne (Or.inl (by omega)), u_cd_ne h26]
theorem u_id_z {I : Nat → Nat → Int32} {L : Nat → Nat → Int64} {c P F G T M ne z : Nat} (hz : I 14 5 = nI z) (hz2 : z ≤ 50) : ∃ z', z' ≤ 50 ∧ (u_id I L c P F G T M ne z).1 14 5 = nI z' := by
  unfold u_id
  split
  · exact ⟨z, hz2, hz⟩
  · split
    · exact ⟨z, hz2, (u_cd_ne (by decide) M).trans hz⟩
    · exact ⟨z + 1, by omega, by rw [u_spend_ne (by decide), u_id2I, wI_at]⟩
def cR (FD : Nat → Nat) (T ne : Nat) (I : Nat → Nat → Int32) : Prop := (∀ P, P ≤ 14 → I 25 P = nI (FD P)) ∧ I 0 9 = nI T ∧ I 9 4 = nI ne ∧ cT I ∧ ∃ z, z ≤ 50 ∧ I 14 5 = nI z
def zof (I : Nat → Nat → Int32) : Nat := (I 14 5).toNatClampNeg
theorem cR_z {FD : Nat → Nat} {T ne : Nat} {I : Nat → Nat → Int32} (h : cR FD T ne I) : I 14 5 = nI (zof I) ∧ zof I ≤ 50 := by
  obtain ⟨_, _, _, _, z, h1, h2⟩ := h
  have : zof I = z := by
    unfold zof
    rw [h2]
    exact nI_clamp (by omega)
  rw [this]
  exact ⟨h2, h1⟩
abbrev qIL := (Nat → Nat → Int32) × (Nat → Nat → Int64)
def u_r1 (FD : Nat → Nat) (T ne c P : Nat) (s : qIL) : qIL := u_id s.1 s.2 c P (FD P) (FD (P + 1)) T (min (FD (P + 1) - FD P) (T + 1 - FD P)) ne (zof s.1)
def u_rp (FD : Nat → Nat) (T ne c : Nat) (s : qIL) : Nat → qIL
  | 0 => s
  | P + 1 => u_r1 FD T ne c P (u_rp FD T ne c s P)
def u_rc (FD : Nat → Nat) (T ne pe : Nat) (s : qIL) : Nat → qIL
  | 0 => s
  | c + 1 => u_rp FD T ne c (u_rc FD T ne pe s c) pe
theorem cR_r1 {FD : Nat → Nat} {T ne c P : Nat} {s : qIL} (h : cR FD T ne s.1) : cR FD T ne (u_r1 FD T ne c P s).1 := by
  have hz := cR_z h
  obtain ⟨h1, h2, h3, h4, _⟩ := h
  refine ⟨fun P hP => ?_, ?_, ?_, fun t ht => ?_, u_id_z hz.1 hz.2⟩
  · exact (u_id_ne (by decide) (by decide) (by decide)).trans (h1 P hP)
  · exact (u_id_ne (by decide) (by decide) (by decide)).trans h2
  · exact (u_id_ne (by decide) (by decide) (by decide)).trans h3
  · unfold ctz u_r1
    rw [u_id_ne (by omega) (by omega) (by omega)]
    exact h4 t ht
theorem cR_rp {FD : Nat → Nat} {T ne c : Nat} {s : qIL} (h : cR FD T ne s.1) : ∀ P, cR FD T ne (u_rp FD T ne c s P).1
  | 0 => h
  | P + 1 => cR_r1 (cR_rp h P)
theorem cR_rc {FD : Nat → Nat} {T ne pe : Nat} {s : qIL} (h : cR FD T ne s.1) : ∀ c, cR FD T ne (u_rc FD T ne pe s c).1
  | 0 => h
  | c + 1 => cR_rp (cR_rc h c) pe
set_option maxRecDepth 10000 in
theorem s_bf_run (l : Launch) (x : Bool) (I : Nat → Nat → Int32) (L : Nat → Nat → Int64) (FD : Nat → Nat) (T ne pe : Nat) (hR : cR FD T ne I) (hT2 : T ≤ 400) (hne2 : ne ≤ 80) (hFm : ∀ P, P < 14 → FD P ≤ FD (P + 1)) (hF9 : ∀ P, P ≤ 14 → FD P ≤ 1000) (hpe : pe ≤ 14) (hpe1 : ∀ P, P < pe → FD (P + 1) ≤ T) (hpe2 : pe < 14 → T < FD (pe + 1)) : qSp l y_bf_run b_bf_run 4 (some .int) x 9 0 0 [.ref 0] 77 (fm I L) (qD (some (.int (nI (zof (u_rc FD T ne pe (I, L) 5).1) - nI (zof I)))) 77 (fm (u_rc FD T ne pe (I, L) 5).1 (u_rc FD T ne pe (I, L) 5).2)) := by
  refine qSp_of (ini := false) (by decide +kernel) (fun h => nomatch h) (Nat.le_of_ble_eq_true rfl) ?_
  show qR _ _ _ 0 [(0, .ref 0)] [] _ _ _ _
  refine qr_aload_n (pc := 0) d_bf_run_0 rfl rfl ?_
  refine qr_get (v := .ref 14) (pc := 1) d_bf_run_1 fl_bf_38 (by decide) (by decide) (c_0 _ _) rfl ?_
  refine qr_callV (q := 14) (As := []) (pc := 4) d_bf_run_4 lk_bf_166 im_ib_size se_ib_size rfl (by decide) (by decide) (c_14 _ _) (s_ib_size _ x I L (zof I) (cR_z hR).1 (cR_z hR).2) rfl rfl (Nat.le_of_ble_eq_true rfl) (Nat.le_of_ble_eq_true rfl) (Nat.le_of_ble_eq_true rfl) (Nat.zero_le _) (Nat.zero_le _) (fun h => ⟨h, rfl, Or.inl rfl⟩) (fun v n9 f9 hE4 => ?_)
  obtain ⟨rfl, rfl, rfl⟩ := hE4
  refine qr_istore_n (lv' := [(1, .int (nI (zof I))), (0, .ref 0)]) (pc := 7) d_bf_run_7 rfl (Nat.le_of_ble_eq_true rfl) rfl ?_
  refine qr_iconst (v := 0) (pc := 8) d_bf_run_8 (by decide) ?_
  refine qr_istore_n (lv' := [(2, .int 0), (1, .int (nI (zof I))), (0, .ref 0)]) (pc := 9) d_bf_run_9 rfl (Nat.le_of_ble_eq_true rfl) rfl ?_
  have loop10 : ∀ (j1 c : Nat), 5 - c < j1 → c ≤ 5 → qR (l, y_bf_run.cls, b_bf_run, 4, (some .int), false, x, 9, 0, 0, 77, q0) (qD (some (.int (nI (zof (u_rc FD T ne pe (I, L) 5).1) - nI (zof I)))) 77 (fm (u_rc FD T ne pe (I, L) 5).1 (u_rc FD T ne pe (I, L) 5).2)) (fun _ _ _ => False) 10 [(2, .int (nI c)), (0, .ref 0), (1, .int (nI (zof I)))] [] 77 0 0 (fm (u_rc FD T ne pe (I, L) c).1 (u_rc FD T ne pe (I, L) c).2) := by
    intro j1
    induction j1 with
    | zero => intro c hj; omega
    | succ j1 ih1 =>
    intro c hjj1 hc1
    refine qr_iload_n (pc := 10) d_bf_run_10 rfl rfl ?_
    refine qr_iconst (v := 5) (pc := 11) d_bf_run_11 (by decide) ?_
    refine qr_icmp_ge (tgt := 56) (pc := 12) d_bf_run_12 (by decide) (fun h12 => ?_) (fun h12 => ?_)
    · skip
      have hc1z : 5 = c := by
        have := (nI_leI (a := 5) (b := c) (by omega) (by omega)).mp h12
        omega
      subst hc1z
      refine qr_aload_n (pc := 56) d_bf_run_56 rfl rfl ?_
      refine qr_get (v := .ref 14) (pc := 57) d_bf_run_57 fl_bf_38 (by decide) (by decide) (c_0 _ _) rfl ?_
      refine qr_callV (q := 14) (As := []) (pc := 60) d_bf_run_60 lk_bf_166 im_ib_size se_ib_size rfl (by decide) (by decide) (c_14 _ _) (s_ib_size _ x (u_rc FD T ne pe (I, L) 5).1 (u_rc FD T ne pe (I, L) 5).2 (zof (u_rc FD T ne pe (I, L) 5).1) (cR_z (cR_rc (pe := pe) (s := (I, L)) hR 5)).1 (cR_z (cR_rc (pe := pe) (s := (I, L)) hR 5)).2) rfl rfl (Nat.le_of_ble_eq_true rfl) (Nat.le_of_ble_eq_true rfl) (Nat.le_of_ble_eq_true rfl) (Nat.zero_le _) (Nat.zero_le _) (fun h => ⟨h, rfl, Or.inl rfl⟩) (fun v n9 f9 hE60 => ?_)
      obtain ⟨rfl, rfl, rfl⟩ := hE60
      refine qr_iload_n (pc := 63) d_bf_run_63 rfl rfl ?_
      refine qr_isub (pc := 64) d_bf_run_64 ?_
      exact qr_iret (pc := 65) d_bf_run_65 rfl rfl ⟨rfl, rfl, rfl⟩ (Nat.zero_le _) (Nat.zero_le _)
    · skip
      have hc1z : c < 5 := by
        have := mt (nI_leI (a := 5) (b := c) (by omega) (by omega)).mpr h12
        omega
      have hc : c < 5 := hc1z
      refine qr_iconst (v := 0) (pc := 15) d_bf_run_15 (by decide) ?_
      refine qr_istore_n (lv' := [(3, .int 0), (2, .int (nI c)), (0, .ref 0), (1, .int (nI (zof I)))]) (pc := 16) d_bf_run_16 rfl (Nat.le_of_ble_eq_true rfl) rfl ?_
      have loop17 : ∀ (j2 P : Nat), pe - P < j2 → P ≤ pe → qR (l, y_bf_run.cls, b_bf_run, 4, (some .int), false, x, 9, 0, 0, 77, q0) (qD (some (.int (nI (zof (u_rc FD T ne pe (I, L) 5).1) - nI (zof I)))) 77 (fm (u_rc FD T ne pe (I, L) 5).1 (u_rc FD T ne pe (I, L) 5).2)) (fun _ _ _ => False) 17 [(3, .int (nI P)), (0, .ref 0), (1, .int (nI (zof I))), (2, .int (nI c))] [] 77 0 0 (fm (u_rp FD T ne c (u_rc FD T ne pe (I, L) c) P).1 (u_rp FD T ne c (u_rc FD T ne pe (I, L) c) P).2) := by
        intro j2
        induction j2 with
        | zero => intro P hj; omega
        | succ j2 ih2 =>
        intro P hjj2 hP2
        have hq := cR_rp (c := c) (cR_rc (pe := pe) (s := (I, L)) hR c) P
        have hqz := cR_z hq
        obtain ⟨hqF, hqT, hqe, hqt, _⟩ := hq
        refine qr_iload_n (pc := 17) d_bf_run_17 rfl rfl ?_
        refine qr_bipush (v := 14) (pc := 18) d_bf_run_18 (by decide) ?_
        refine qr_icmp_ge (tgt := 50) (pc := 20) d_bf_run_20 (by decide) (fun h20 => ?_) (fun h20 => ?_)
        · skip
          have hPz : pe = P := by
            have := (nI_leI (a := 14) (b := P) (by omega) (by omega)).mp h20
            omega
          subst hPz
          refine qr_iinc (v := nI (c + 1)) (lv' := [(2, .int (nI (c + 1))), (3, .int (nI pe)), (0, .ref 0), (1, .int (nI (zof I)))]) (pc := 50) d_bf_run_50 rfl (nI_1 c) (Nat.le_of_ble_eq_true rfl) rfl ?_
          refine qr_goto (tgt := 10) (pc := 53) d_bf_run_53 (by decide) ?_
          refine qR_sub (lv' := [(2, .int (nI (c + 1))), (0, .ref 0), (1, .int (nI (zof I)))]) [0, 2, 3] rfl ?_
          exact qR_st (by rfl) rfl (rfl) (ih1 (c + 1) (by omega) (by omega))
        · skip
          have hP : P < 14 := by
            have := mt (nI_leI (a := 14) (b := P) (by omega) (by omega)).mpr h20
            omega
          have hqG := hqF (P + 1) (by omega)
          have hF9P := hF9 (P + 1) (by omega)
          refine qr_aload_n (pc := 23) d_bf_run_23 rfl rfl ?_
          refine qr_get (v := .ref 25) (pc := 24) d_bf_run_24 fl_bf_49 (by decide) (by decide) (c_0 _ _) rfl ?_
          refine qr_iload_n (pc := 27) d_bf_run_27 rfl rfl ?_
          refine qr_iconst (v := 1) (pc := 28) d_bf_run_28 (by decide) ?_
          refine qr_iadd (pc := 29) d_bf_run_29 ?_
          refine qR_st (st' := [.int (nI (P + 1)), .ref 25]) rfl (by rw [nI_1] <;> rfl) rfl ?_
          refine qr_ialdN (j := (P + 1)) (pc := 30) d_bf_run_30 (by decide) (by decide) (c_25 _ _) (by omega) (by decide) ?_
          refine qR_st (st' := [.int (nI (FD (P + 1)))]) rfl (by rw [hqG] <;> rfl) rfl ?_
          refine qr_aload_n (pc := 31) d_bf_run_31 rfl rfl ?_
          refine qr_get (v := .int (nI T)) (pc := 32) d_bf_run_32 fl_bf_60 (by decide) (by decide) (c_0 _ _) (congrArg (fun t => some (Value.int t)) hqT) ?_
          refine qr_icmp_gt (tgt := 50) (pc := 35) d_bf_run_35 (by decide) (fun h35 => ?_) (fun h35 => ?_)
          · skip
            have hPz : pe = P := by
              rcases Nat.lt_or_ge P pe with e | e
              · exact absurd (nI_le (hpe1 P e) (by omega)) (Int32.not_le.mpr h35)
              · omega
            subst hPz
            refine qr_iinc (v := nI (c + 1)) (lv' := [(2, .int (nI (c + 1))), (3, .int (nI pe)), (0, .ref 0), (1, .int (nI (zof I)))]) (pc := 50) d_bf_run_50 rfl (nI_1 c) (Nat.le_of_ble_eq_true rfl) rfl ?_
            refine qr_goto (tgt := 10) (pc := 53) d_bf_run_53 (by decide) ?_
            refine qR_sub (lv' := [(2, .int (nI (c + 1))), (0, .ref 0), (1, .int (nI (zof I)))]) [0, 2, 3] rfl ?_
            exact qR_st (by rfl) rfl (rfl) (ih1 (c + 1) (by omega) (by omega))
          · skip
            have hPl : P < pe := by
              rcases Nat.lt_or_ge P pe with e | e
              · exact e
              · have e2 : P = pe := by omega
                exact absurd ((nI_leI (by omega) (by omega)).mp (Int32.not_lt.mp h35)) (by have := hpe2 (by omega); rw [e2]; omega)
            refine qr_aload_n (pc := 38) d_bf_run_38 rfl rfl ?_
            refine qr_iload_n (pc := 39) d_bf_run_39 rfl rfl ?_
            refine qr_iload_n (pc := 40) d_bf_run_40 rfl rfl ?_
            refine qr_callV (q := 0) (As := [.int (nI c), .int (nI P)]) (pc := 41) d_bf_run_41 lk_bf_167 im_bf_invoiceDifference se_bf_invoiceDifference rfl (by decide) (by decide) (c_0 _ _) (s_bf_invoiceDifference _ x (u_rp FD T ne c (u_rc FD T ne pe (I, L) c) P).1 (u_rp FD T ne c (u_rc FD T ne pe (I, L) c) P).2 c P (FD P) (FD (P + 1)) T _ hc hP (hqF P (by omega)) hqG hqT hT2 (hFm P hP) hF9P rfl ne hqe hne2 hqt _ hqz.1 hqz.2) rfl rfl (Nat.le_of_ble_eq_true rfl) (Nat.le_of_ble_eq_true rfl) (Nat.le_of_ble_eq_true rfl) (Nat.zero_le _) (Nat.zero_le _) (fun h => ⟨h, rfl, Or.inl rfl⟩) (fun v n9 f9 hE41 => ?_)
            obtain ⟨rfl, rfl, rfl⟩ := hE41
            refine qr_iinc (v := nI (P + 1)) (lv' := [(3, .int (nI (P + 1))), (0, .ref 0), (1, .int (nI (zof I))), (2, .int (nI c))]) (pc := 44) d_bf_run_44 rfl (nI_1 P) (Nat.le_of_ble_eq_true rfl) rfl ?_
            refine qr_goto (tgt := 17) (pc := 47) d_bf_run_47 (by decide) ?_
            exact qR_st (by rfl) rfl (rfl) (ih2 (P + 1) (by omega) (by omega))
      refine qR_sub (lv' := [(3, .int 0), (0, .ref 0), (1, .int (nI (zof I))), (2, .int (nI c))]) [0, 2, 3, 1] rfl ?_
      exact loop17 (pe + 1) 0 (by omega) (by omega)
  refine qR_sub (lv' := [(2, .int 0), (0, .ref 0), (1, .int (nI (zof I)))]) [0, 2, 1] rfl ?_
  exact loop10 (5 + 1) 0 (by omega) (by omega)
