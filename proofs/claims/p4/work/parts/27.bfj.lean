/-- one look at customer c and period P: ints, longs, how many invoices then -/
def u_dif (I : Nat → Nat → Int32) (L : Nat → Nat → Int64) (c P F G T M ne z : Nat) : Int64 := u_charge I L c F G T M ne - u_amts (u_cd I c F T M) (u_cuL (u_cd I c F T M) L c F G T ne) (nI c) (nI P) z
def u_id2I (I : Nat → Nat → Int32) (c P F T M z : Nat) : Nat → Nat → Int32 := wI (wI (wI (wI (u_cd I c F T M) 15 z (nI c)) 16 z (nI P)) 18 z (nI T)) 14 5 (nI (z + 1))
def u_id2L (I : Nat → Nat → Int32) (L : Nat → Nat → Int64) (c F G T M ne z : Nat) (d : Int64) : Nat → Nat → Int64 := wL (wL (u_cuL (u_cd I c F T M) L c F G T ne) 17 z d) 19 z (qmminl d 0)
def u_id3L (I : Nat → Nat → Int32) (L : Nat → Nat → Int64) (c F G T M ne z : Nat) (d : Int64) : Nat → Nat → Int64 := if 0 ≤ d then u_id2L I L c F G T M ne z d else wL (u_id2L I L c F G T M ne z d) (37 + 2 * c) 4 (u_id2L I L c F G T M ne z d (37 + 2 * c) 4 + -d)
def u_id (I : Nat → Nat → Int32) (L : Nat → Nat → Int64) (c P F G T M ne z : Nat) : (Nat → Nat → Int32) × (Nat → Nat → Int64) :=
  if z = 50 then (I, L) else if u_dif I L c P F G T M ne z = 0 then (u_cd I c F T M, u_cuL (u_cd I c F T M) L c F G T ne) else
    u_spend (u_id2I I c P F T M z) (u_id3L I L c F G T M ne z (u_dif I L c P F G T M ne z)) c (z + 1)
set_option maxRecDepth 10000 in
theorem s_bf_invoiceDifference (l : Launch) (x : Bool) (I : Nat → Nat → Int32) (L : Nat → Nat → Int64) (c P F G T M : Nat) (hc : c < 5) (hP : P < 14) (hF : I 25 P = nI F) (hG : I 25 (P + 1) = nI G) (hT : I 0 9 = nI T) (hT2 : T ≤ 400) (hFG : F ≤ G) (hG9 : G ≤ 1000) (hM : M = min (G - F) (T + 1 - F)) (ne : Nat) (hne : I 9 4 = nI ne) (hne2 : ne ≤ 80) (hTz : cT I) (z : Nat) (hz : I 14 5 = nI z) (hz2 : z ≤ 50) : qSp l y_bf_invoiceDifference b_bf_invoiceDifference 5 none x 6 0 0 [.ref 0, .int (nI c), .int (nI P)] 77 (fm I L) (qD none 77 (fm (u_id I L c P F G T M ne z).1 (u_id I L c P F G T M ne z).2)) := by
  refine qSp_of (ini := false) (by decide +kernel) (fun h => nomatch h) (Nat.le_of_ble_eq_true rfl) ?_
  have hz1 : (u_cd I c F T M) 14 5 = nI z := (u_cd_ne (by decide) M).trans hz
  have hT1 : (u_cd I c F T M) 0 9 = nI T := (u_cd_ne (by decide) M).trans hT
  show qR _ _ _ 0 [(0, .ref 0), (1, .int (nI c)), (2, .int (nI P))] [] _ _ _ _
  refine qr_aload_n (pc := 0) d_bf_invoiceDifference_0 rfl rfl ?_
  refine qr_get (v := .ref 14) (pc := 1) d_bf_invoiceDifference_1 fl_bf_38 (by decide) (by decide) (c_0 _ _) rfl ?_
  refine qr_callV (q := 14) (As := []) (pc := 4) d_bf_invoiceDifference_4 lk_bf_263 im_ib_isFull se_ib_isFull rfl (by decide) (by decide) (c_14 _ _) (s_ib_isFull _ x I L z hz hz2) rfl rfl (Nat.le_of_ble_eq_true rfl) (Nat.le_of_ble_eq_true rfl) (Nat.le_of_ble_eq_true rfl) (Nat.zero_le _) (Nat.zero_le _) (fun h => ⟨h, rfl, Or.inl rfl⟩) (fun v n9 f9 hE4 => ?_)
  obtain ⟨rfl, rfl, rfl⟩ := hE4
  refine qr_if_eq (tgt := 11) (pc := 7) d_bf_invoiceDifference_7 (by decide) (fun h7 => ?_) (fun h7 => ?_)
  · skip
    simp only [b01, Decidable.not_not] at h7
    have hlt : z < 50 := Nat.not_le.mp (fun q => h7 (nI_le (a := 50) q (by omega)))
    have hne8 : ¬ z = 50 := by omega
    refine qr_aload_n (pc := 11) d_bf_invoiceDifference_11 rfl rfl ?_
    refine qr_iload_n (pc := 12) d_bf_invoiceDifference_12 rfl rfl ?_
    refine qr_iload_n (pc := 13) d_bf_invoiceDifference_13 rfl rfl ?_
    refine qr_callV (q := 0) (As := [.int (nI c), .int (nI P)]) (pc := 14) d_bf_invoiceDifference_14 lk_bf_190 im_bf_chargeOf se_bf_chargeOf rfl (by decide) (by decide) (c_0 _ _) (s_bf_chargeOf _ x I L c P F G T M hc hP hF hG hT hT2 hFG hG9 hM ne hne hne2 hTz) rfl rfl (Nat.le_of_ble_eq_true rfl) (Nat.le_of_ble_eq_true rfl) (Nat.le_of_ble_eq_true rfl) (Nat.zero_le _) (Nat.zero_le _) (fun h => ⟨h, rfl, Or.inl rfl⟩) (fun v n9 f9 hE14 => ?_)
    obtain ⟨rfl, rfl, rfl⟩ := hE14
    refine qr_aload_n (pc := 17) d_bf_invoiceDifference_17 rfl rfl ?_
    refine qr_get (v := .ref 14) (pc := 18) d_bf_invoiceDifference_18 fl_bf_38 (by decide) (by decide) (c_0 _ _) rfl ?_
    refine qr_iload_n (pc := 21) d_bf_invoiceDifference_21 rfl rfl ?_
    refine qr_iload_n (pc := 22) d_bf_invoiceDifference_22 rfl rfl ?_
    refine qr_callV (q := 14) (As := [.int (nI c), .int (nI P)]) (pc := 23) d_bf_invoiceDifference_23 lk_bf_264 im_ib_amountsOf se_ib_amountsOf rfl (by decide) (by decide) (c_14 _ _) (s_ib_amountsOf _ x (u_cd I c F T M) (u_cuL (u_cd I c F T M) L c F G T ne) z hz1 hz2 (nI c) (nI P)) rfl rfl (Nat.le_of_ble_eq_true rfl) (Nat.le_of_ble_eq_true rfl) (Nat.le_of_ble_eq_true rfl) (Nat.zero_le _) (Nat.zero_le _) (fun h => ⟨h, rfl, Or.inl rfl⟩) (fun v n9 f9 hE23 => ?_)
    obtain ⟨rfl, rfl, rfl⟩ := hE23
    refine qr_lsub (pc := 26) d_bf_invoiceDifference_26 ?_
    refine qr_lstore_n (lv' := [(3, .long ((u_charge I L c F G T M ne) - (u_amts (u_cd I c F T M) (u_cuL (u_cd I c F T M) L c F G T ne) (nI c) (nI P) z))), (0, .ref 0), (1, .int (nI c)), (2, .int (nI P))]) (pc := 27) d_bf_invoiceDifference_27 rfl (Nat.le_of_ble_eq_true rfl) rfl ?_
    generalize hgd : (u_charge I L c F G T M ne) - (u_amts (u_cd I c F T M) (u_cuL (u_cd I c F T M) L c F G T ne) (nI c) (nI P) z) = d
    refine qr_lload_n (pc := 28) d_bf_invoiceDifference_28 rfl rfl ?_
    refine qr_lconst (v := 0) (pc := 29) d_bf_invoiceDifference_29 (by decide) ?_
    refine qr_lcmp (pc := 30) d_bf_invoiceDifference_30 ?_
    refine qr_if_ne (tgt := 35) (pc := 31) d_bf_invoiceDifference_31 (by decide) (fun h31 => ?_) (fun h31 => ?_)
    · skip
      rw [lgc_eq] at h31
      have hd0 : ¬ u_dif I L c P F G T M ne z = 0 := fun q => h31 (hgd.symm.trans q)
      have hdd : u_dif I L c P F G T M ne z = d := hgd
      refine qr_aload_n (pc := 35) d_bf_invoiceDifference_35 rfl rfl ?_
      refine qr_get (v := .ref 14) (pc := 36) d_bf_invoiceDifference_36 fl_bf_38 (by decide) (by decide) (c_0 _ _) rfl ?_
      refine qr_iload_n (pc := 39) d_bf_invoiceDifference_39 rfl rfl ?_
      refine qr_iload_n (pc := 40) d_bf_invoiceDifference_40 rfl rfl ?_
      refine qr_lload_n (pc := 41) d_bf_invoiceDifference_41 rfl rfl ?_
      refine qr_aload_n (pc := 42) d_bf_invoiceDifference_42 rfl rfl ?_
      refine qr_get (v := .int (nI T)) (pc := 43) d_bf_invoiceDifference_43 fl_bf_60 (by decide) (by decide) (c_0 _ _) (congrArg (fun t => some (Value.int t)) hT1) ?_
      refine qr_callV (q := 14) (As := [.int (nI c), .int (nI P), .long d, .int (nI T)]) (pc := 46) d_bf_invoiceDifference_46 lk_bf_266 im_ib_add se_ib_add rfl (by decide) (by decide) (c_14 _ _) (s_ib_addL _ x (u_cd I c F T M) (u_cuL (u_cd I c F T M) L c F G T ne) z hz1 hlt (nI c) (nI P) d (nI T)) rfl rfl (Nat.le_of_ble_eq_true rfl) (Nat.le_of_ble_eq_true rfl) (Nat.le_of_ble_eq_true rfl) (Nat.zero_le _) (Nat.zero_le _) (fun h => ⟨h, rfl, Or.inl rfl⟩) (fun v n9 f9 hE46 => ?_)
      obtain ⟨rfl, rfl, rfl⟩ := hE46
      refine qr_lload_n (pc := 49) d_bf_invoiceDifference_49 rfl rfl ?_
      refine qr_lconst (v := 0) (pc := 50) d_bf_invoiceDifference_50 (by decide) ?_
      refine qr_lcmp (pc := 51) d_bf_invoiceDifference_51 ?_
      refine qr_if_ge (tgt := 66) (pc := 52) d_bf_invoiceDifference_52 (by decide) (fun h52 => ?_) (fun h52 => ?_)
      · skip
        rw [lgc_ge] at h52
        refine qr_aload_n (pc := 66) d_bf_invoiceDifference_66 rfl rfl ?_
        refine qr_iload_n (pc := 67) d_bf_invoiceDifference_67 rfl rfl ?_
        refine qr_callV (q := 0) (As := [.int (nI c)]) (pc := 68) d_bf_invoiceDifference_68 lk_bf_182 im_bf_spendCredit se_bf_spendCredit rfl (by decide) (by decide) (c_0 _ _) (s_bf_spendCredit _ x (u_id2I I c P F T M z) (u_id2L I L c F G T M ne z d) (z + 1) c rfl (by omega) hc) rfl rfl (Nat.le_of_ble_eq_true rfl) (Nat.le_of_ble_eq_true rfl) (Nat.le_of_ble_eq_true rfl) (Nat.zero_le _) (Nat.zero_le _) (fun h => ⟨h, rfl, Or.inl rfl⟩) (fun v n9 f9 hE68 => ?_)
        obtain ⟨rfl, rfl, rfl⟩ := hE68
        exact qr_vret (pc := 71) d_bf_invoiceDifference_71 rfl ⟨rfl, rfl, (by rw [u_id, if_neg hne8, if_neg hd0, hdd, u_id3L]; simp only [h52, if_true, if_false, reduceIte])⟩ (Nat.zero_le _) (Nat.zero_le _)
      · skip
        rw [lgc_ge] at h52
        refine qr_aload_n (pc := 55) d_bf_invoiceDifference_55 rfl rfl ?_
        refine qr_get (v := .ref 8) (pc := 56) d_bf_invoiceDifference_56 fl_bf_24 (by decide) (by decide) (c_0 _ _) rfl ?_
        refine qr_iload_n (pc := 59) d_bf_invoiceDifference_59 rfl rfl ?_
        refine qr_aald (w := 37 + 2 * c) (pc := 60) d_bf_invoiceDifference_60 (by decide) (by decide) (c_8 _ _) rfl (vp_in_nI (by omega) (by decide)) (aal_8 (by omega)) ?_
        refine qr_lload_n (pc := 61) d_bf_invoiceDifference_61 rfl rfl ?_
        refine qr_lneg (pc := 62) d_bf_invoiceDifference_62 ?_
        refine qr_callV (q := 37 + 2 * c) (As := [.long (-d)]) (pc := 63) d_bf_invoiceDifference_63 lk_bf_179 im_cu_addCredit se_cu_addCredit rfl (isCu_c hc).1 (isCu_c hc).1 ((isCu_c hc).2.2.1 _ _) (s_cu_addCredit _ x (u_id2I I c P F T M z) (u_id2L I L c F G T M ne z d) (37 + 2 * c) (38 + 2 * c) (isCu_c hc) (-d)) rfl rfl (Nat.le_of_ble_eq_true rfl) (Nat.le_of_ble_eq_true rfl) (Nat.le_of_ble_eq_true rfl) (Nat.zero_le _) (Nat.zero_le _) (fun h => ⟨h, rfl, Or.inl rfl⟩) (fun v n9 f9 hE63 => ?_)
        obtain ⟨rfl, rfl, rfl⟩ := hE63
        refine qr_aload_n (pc := 66) d_bf_invoiceDifference_66 rfl rfl ?_
        refine qr_iload_n (pc := 67) d_bf_invoiceDifference_67 rfl rfl ?_
        refine qr_callV (q := 0) (As := [.int (nI c)]) (pc := 68) d_bf_invoiceDifference_68 lk_bf_182 im_bf_spendCredit se_bf_spendCredit rfl (by decide) (by decide) (c_0 _ _) (s_bf_spendCredit _ x (u_id2I I c P F T M z) (wL (u_id2L I L c F G T M ne z d) (37 + 2 * c) 4 ((u_id2L I L c F G T M ne z d) (37 + 2 * c) 4 + (-d))) (z + 1) c rfl (by omega) hc) rfl rfl (Nat.le_of_ble_eq_true rfl) (Nat.le_of_ble_eq_true rfl) (Nat.le_of_ble_eq_true rfl) (Nat.zero_le _) (Nat.zero_le _) (fun h => ⟨h, rfl, Or.inl rfl⟩) (fun v n9 f9 hE68 => ?_)
        obtain ⟨rfl, rfl, rfl⟩ := hE68
        exact qr_vret (pc := 71) d_bf_invoiceDifference_71 rfl ⟨rfl, rfl, (by rw [u_id, if_neg hne8, if_neg hd0, hdd, u_id3L]; simp only [h52, if_true, if_false, reduceIte])⟩ (Nat.zero_le _) (Nat.zero_le _)
    · skip
      rw [lgc_eq] at h31
      exact qr_vret (pc := 34) d_bf_invoiceDifference_34 rfl ⟨rfl, rfl, (by have hd0 : u_dif I L c P F G T M ne z = 0 := hgd.trans h31; rw [u_id, if_neg hne8, if_pos hd0])⟩ (Nat.zero_le _) (Nat.zero_le _)
  · skip
    simp only [b01, Decidable.not_not] at h7
    have hz8 : z = 50 := by
      have := (nI_leI (a := 50) (b := z) (by omega) (by omega)).mp h7
      omega
    exact qr_vret (pc := 10) d_bf_invoiceDifference_10 rfl ⟨rfl, rfl, (by rw [u_id, if_pos hz8])⟩ (Nat.zero_le _) (Nat.zero_le _)
