/-- units by tariffs (row 27) behind the first e events -/
def u_cuL (I : Nat → Nat → Int32) (L : Nat → Nat → Int64) (c F G T : Nat) : Nat → Nat → Nat → Int64
  | 0 => u_z27 L
  | e + 1 => if I 11 e = nI c then (if I 12 e < nI F then u_cuL I L c F G T e else if nI G ≤ I 12 e then u_cuL I L c F G T e else
      if u_live I (37 + 2 * c) (38 + 2 * c) (I 12 e) (nI T) < 0 ∨ 3 ≤ u_live I (37 + 2 * c) (38 + 2 * c) (I 12 e) (nI T) then u_cuL I L c F G T e else
      wL (u_cuL I L c F G T e) 27 (u_live I (37 + 2 * c) (38 + 2 * c) (I 12 e) (nI T)).toNatClampNeg (u_cuL I L c F G T e 27 (u_live I (37 + 2 * c) (38 + 2 * c) (I 12 e) (nI T)).toNatClampNeg + Int32.toInt64 (I 13 e)))
    else u_cuL I L c F G T e
set_option maxRecDepth 10000 in
theorem s_bf_countLiveUnits (l : Launch) (x : Bool) (I : Nat → Nat → Int32) (L : Nat → Nat → Int64) (c P F G T : Nat) (hc : c < 5) (hP : P < 14) (hF : I 25 P = nI F) (hG : I 25 (P + 1) = nI G) (hT : I 0 9 = nI T) (ne : Nat) (hne : I 9 4 = nI ne) (hne2 : ne ≤ 80) : qSp l y_bf_countLiveUnits b_bf_countLiveUnits 6 none x 3 0 0 [.ref 0, .int (nI c), .int (nI P)] 77 (fm I L) (qD none 77 (fm I (u_cuL I L c F G T ne))) := by
  refine qSp_of (ini := false) (by decide +kernel) (fun h => nomatch h) (Nat.le_of_ble_eq_true rfl) ?_
  show qR _ _ _ 0 [(0, .ref 0), (1, .int (nI c)), (2, .int (nI P))] [] _ _ _ _
  refine qr_iconst (v := 0) (pc := 0) d_bf_countLiveUnits_0 (by decide) ?_
  refine qr_istore_n (lv' := [(3, .int 0), (0, .ref 0), (1, .int (nI c)), (2, .int (nI P))]) (pc := 1) d_bf_countLiveUnits_1 rfl (Nat.le_of_ble_eq_true rfl) rfl ?_
  refine qr_iload_n (pc := 2) d_bf_countLiveUnits_2 rfl rfl ?_
  refine qr_iconst (v := 3) (pc := 3) d_bf_countLiveUnits_3 (by decide) ?_
  refine qr_icmp_ge (tgt := 20) (pc := 4) d_bf_countLiveUnits_4 (by decide) (fun h4 => absurd h4 (by decide)) (fun _ => ?_)
  refine qr_aload_n (pc := 7) d_bf_countLiveUnits_7 rfl rfl ?_
  refine qr_get (v := .ref 27) (pc := 8) d_bf_countLiveUnits_8 fl_bf_56 (by decide) (by decide) (c_0 _ _) rfl ?_
  refine qr_iload_n (pc := 11) d_bf_countLiveUnits_11 rfl rfl ?_
  refine qr_lconst (v := 0) (pc := 12) d_bf_countLiveUnits_12 (by decide) ?_
  refine qr_lastMN (j := 0) (pc := 13) d_bf_countLiveUnits_13 (by decide) (by decide) (c_27 _ _) (by decide) (by decide) (fun w => rfl) ?_
  refine qr_iinc (v := 1) (lv' := [(3, .int 1), (0, .ref 0), (1, .int (nI c)), (2, .int (nI P))]) (pc := 14) d_bf_countLiveUnits_14 rfl (by decide) (Nat.le_of_ble_eq_true rfl) rfl ?_
  refine qr_goto (tgt := 2) (pc := 17) d_bf_countLiveUnits_17 (by decide) ?_
  refine qr_iload_n (pc := 2) d_bf_countLiveUnits_2 rfl rfl ?_
  refine qr_iconst (v := 3) (pc := 3) d_bf_countLiveUnits_3 (by decide) ?_
  refine qr_icmp_ge (tgt := 20) (pc := 4) d_bf_countLiveUnits_4 (by decide) (fun h4 => absurd h4 (by decide)) (fun _ => ?_)
  refine qr_aload_n (pc := 7) d_bf_countLiveUnits_7 rfl rfl ?_
  refine qr_get (v := .ref 27) (pc := 8) d_bf_countLiveUnits_8 fl_bf_56 (by decide) (by decide) (c_0 _ _) rfl ?_
  refine qr_iload_n (pc := 11) d_bf_countLiveUnits_11 rfl rfl ?_
  refine qr_lconst (v := 0) (pc := 12) d_bf_countLiveUnits_12 (by decide) ?_
  refine qr_lastMN (j := 1) (pc := 13) d_bf_countLiveUnits_13 (by decide) (by decide) (c_27 _ _) (by decide) (by decide) (fun w => rfl) ?_
  refine qr_iinc (v := 2) (lv' := [(3, .int 2), (0, .ref 0), (1, .int (nI c)), (2, .int (nI P))]) (pc := 14) d_bf_countLiveUnits_14 rfl (by decide) (Nat.le_of_ble_eq_true rfl) rfl ?_
  refine qr_goto (tgt := 2) (pc := 17) d_bf_countLiveUnits_17 (by decide) ?_
  refine qr_iload_n (pc := 2) d_bf_countLiveUnits_2 rfl rfl ?_
  refine qr_iconst (v := 3) (pc := 3) d_bf_countLiveUnits_3 (by decide) ?_
  refine qr_icmp_ge (tgt := 20) (pc := 4) d_bf_countLiveUnits_4 (by decide) (fun h4 => absurd h4 (by decide)) (fun _ => ?_)
  refine qr_aload_n (pc := 7) d_bf_countLiveUnits_7 rfl rfl ?_
  refine qr_get (v := .ref 27) (pc := 8) d_bf_countLiveUnits_8 fl_bf_56 (by decide) (by decide) (c_0 _ _) rfl ?_
  refine qr_iload_n (pc := 11) d_bf_countLiveUnits_11 rfl rfl ?_
  refine qr_lconst (v := 0) (pc := 12) d_bf_countLiveUnits_12 (by decide) ?_
  refine qr_lastMN (j := 2) (pc := 13) d_bf_countLiveUnits_13 (by decide) (by decide) (c_27 _ _) (by decide) (by decide) (fun w => rfl) ?_
  refine qr_iinc (v := 3) (lv' := [(3, .int 3), (0, .ref 0), (1, .int (nI c)), (2, .int (nI P))]) (pc := 14) d_bf_countLiveUnits_14 rfl (by decide) (Nat.le_of_ble_eq_true rfl) rfl ?_
  refine qr_goto (tgt := 2) (pc := 17) d_bf_countLiveUnits_17 (by decide) ?_
  refine qr_iload_n (pc := 2) d_bf_countLiveUnits_2 rfl rfl ?_
  refine qr_iconst (v := 3) (pc := 3) d_bf_countLiveUnits_3 (by decide) ?_
  refine qr_icmp_ge (tgt := 20) (pc := 4) d_bf_countLiveUnits_4 (by decide) (fun _ => ?_) (fun h4 => absurd h4 (by decide))
  refine qr_iconst (v := 0) (pc := 20) d_bf_countLiveUnits_20 (by decide) ?_
  refine qr_istore_n (lv' := [(3, .int 0), (0, .ref 0), (1, .int (nI c)), (2, .int (nI P))]) (pc := 21) d_bf_countLiveUnits_21 rfl (Nat.le_of_ble_eq_true rfl) rfl ?_
  have loop22 : ∀ (j e : Nat), ne - e < j → e ≤ ne → qR (l, y_bf_countLiveUnits.cls, b_bf_countLiveUnits, 6, none, false, x, 3, 0, 0, 77, q0) (qD none 77 (fm I (u_cuL I L c F G T ne))) (fun _ _ _ => False) 22 [(3, .int (nI e)), (0, .ref 0), (1, .int (nI c)), (2, .int (nI P))] [] 77 0 0 (fm I (u_cuL I L c F G T e)) := by
    intro j
    induction j with
    | zero => intro e hj; omega
    | succ j ih =>
    intro e hjj he
    refine qr_iload_n (pc := 22) d_bf_countLiveUnits_22 rfl rfl ?_
    refine qr_aload_n (pc := 23) d_bf_countLiveUnits_23 rfl rfl ?_
    refine qr_get (v := .ref 9) (pc := 24) d_bf_countLiveUnits_24 fl_bf_31 (by decide) (by decide) (c_0 _ _) rfl ?_
    refine qr_callV (q := 9) (As := []) (pc := 27) d_bf_countLiveUnits_27 lk_bf_160 im_ev_size se_ev_size rfl (by decide) (by decide) (c_9 _ _) (s_ev_size _ x I (u_cuL I L c F G T e) ne hne hne2) rfl rfl (Nat.le_of_ble_eq_true rfl) (Nat.le_of_ble_eq_true rfl) (Nat.le_of_ble_eq_true rfl) (Nat.zero_le _) (Nat.zero_le _) (fun h => ⟨h, rfl, Or.inl rfl⟩) (fun v n9 f9 hE27 => ?_)
    obtain ⟨rfl, rfl, rfl⟩ := hE27
    refine qr_icmp_ge (tgt := 129) (pc := 30) d_bf_countLiveUnits_30 (by decide) (fun h30 => ?_) (fun h30 => ?_)
    · skip
      have hez : ne = e := by
        have := (nI_leI (a := ne) (b := e) (by omega) (by omega)).mp h30
        omega
      subst hez
      exact qr_vret (pc := 129) d_bf_countLiveUnits_129 rfl ⟨rfl, rfl, rfl⟩ (Nat.zero_le _) (Nat.zero_le _)
    · skip
      have hez : e < ne := by
        have := mt (nI_leI (a := ne) (b := e) (by omega) (by omega)).mpr h30
        omega
      refine qr_aload_n (pc := 33) d_bf_countLiveUnits_33 rfl rfl ?_
      refine qr_get (v := .ref 9) (pc := 34) d_bf_countLiveUnits_34 fl_bf_31 (by decide) (by decide) (c_0 _ _) rfl ?_
      refine qr_iload_n (pc := 37) d_bf_countLiveUnits_37 rfl rfl ?_
      refine qr_callV (q := 9) (As := [.int (nI e)]) (pc := 38) d_bf_countLiveUnits_38 lk_bf_285 im_ev_dayOf se_ev_dayOf rfl (by decide) (by decide) (c_9 _ _) (s_ev_dayOf _ x I (u_cuL I L c F G T e) e (by omega)) rfl rfl (Nat.le_of_ble_eq_true rfl) (Nat.le_of_ble_eq_true rfl) (Nat.le_of_ble_eq_true rfl) (Nat.zero_le _) (Nat.zero_le _) (fun h => ⟨h, rfl, Or.inl rfl⟩) (fun v n9 f9 hE38 => ?_)
      obtain ⟨rfl, rfl, rfl⟩ := hE38
      refine qr_istore (lv' := [(4, .int (I 12 e)), (3, .int (nI e)), (0, .ref 0), (1, .int (nI c)), (2, .int (nI P))]) (pc := 41) d_bf_countLiveUnits_41 (Nat.le_of_ble_eq_true rfl) rfl ?_
      refine qr_aload_n (pc := 43) d_bf_countLiveUnits_43 rfl rfl ?_
      refine qr_get (v := .ref 9) (pc := 44) d_bf_countLiveUnits_44 fl_bf_31 (by decide) (by decide) (c_0 _ _) rfl ?_
      refine qr_iload_n (pc := 47) d_bf_countLiveUnits_47 rfl rfl ?_
      refine qr_callV (q := 9) (As := [.int (nI e)]) (pc := 48) d_bf_countLiveUnits_48 lk_bf_286 im_ev_customerOf se_ev_customerOf rfl (by decide) (by decide) (c_9 _ _) (s_ev_customerOf _ x I (u_cuL I L c F G T e) e (by omega)) rfl rfl (Nat.le_of_ble_eq_true rfl) (Nat.le_of_ble_eq_true rfl) (Nat.le_of_ble_eq_true rfl) (Nat.zero_le _) (Nat.zero_le _) (fun h => ⟨h, rfl, Or.inl rfl⟩) (fun v n9 f9 hE48 => ?_)
      obtain ⟨rfl, rfl, rfl⟩ := hE48
      refine qr_iload_n (pc := 51) d_bf_countLiveUnits_51 rfl rfl ?_
      refine qr_icmp_ne (tgt := 123) (pc := 52) d_bf_countLiveUnits_52 (by decide) (fun h52 => ?_) (fun h52 => ?_)
      · skip
        refine qr_iinc (v := nI (e + 1)) (lv' := [(3, .int (nI (e + 1))), (4, .int (I 12 e)), (0, .ref 0), (1, .int (nI c)), (2, .int (nI P))]) (pc := 123) d_bf_countLiveUnits_123 rfl (nI_1 e) (Nat.le_of_ble_eq_true rfl) rfl ?_
        refine qr_goto (tgt := 22) (pc := 126) d_bf_countLiveUnits_126 (by decide) ?_
        refine qR_sub (lv' := [(3, .int (nI (e + 1))), (0, .ref 0), (1, .int (nI c)), (2, .int (nI P))]) [0, 2, 3, 4] rfl ?_
        exact qR_st rfl rfl (by first | (simp only [u_cuL, hglt, h52, h63, h76, h101, if_true, if_false, reduceIte, hcl9]; done) | (simp only [u_cuL, hglt, h52, h63, h76, h101, if_true, if_false, reduceIte]; done) | (simp only [u_cuL, h52, h63, h76, if_true, if_false, reduceIte]; done) | (simp only [u_cuL, h52, h63, if_true, if_false, reduceIte]; done) | simp only [u_cuL, h52, if_true, if_false, reduceIte]) (ih (e + 1) (by omega) (by omega))
      · skip
        refine qr_iload (pc := 55) d_bf_countLiveUnits_55 rfl ?_
        refine qr_aload_n (pc := 57) d_bf_countLiveUnits_57 rfl rfl ?_
        refine qr_get (v := .ref 25) (pc := 58) d_bf_countLiveUnits_58 fl_bf_49 (by decide) (by decide) (c_0 _ _) rfl ?_
        refine qr_iload_n (pc := 61) d_bf_countLiveUnits_61 rfl rfl ?_
        refine qr_ialdN (j := P) (pc := 62) d_bf_countLiveUnits_62 (by decide) (by decide) (c_25 _ _) (by omega) (by decide) ?_
        refine qR_st (st' := [.int (nI F), .int (I 12 e)]) rfl (by rw [hF] <;> rfl) rfl ?_
        refine qr_icmp_lt (tgt := 123) (pc := 63) d_bf_countLiveUnits_63 (by decide) (fun h63 => ?_) (fun h63 => ?_)
        · skip
          refine qr_iinc (v := nI (e + 1)) (lv' := [(3, .int (nI (e + 1))), (4, .int (I 12 e)), (0, .ref 0), (1, .int (nI c)), (2, .int (nI P))]) (pc := 123) d_bf_countLiveUnits_123 rfl (nI_1 e) (Nat.le_of_ble_eq_true rfl) rfl ?_
          refine qr_goto (tgt := 22) (pc := 126) d_bf_countLiveUnits_126 (by decide) ?_
          refine qR_sub (lv' := [(3, .int (nI (e + 1))), (0, .ref 0), (1, .int (nI c)), (2, .int (nI P))]) [0, 2, 3, 4] rfl ?_
          exact qR_st rfl rfl (by first | (simp only [u_cuL, hglt, h52, h63, h76, h101, if_true, if_false, reduceIte, hcl9]; done) | (simp only [u_cuL, hglt, h52, h63, h76, h101, if_true, if_false, reduceIte]; done) | (simp only [u_cuL, h52, h63, h76, if_true, if_false, reduceIte]; done) | (simp only [u_cuL, h52, h63, if_true, if_false, reduceIte]; done) | simp only [u_cuL, h52, if_true, if_false, reduceIte]) (ih (e + 1) (by omega) (by omega))
        · skip
          refine qr_iload (pc := 66) d_bf_countLiveUnits_66 rfl ?_
          refine qr_aload_n (pc := 68) d_bf_countLiveUnits_68 rfl rfl ?_
          refine qr_get (v := .ref 25) (pc := 69) d_bf_countLiveUnits_69 fl_bf_49 (by decide) (by decide) (c_0 _ _) rfl ?_
          refine qr_iload_n (pc := 72) d_bf_countLiveUnits_72 rfl rfl ?_
          refine qr_iconst (v := 1) (pc := 73) d_bf_countLiveUnits_73 (by decide) ?_
          refine qr_iadd (pc := 74) d_bf_countLiveUnits_74 ?_
          refine qR_st (st' := [.int (nI (P + 1)), .ref 25, .int (I 12 e)]) rfl (by rw [nI_1] <;> rfl) rfl ?_
          refine qr_ialdN (j := (P + 1)) (pc := 75) d_bf_countLiveUnits_75 (by decide) (by decide) (c_25 _ _) (by omega) (by decide) ?_
          refine qR_st (st' := [.int (nI G), .int (I 12 e)]) rfl (by rw [hG] <;> rfl) rfl ?_
          refine qr_icmp_ge (tgt := 123) (pc := 76) d_bf_countLiveUnits_76 (by decide) (fun h76 => ?_) (fun h76 => ?_)
          · skip
            refine qr_iinc (v := nI (e + 1)) (lv' := [(3, .int (nI (e + 1))), (4, .int (I 12 e)), (0, .ref 0), (1, .int (nI c)), (2, .int (nI P))]) (pc := 123) d_bf_countLiveUnits_123 rfl (nI_1 e) (Nat.le_of_ble_eq_true rfl) rfl ?_
            refine qr_goto (tgt := 22) (pc := 126) d_bf_countLiveUnits_126 (by decide) ?_
            refine qR_sub (lv' := [(3, .int (nI (e + 1))), (0, .ref 0), (1, .int (nI c)), (2, .int (nI P))]) [0, 2, 3, 4] rfl ?_
            exact qR_st rfl rfl (by first | (simp only [u_cuL, hglt, h52, h63, h76, h101, if_true, if_false, reduceIte, hcl9]; done) | (simp only [u_cuL, hglt, h52, h63, h76, h101, if_true, if_false, reduceIte]; done) | (simp only [u_cuL, h52, h63, h76, if_true, if_false, reduceIte]; done) | (simp only [u_cuL, h52, h63, if_true, if_false, reduceIte]; done) | simp only [u_cuL, h52, if_true, if_false, reduceIte]) (ih (e + 1) (by omega) (by omega))
          · skip
            refine qr_aload_n (pc := 79) d_bf_countLiveUnits_79 rfl rfl ?_
            refine qr_get (v := .ref 8) (pc := 80) d_bf_countLiveUnits_80 fl_bf_24 (by decide) (by decide) (c_0 _ _) rfl ?_
            refine qr_iload_n (pc := 83) d_bf_countLiveUnits_83 rfl rfl ?_
            refine qr_aald (w := 37 + 2 * c) (pc := 84) d_bf_countLiveUnits_84 (by decide) (by decide) (c_8 _ _) rfl (vp_in_nI (by omega) (by decide)) (aal_8 (by omega)) ?_
            refine qr_iload (pc := 85) d_bf_countLiveUnits_85 rfl ?_
            refine qr_aload_n (pc := 87) d_bf_countLiveUnits_87 rfl rfl ?_
            refine qr_get (v := .int (nI T)) (pc := 88) d_bf_countLiveUnits_88 fl_bf_60 (by decide) (by decide) (c_0 _ _) (congrArg (fun t => some (Value.int t)) hT) ?_
            refine qr_callV (q := 37 + 2 * c) (As := [.int (I 12 e), .int (nI T)]) (pc := 91) d_bf_countLiveUnits_91 lk_bf_282 im_cu_liveTariff se_cu_liveTariff rfl (isCu_c hc).1 (isCu_c hc).1 ((isCu_c hc).2.2.1 _ _) (s_cu_liveTariff _ x I (u_cuL I L c F G T e) (37 + 2 * c) (38 + 2 * c) (isCu_c hc) (I 12 e) (nI T)) rfl rfl (Nat.le_of_ble_eq_true rfl) (Nat.le_of_ble_eq_true rfl) (Nat.le_of_ble_eq_true rfl) (Nat.zero_le _) (Nat.zero_le _) (fun h => ⟨h, rfl, Or.inl rfl⟩) (fun v n9 f9 hE91 => ?_)
            obtain ⟨rfl, rfl, rfl⟩ := hE91
            refine qr_istore (lv' := [(5, .int (u_live I (37 + 2 * c) (38 + 2 * c) (I 12 e) (nI T))), (4, .int (I 12 e)), (3, .int (nI e)), (0, .ref 0), (1, .int (nI c)), (2, .int (nI P))]) (pc := 94) d_bf_countLiveUnits_94 (Nat.le_of_ble_eq_true rfl) rfl ?_
            generalize hglt : u_live I (37 + 2 * c) (38 + 2 * c) (I 12 e) (nI T) = lt
            refine qr_iload (pc := 96) d_bf_countLiveUnits_96 rfl ?_
            refine qr_callS (As := [.int lt]) (pc := 98) d_bf_countLiveUnits_98 lk_bf_94 sm_bf_isTariff (s_bf_isTariff _ x _ _ lt) rfl rfl (Nat.le_of_ble_eq_true rfl) (Nat.le_of_ble_eq_true rfl) (Nat.le_of_ble_eq_true rfl) (Nat.zero_le _) (Nat.zero_le _) (fun h => ⟨h, rfl, Or.inl rfl⟩) (fun v n9 f9 hE98 => ?_)
            obtain ⟨rfl, rfl, rfl⟩ := hE98
            refine qr_if_eq (tgt := 123) (pc := 101) d_bf_countLiveUnits_101 (by decide) (fun h101 => ?_) (fun h101 => ?_)
            · skip
              rw [isT0] at h101
              refine qr_iinc (v := nI (e + 1)) (lv' := [(3, .int (nI (e + 1))), (5, .int lt), (4, .int (I 12 e)), (0, .ref 0), (1, .int (nI c)), (2, .int (nI P))]) (pc := 123) d_bf_countLiveUnits_123 rfl (nI_1 e) (Nat.le_of_ble_eq_true rfl) rfl ?_
              refine qr_goto (tgt := 22) (pc := 126) d_bf_countLiveUnits_126 (by decide) ?_
              refine qR_sub (lv' := [(3, .int (nI (e + 1))), (0, .ref 0), (1, .int (nI c)), (2, .int (nI P))]) [0, 3, 4, 5] rfl ?_
              exact qR_st rfl rfl (by first | (simp only [u_cuL, hglt, h52, h63, h76, h101, if_true, if_false, reduceIte, hcl9]; done) | (simp only [u_cuL, hglt, h52, h63, h76, h101, if_true, if_false, reduceIte]; done) | (simp only [u_cuL, h52, h63, h76, if_true, if_false, reduceIte]; done) | (simp only [u_cuL, h52, h63, if_true, if_false, reduceIte]; done) | simp only [u_cuL, h52, if_true, if_false, reduceIte]) (ih (e + 1) (by omega) (by omega))
            · skip
              rw [isT0] at h101
              obtain ⟨t9, ht9, rfl⟩ := isT_nI h101
              have hcl9 : (nI t9).toNatClampNeg = t9 := nI_clamp (by omega)
              refine qr_aload_n (pc := 104) d_bf_countLiveUnits_104 rfl rfl ?_
              refine qr_get (v := .ref 27) (pc := 105) d_bf_countLiveUnits_105 fl_bf_56 (by decide) (by decide) (c_0 _ _) rfl ?_
              refine qr_iload (pc := 108) d_bf_countLiveUnits_108 rfl ?_
              refine qr_dup2_11 (pc := 110) d_bf_countLiveUnits_110 rfl rfl ?_
              refine qr_laldN (j := t9) (pc := 111) d_bf_countLiveUnits_111 (by decide) (by decide) (c_27 _ _) (by omega) (by decide) ?_
              refine qr_aload_n (pc := 112) d_bf_countLiveUnits_112 rfl rfl ?_
              refine qr_get (v := .ref 9) (pc := 113) d_bf_countLiveUnits_113 fl_bf_31 (by decide) (by decide) (c_0 _ _) rfl ?_
              refine qr_iload_n (pc := 116) d_bf_countLiveUnits_116 rfl rfl ?_
              refine qr_callV (q := 9) (As := [.int (nI e)]) (pc := 117) d_bf_countLiveUnits_117 lk_bf_287 im_ev_unitsOf se_ev_unitsOf rfl (by decide) (by decide) (c_9 _ _) (s_ev_unitsOf _ x I (u_cuL I L c F G T e) e (by omega)) rfl rfl (Nat.le_of_ble_eq_true rfl) (Nat.le_of_ble_eq_true rfl) (Nat.le_of_ble_eq_true rfl) (Nat.zero_le _) (Nat.zero_le _) (fun h => ⟨h, rfl, Or.inl rfl⟩) (fun v n9 f9 hE117 => ?_)
              obtain ⟨rfl, rfl, rfl⟩ := hE117
              refine qr_i2l (pc := 120) d_bf_countLiveUnits_120 ?_
              refine qr_ladd (pc := 121) d_bf_countLiveUnits_121 ?_
              refine qr_lastMN (j := t9) (pc := 122) d_bf_countLiveUnits_122 (by decide) (by decide) (c_27 _ _) (by omega) (by decide) (fun w => rfl) ?_
              refine qr_iinc (v := nI (e + 1)) (lv' := [(3, .int (nI (e + 1))), (5, .int (nI t9)), (4, .int (I 12 e)), (0, .ref 0), (1, .int (nI c)), (2, .int (nI P))]) (pc := 123) d_bf_countLiveUnits_123 rfl (nI_1 e) (Nat.le_of_ble_eq_true rfl) rfl ?_
              refine qr_goto (tgt := 22) (pc := 126) d_bf_countLiveUnits_126 (by decide) ?_
              refine qR_sub (lv' := [(3, .int (nI (e + 1))), (0, .ref 0), (1, .int (nI c)), (2, .int (nI P))]) [0, 3, 4, 5] rfl ?_
              exact qR_st rfl rfl (by first | (simp only [u_cuL, hglt, h52, h63, h76, h101, if_true, if_false, reduceIte, hcl9]; done) | (simp only [u_cuL, hglt, h52, h63, h76, h101, if_true, if_false, reduceIte]; done) | (simp only [u_cuL, h52, h63, h76, if_true, if_false, reduceIte]; done) | (simp only [u_cuL, h52, h63, if_true, if_false, reduceIte]; done) | simp only [u_cuL, h52, if_true, if_false, reduceIte]) (ih (e + 1) (by omega) (by omega))
  exact loop22 (ne + 1) 0 (by omega) (by omega)
def ctz (I : Nat → Nat → Int32) (t : Nat) : Nat := (I (28 + 3 * t) 5).toNatClampNeg
def cT (I : Nat → Nat → Int32) : Prop := ∀ t, t < 3 → I (28 + 3 * t) 5 = nI (ctz I t) ∧ ctz I t ≤ 4
theorem cT_cd {I : Nat → Nat → Int32} {c F T i : Nat} (h : cT I) : cT (u_cd I c F T i) := fun t ht => by
  unfold ctz
  rw [u_cd_ne (by omega)]
  exact h t ht
def u_csum (I : Nat → Nat → Int32) (L : Nat → Nat → Int64) (D : Int32) : Nat → Int64
  | 0 => 0
  | t + 1 => if I 26 t ≤ 0 then u_csum I L D t else u_csum I L D t + u_share (Int32.toInt64 (I (28 + 3 * t) 0)) (Int32.toInt64 (I 26 t)) (Int32.toInt64 D) + u_use I (28 + 3 * t) (29 + 3 * t) (30 + 3 * t) (ctz I t) (L 27 t) (I 26 t) D
def u_charge (I : Nat → Nat → Int32) (L : Nat → Nat → Int64) (c F G T M ne : Nat) : Int64 := u_csum (u_cd I c F T M) (u_cuL (u_cd I c F T M) L c F G T ne) (nI G - nI F) 3
set_option maxRecDepth 10000 in
theorem s_bf_chargeOf (l : Launch) (x : Bool) (I : Nat → Nat → Int32) (L : Nat → Nat → Int64) (c P F G T M : Nat) (hc : c < 5) (hP : P < 14) (hF : I 25 P = nI F) (hG : I 25 (P + 1) = nI G) (hT : I 0 9 = nI T) (hT2 : T ≤ 400) (hFG : F ≤ G) (hG9 : G ≤ 1000) (hM : M = min (G - F) (T + 1 - F)) (ne : Nat) (hne : I 9 4 = nI ne) (hne2 : ne ≤ 80) (hTz : cT I) : qSp l y_bf_chargeOf b_bf_chargeOf 7 (some .long) x 4 0 0 [.ref 0, .int (nI c), .int (nI P)] 77 (fm I L) (qD (some (.long (u_charge I L c F G T M ne))) 77 (fm (u_cd I c F T M) (u_cuL (u_cd I c F T M) L c F G T ne))) := by
  refine qSp_of (ini := false) (by decide +kernel) (fun h => nomatch h) (Nat.le_of_ble_eq_true rfl) ?_
  have hF1 : (u_cd I c F T M) 25 P = nI F := (u_cd_ne (by decide) M).trans hF
  have hG1 : (u_cd I c F T M) 25 (P + 1) = nI G := (u_cd_ne (by decide) M).trans hG
  have hT1 : (u_cd I c F T M) 0 9 = nI T := (u_cd_ne (by decide) M).trans hT
  have hne1 : (u_cd I c F T M) 9 4 = nI ne := (u_cd_ne (by decide) M).trans hne
  have hTz1 : cT (u_cd I c F T M) := cT_cd hTz
  show qR _ _ _ 0 [(0, .ref 0), (1, .int (nI c)), (2, .int (nI P))] [] _ _ _ _
  refine qr_aload_n (pc := 0) d_bf_chargeOf_0 rfl rfl ?_
  refine qr_iload_n (pc := 1) d_bf_chargeOf_1 rfl rfl ?_
  refine qr_iload_n (pc := 2) d_bf_chargeOf_2 rfl rfl ?_
  refine qr_callV (q := 0) (As := [.int (nI c), .int (nI P)]) (pc := 3) d_bf_chargeOf_3 lk_bf_273 im_bf_countLiveDays se_bf_countLiveDays rfl (by decide) (by decide) (c_0 _ _) (s_bf_countLiveDays _ x I L c P F G T M hc hP hF hG hT hT2 hFG hG9 hM) rfl rfl (Nat.le_of_ble_eq_true rfl) (Nat.le_of_ble_eq_true rfl) (Nat.le_of_ble_eq_true rfl) (Nat.zero_le _) (Nat.zero_le _) (fun h => ⟨h, rfl, Or.inl rfl⟩) (fun v n9 f9 hE3 => ?_)
  obtain ⟨rfl, rfl, rfl⟩ := hE3
  refine qr_aload_n (pc := 6) d_bf_chargeOf_6 rfl rfl ?_
  refine qr_iload_n (pc := 7) d_bf_chargeOf_7 rfl rfl ?_
  refine qr_iload_n (pc := 8) d_bf_chargeOf_8 rfl rfl ?_
  refine qr_callV (q := 0) (As := [.int (nI c), .int (nI P)]) (pc := 9) d_bf_chargeOf_9 lk_bf_276 im_bf_countLiveUnits se_bf_countLiveUnits rfl (by decide) (by decide) (c_0 _ _) (s_bf_countLiveUnits _ x (u_cd I c F T M) L c P F G T hc hP hF1 hG1 hT1 ne hne1 hne2) rfl rfl (Nat.le_of_ble_eq_true rfl) (Nat.le_of_ble_eq_true rfl) (Nat.le_of_ble_eq_true rfl) (Nat.zero_le _) (Nat.zero_le _) (fun h => ⟨h, rfl, Or.inl rfl⟩) (fun v n9 f9 hE9 => ?_)
  obtain ⟨rfl, rfl, rfl⟩ := hE9
  refine qr_aload_n (pc := 12) d_bf_chargeOf_12 rfl rfl ?_
  refine qr_get (v := .ref 25) (pc := 13) d_bf_chargeOf_13 fl_bf_49 (by decide) (by decide) (c_0 _ _) rfl ?_
  refine qr_iload_n (pc := 16) d_bf_chargeOf_16 rfl rfl ?_
  refine qr_iconst (v := 1) (pc := 17) d_bf_chargeOf_17 (by decide) ?_
  refine qr_iadd (pc := 18) d_bf_chargeOf_18 ?_
  refine qR_st (st' := [.int (nI (P + 1)), .ref 25]) rfl (by rw [nI_1] <;> rfl) rfl ?_
  refine qr_ialdN (j := (P + 1)) (pc := 19) d_bf_chargeOf_19 (by decide) (by decide) (c_25 _ _) (by omega) (by decide) ?_
  refine qR_st (st' := [.int (nI G)]) rfl (by rw [hG1] <;> rfl) rfl ?_
  refine qr_aload_n (pc := 20) d_bf_chargeOf_20 rfl rfl ?_
  refine qr_get (v := .ref 25) (pc := 21) d_bf_chargeOf_21 fl_bf_49 (by decide) (by decide) (c_0 _ _) rfl ?_
  refine qr_iload_n (pc := 24) d_bf_chargeOf_24 rfl rfl ?_
  refine qr_ialdN (j := P) (pc := 25) d_bf_chargeOf_25 (by decide) (by decide) (c_25 _ _) (by omega) (by decide) ?_
  refine qR_st (st' := [.int (nI F), .int (nI G)]) rfl (by rw [hF1] <;> rfl) rfl ?_
  refine qr_isub (pc := 26) d_bf_chargeOf_26 ?_
  refine qr_istore_n (lv' := [(3, .int ((nI G) - (nI F))), (0, .ref 0), (1, .int (nI c)), (2, .int (nI P))]) (pc := 27) d_bf_chargeOf_27 rfl (Nat.le_of_ble_eq_true rfl) rfl ?_
  refine qr_lconst (v := 0) (pc := 28) d_bf_chargeOf_28 (by decide) ?_
  refine qr_lstore (lv' := [(4, .long 0), (3, .int ((nI G) - (nI F))), (0, .ref 0), (1, .int (nI c)), (2, .int (nI P))]) (pc := 29) d_bf_chargeOf_29 (Nat.le_of_ble_eq_true rfl) rfl ?_
  refine qr_iconst (v := 0) (pc := 31) d_bf_chargeOf_31 (by decide) ?_
  refine qr_istore (lv' := [(6, .int 0), (4, .long 0), (3, .int ((nI G) - (nI F))), (0, .ref 0), (1, .int (nI c)), (2, .int (nI P))]) (pc := 32) d_bf_chargeOf_32 (Nat.le_of_ble_eq_true rfl) rfl ?_
  have loop34 : ∀ (j t : Nat), 3 - t < j → t ≤ 3 → qR (l, y_bf_chargeOf.cls, b_bf_chargeOf, 7, (some .long), false, x, 4, 0, 0, 77, q0) (qD (some (.long (u_charge I L c F G T M ne))) 77 (fm (u_cd I c F T M) (u_cuL (u_cd I c F T M) L c F G T ne))) (fun _ _ _ => False) 34 [(6, .int (nI t)), (4, .long (u_csum (u_cd I c F T M) (u_cuL (u_cd I c F T M) L c F G T ne) (nI G - nI F) t)), (3, .int ((nI G) - (nI F))), (0, .ref 0), (1, .int (nI c)), (2, .int (nI P))] [] 77 0 0 (fm (u_cd I c F T M) (u_cuL (u_cd I c F T M) L c F G T ne)) := by
    intro j
    induction j with
    | zero => intro t hj; omega
    | succ j ih =>
    intro t hjj htt
    refine qr_iload (pc := 34) d_bf_chargeOf_34 rfl ?_
    refine qr_iconst (v := 3) (pc := 36) d_bf_chargeOf_36 (by decide) ?_
    refine qr_icmp_ge (tgt := 109) (pc := 37) d_bf_chargeOf_37 (by decide) (fun h37 => ?_) (fun h37 => ?_)
    · skip
      have httz : 3 = t := by
        have := (nI_leI (a := 3) (b := t) (by omega) (by omega)).mp h37
        omega
      subst httz
      refine qr_lload (pc := 109) d_bf_chargeOf_109 rfl ?_
      exact qr_lret (pc := 111) d_bf_chargeOf_111 rfl ⟨rfl, rfl, rfl⟩ (Nat.zero_le _) (Nat.zero_le _)
    · skip
      have httz : t < 3 := by
        have := mt (nI_leI (a := 3) (b := t) (by omega) (by omega)).mpr h37
        omega
      have ht : t < 3 := httz
      refine qr_aload_n (pc := 40) d_bf_chargeOf_40 rfl rfl ?_
      refine qr_get (v := .ref 26) (pc := 41) d_bf_chargeOf_41 fl_bf_53 (by decide) (by decide) (c_0 _ _) rfl ?_
      refine qr_iload (pc := 44) d_bf_chargeOf_44 rfl ?_
      refine qr_ialdN (j := t) (pc := 46) d_bf_chargeOf_46 (by decide) (by decide) (c_26 _ _) (by omega) (by decide) ?_
      refine qr_if_le (tgt := 103) (pc := 47) d_bf_chargeOf_47 (by decide) (fun h47 => ?_) (fun h47 => ?_)
      · skip
        refine qr_iinc (v := nI (t + 1)) (lv' := [(6, .int (nI (t + 1))), (4, .long (u_csum (u_cd I c F T M) (u_cuL (u_cd I c F T M) L c F G T ne) (nI G - nI F) t)), (3, .int ((nI G) - (nI F))), (0, .ref 0), (1, .int (nI c)), (2, .int (nI P))]) (pc := 103) d_bf_chargeOf_103 rfl (nI_1 t) (Nat.le_of_ble_eq_true rfl) rfl ?_
        refine qr_goto (tgt := 34) (pc := 106) d_bf_chargeOf_106 (by decide) ?_
        exact qR_st (by simp only [u_csum, h47, if_true, if_false, reduceIte]) rfl (rfl) (ih (t + 1) (by omega) (by omega))
      · skip
        refine qr_lload (pc := 50) d_bf_chargeOf_50 rfl ?_
        refine qr_aload_n (pc := 52) d_bf_chargeOf_52 rfl rfl ?_
        refine qr_get (v := .ref 7) (pc := 53) d_bf_chargeOf_53 fl_bf_18 (by decide) (by decide) (c_0 _ _) rfl ?_
        refine qr_iload (pc := 56) d_bf_chargeOf_56 rfl ?_
        refine qr_aald (w := 28 + 3 * t) (pc := 58) d_bf_chargeOf_58 (by decide) (by decide) (c_7 _ _) rfl (vp_in_nI (by omega) (by decide)) (aal_7 (by omega)) ?_
        refine qr_aload_n (pc := 59) d_bf_chargeOf_59 rfl rfl ?_
        refine qr_get (v := .ref 26) (pc := 60) d_bf_chargeOf_60 fl_bf_53 (by decide) (by decide) (c_0 _ _) rfl ?_
        refine qr_iload (pc := 63) d_bf_chargeOf_63 rfl ?_
        refine qr_ialdN (j := t) (pc := 65) d_bf_chargeOf_65 (by decide) (by decide) (c_26 _ _) (by omega) (by decide) ?_
        refine qr_iload_n (pc := 66) d_bf_chargeOf_66 rfl rfl ?_
        refine qr_callV (q := 28 + 3 * t) (As := [.int ((u_cd I c F T M) 26 t), .int ((nI G) - (nI F))]) (pc := 67) d_bf_chargeOf_67 lk_bf_279 im_tf_feeOf se_tf_feeOf rfl (isTf_t ht).1 (isTf_t ht).1 ((isTf_t ht).2.2.2.1 _ _) (s_tf_feeOf _ x (u_cd I c F T M) (u_cuL (u_cd I c F T M) L c F G T ne) (28 + 3 * t) (29 + 3 * t) (30 + 3 * t) (isTf_t ht) ((u_cd I c F T M) 26 t) ((nI G) - (nI F))) rfl rfl (Nat.le_of_ble_eq_true rfl) (Nat.le_of_ble_eq_true rfl) (Nat.le_of_ble_eq_true rfl) (Nat.zero_le _) (Nat.zero_le _) (fun h => ⟨h, rfl, Or.inl rfl⟩) (fun v n9 f9 hE67 => ?_)
        obtain ⟨rfl, rfl, rfl⟩ := hE67
        refine qr_ladd (pc := 70) d_bf_chargeOf_70 ?_
        refine qr_lstore (lv' := [(4, .long ((u_csum (u_cd I c F T M) (u_cuL (u_cd I c F T M) L c F G T ne) (nI G - nI F) t) + (u_share (Int32.toInt64 ((u_cd I c F T M) (28 + 3 * t) 0)) (Int32.toInt64 ((u_cd I c F T M) 26 t)) (Int32.toInt64 ((nI G) - (nI F)))))), (6, .int (nI t)), (3, .int ((nI G) - (nI F))), (0, .ref 0), (1, .int (nI c)), (2, .int (nI P))]) (pc := 71) d_bf_chargeOf_71 (Nat.le_of_ble_eq_true rfl) rfl ?_
        refine qr_lload (pc := 73) d_bf_chargeOf_73 rfl ?_
        refine qr_aload_n (pc := 75) d_bf_chargeOf_75 rfl rfl ?_
        refine qr_get (v := .ref 7) (pc := 76) d_bf_chargeOf_76 fl_bf_18 (by decide) (by decide) (c_0 _ _) rfl ?_
        refine qr_iload (pc := 79) d_bf_chargeOf_79 rfl ?_
        refine qr_aald (w := 28 + 3 * t) (pc := 81) d_bf_chargeOf_81 (by decide) (by decide) (c_7 _ _) rfl (vp_in_nI (by omega) (by decide)) (aal_7 (by omega)) ?_
        refine qr_aload_n (pc := 82) d_bf_chargeOf_82 rfl rfl ?_
        refine qr_get (v := .ref 27) (pc := 83) d_bf_chargeOf_83 fl_bf_56 (by decide) (by decide) (c_0 _ _) rfl ?_
        refine qr_iload (pc := 86) d_bf_chargeOf_86 rfl ?_
        refine qr_laldN (j := t) (pc := 88) d_bf_chargeOf_88 (by decide) (by decide) (c_27 _ _) (by omega) (by decide) ?_
        refine qr_aload_n (pc := 89) d_bf_chargeOf_89 rfl rfl ?_
        refine qr_get (v := .ref 26) (pc := 90) d_bf_chargeOf_90 fl_bf_53 (by decide) (by decide) (c_0 _ _) rfl ?_
        refine qr_iload (pc := 93) d_bf_chargeOf_93 rfl ?_
        refine qr_ialdN (j := t) (pc := 95) d_bf_chargeOf_95 (by decide) (by decide) (c_26 _ _) (by omega) (by decide) ?_
        refine qr_iload_n (pc := 96) d_bf_chargeOf_96 rfl rfl ?_
        refine qr_callV (q := 28 + 3 * t) (As := [.long ((u_cuL (u_cd I c F T M) L c F G T ne) 27 t), .int ((u_cd I c F T M) 26 t), .int ((nI G) - (nI F))]) (pc := 97) d_bf_chargeOf_97 lk_bf_123 im_tf_useOf se_tf_useOf rfl (isTf_t ht).1 (isTf_t ht).1 ((isTf_t ht).2.2.2.1 _ _) (s_tf_useOf _ x (u_cd I c F T M) (u_cuL (u_cd I c F T M) L c F G T ne) (28 + 3 * t) (29 + 3 * t) (30 + 3 * t) (isTf_t ht) (ctz (u_cd I c F T M) t) (hTz1 t ht).1 (hTz1 t ht).2 ((u_cuL (u_cd I c F T M) L c F G T ne) 27 t) ((u_cd I c F T M) 26 t) ((nI G) - (nI F))) rfl rfl (Nat.le_of_ble_eq_true rfl) (Nat.le_of_ble_eq_true rfl) (Nat.le_of_ble_eq_true rfl) (Nat.zero_le _) (Nat.zero_le _) (fun h => ⟨h, rfl, Or.inl rfl⟩) (fun v n9 f9 hE97 => ?_)
        obtain ⟨rfl, rfl, rfl⟩ := hE97
        refine qr_ladd (pc := 100) d_bf_chargeOf_100 ?_
        refine qr_lstore (lv' := [(4, .long (((u_csum (u_cd I c F T M) (u_cuL (u_cd I c F T M) L c F G T ne) (nI G - nI F) t) + (u_share (Int32.toInt64 ((u_cd I c F T M) (28 + 3 * t) 0)) (Int32.toInt64 ((u_cd I c F T M) 26 t)) (Int32.toInt64 ((nI G) - (nI F))))) + (u_use (u_cd I c F T M) (28 + 3 * t) (29 + 3 * t) (30 + 3 * t) (ctz (u_cd I c F T M) t) ((u_cuL (u_cd I c F T M) L c F G T ne) 27 t) ((u_cd I c F T M) 26 t) ((nI G) - (nI F))))), (6, .int (nI t)), (3, .int ((nI G) - (nI F))), (0, .ref 0), (1, .int (nI c)), (2, .int (nI P))]) (pc := 101) d_bf_chargeOf_101 (Nat.le_of_ble_eq_true rfl) rfl ?_
        refine qr_iinc (v := nI (t + 1)) (lv' := [(6, .int (nI (t + 1))), (4, .long (((u_csum (u_cd I c F T M) (u_cuL (u_cd I c F T M) L c F G T ne) (nI G - nI F) t) + (u_share (Int32.toInt64 ((u_cd I c F T M) (28 + 3 * t) 0)) (Int32.toInt64 ((u_cd I c F T M) 26 t)) (Int32.toInt64 ((nI G) - (nI F))))) + (u_use (u_cd I c F T M) (28 + 3 * t) (29 + 3 * t) (30 + 3 * t) (ctz (u_cd I c F T M) t) ((u_cuL (u_cd I c F T M) L c F G T ne) 27 t) ((u_cd I c F T M) 26 t) ((nI G) - (nI F))))), (3, .int ((nI G) - (nI F))), (0, .ref 0), (1, .int (nI c)), (2, .int (nI P))]) (pc := 103) d_bf_chargeOf_103 rfl (nI_1 t) (Nat.le_of_ble_eq_true rfl) rfl ?_
        refine qr_goto (tgt := 34) (pc := 106) d_bf_chargeOf_106 (by decide) ?_
        exact qR_st (by simp only [u_csum, h47, if_true, if_false, reduceIte]) rfl (rfl) (ih (t + 1) (by omega) (by omega))
  exact loop34 (3 + 1) 0 (by omega) (by omega)
