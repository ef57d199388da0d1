/-! the reference's run -/
def m_is (I : Nat → Nat → Int32) (L : Nat → Nat → Int64) (c P : Int32) : Nat → Int64
  | 0 => 0
  | k + 1 => if I 67 k = c ∧ I 68 k = P then m_is I L c P k + L 70 k else m_is I L c P k
def mzof (I : Nat → Nat → Int32) : Nat := (I 47 29).toNatClampNeg
def m_rI (I : Nat → Nat → Int32) (c P T z : Nat) : Nat → Nat → Int32 := wI (wI (wI (wI I 67 z (nI c)) 68 z (nI P)) 69 z (nI T)) 47 29 (nI (z + 1))
def m_rL (L : Nat → Nat → Int64) (c z : Nat) (d : Int64) : Nat → Nat → Int64 := if 0 ≤ d then wL (wL L 70 z d) 71 z 0 else wL (wL (wL L 70 z d) 71 z d) 61 c (L 61 c - d)
abbrev qIM := (Nat → Nat → Int32) × (Nat → Nat → Int64)
def m_dif (T ne c P : Nat) (s : qIM) : Int64 := m_due s.1 T c (mF P) (mD P) ne - m_is s.1 s.2 (nI c) (nI P) (mzof s.1)
def m_r1 (T ne c P : Nat) (s : qIM) : qIM := if m_dif T ne c P s = 0 then s else if mzof s.1 = 50 then s else
  (m_setI (m_rI s.1 c P T (mzof s.1)) (m_rL s.2 c (mzof s.1) (m_dif T ne c P s)) c (mzof s.1 + 1), m_setL (m_rI s.1 c P T (mzof s.1)) (m_rL s.2 c (mzof s.1) (m_dif T ne c P s)) c (mzof s.1 + 1))
def m_rp (T ne c : Nat) (s : qIM) : Nat → qIM
  | 0 => s
  | P + 1 => m_r1 T ne c P (m_rp T ne c s P)
def m_rc (T ne pe : Nat) (s : qIM) : Nat → qIM
  | 0 => s
  | c + 1 => m_rp T ne c (m_rc T ne pe s c) pe
def mR (T ne : Nat) (I : Nat → Nat → Int32) : Prop := I 47 2 = nI T ∧ I 47 23 = nI ne ∧ mE I ne ∧ mT I ∧ ∃ z, z ≤ 50 ∧ I 47 29 = nI z
theorem m_setI_ne {I : Nat → Nat → Int32} {L : Nat → Nat → Int64} {c z a b : Nat} (h1 : a ≠ 59) (h2 : a ≠ 60) : m_setI I L c z a b = I a b := by
  unfold m_setI
  split
  · rfl
  · exact m_look_ne h1 h2
theorem m_rI_ne {I : Nat → Nat → Int32} {c P T z a b : Nat} (h1 : a ≠ 67) (h2 : a ≠ 68) (h3 : a ≠ 69) (h4 : a ≠ 47 ∨ b ≠ 29) : m_rI I c P T z a b = I a b := by
  unfold m_rI
  rw [wI_ne h4, wI_ne (Or.inl h3), wI_ne (Or.inl h2), wI_ne (Or.inl h1)]
theorem m_r1_ne {T ne c P a b : Nat} {s : qIM} (g1 : a ≠ 59) (g2 : a ≠ 60) (h1 : a ≠ 67) (h2 : a ≠ 68) (h3 : a ≠ 69) (h4 : a ≠ 47 ∨ b ≠ 29) : (m_r1 T ne c P s).1 a b = s.1 a b := by
  unfold m_r1
  split
  · rfl
  · split
    · rfl
    · exact (m_setI_ne g1 g2).trans (m_rI_ne h1 h2 h3 h4)
theorem mzof_of {I : Nat → Nat → Int32} {z : Nat} (h2 : z ≤ 50) (h : I 47 29 = nI z) : mzof I = z := by
  unfold mzof
  rw [h]
  exact nI_clamp (by omega)
theorem mR_r1 {T ne c P : Nat} {s : qIM} (h : mR T ne s.1) : mR T ne (m_r1 T ne c P s).1 := by
  obtain ⟨h1, h2, h3, h4, z, h5, h6⟩ := h
  have hz := mzof_of h5 h6
  refine ⟨?_, ?_, fun e he => ?_, fun t ht => ?_, ?_⟩
  · exact (m_r1_ne (by decide) (by decide) (by decide) (by decide) (by decide) (by decide)).trans h1
  · exact (m_r1_ne (by decide) (by decide) (by decide) (by decide) (by decide) (by decide)).trans h2
  · unfold dn
    rw [m_r1_ne (by decide) (by decide) (by decide) (by decide) (by decide) (Or.inl (by decide))]
    exact h3 e he
  · unfold tz
    rw [m_r1_ne (by decide) (by decide) (by decide) (by decide) (by decide) (Or.inl (by decide))]
    exact h4 t ht
  · unfold m_r1
    split
    · exact ⟨z, h5, h6⟩
    · split
      · exact ⟨z, h5, h6⟩
      · exact ⟨z + 1, by omega, by
          rw [hz]
          exact (m_setI_ne (by decide) (by decide)).trans (by rw [m_rI, wI_at])⟩
theorem mR_rp {T ne c : Nat} {s : qIM} (h : mR T ne s.1) : ∀ P, mR T ne (m_rp T ne c s P).1
  | 0 => h
  | P + 1 => mR_r1 (mR_rp h P)
theorem mR_rc {T ne pe : Nat} {s : qIM} (h : mR T ne s.1) : ∀ c, mR T ne (m_rc T ne pe s c).1
  | 0 => h
  | c + 1 => mR_rp (mR_rc h c) pe
def m_mk (I : Nat → Nat → Int32) (s : qIM) : Int32 := nI (mzof s.1) - nI (mzof I)
theorem m_mk0 (I : Nat → Nat → Int32) (L : Nat → Nat → Int64) : m_mk I (wI I 47 0 0, L) = 0 := by
  have : mzof (wI I 47 0 0) = mzof I := by
    unfold mzof
    rw [wI_ne (Or.inr (by decide))]
  unfold m_mk
  rw [this, Int32.sub_self]
theorem mR_w {T ne : Nat} {I : Nat → Nat → Int32} (h : mR T ne I) : mR T ne (wI I 47 0 0) := by
  obtain ⟨h1, h2, h3, h4, z, h5, h6⟩ := h
  exact ⟨(wI_ne (Or.inr (by decide))).trans h1, (wI_ne (Or.inr (by decide))).trans h2, mE_w47 h3, mT_w47 h4, z, h5, (wI_ne (Or.inr (by decide))).trans h6⟩
theorem m_mkS {I : Nat → Nat → Int32} {T ne c P z : Nat} {s : qIM} (hz : mzof s.1 = z) (hlt : z < 50) (h0 : ¬ m_dif T ne c P s = 0) : m_mk I (m_r1 T ne c P s) = m_mk I s + 1 := by
  have h9 : mzof (m_r1 T ne c P s).1 = z + 1 := by
    refine mzof_of (by omega) ?_
    unfold m_r1
    rw [if_neg h0, if_neg (by omega)]
    simp only [hz]
    rw [m_setI_ne (by decide) (by decide), m_rI, wI_at]
  unfold m_mk
  rw [h9, hz, ← nI_1]
  grind
set_option maxRecDepth 10000 in
theorem s_md_run (l : Launch) (x : Bool) (I : Nat → Nat → Int32) (L : Nat → Nat → Int64) (T ne pe : Nat) (hR : mR T ne I) (hT2 : T ≤ 400) (hne2 : ne ≤ 80) (hpe : pe ≤ 14) (hpe1 : ∀ P, P < pe → m_first (P + 1) ≤ nI T) (hpe2 : pe < 14 → nI T < m_first (pe + 1)) : qSp l y_md_run b_md_run 9 (some .int) x 6 0 0 [.ref 47] 77 (fm I L) (qD (some (.int (m_mk I (m_rc T ne pe ((wI I 47 0 0), L) 5)))) 77 (fm (m_rc T ne pe ((wI I 47 0 0), L) 5).1 (m_rc T ne pe ((wI I 47 0 0), L) 5).2)) := by
  refine qSp_of (ini := false) (by decide +kernel) (fun h => nomatch h) (Nat.le_of_ble_eq_true rfl) ?_
  show qR _ _ _ 0 [(0, .ref 47)] [] _ _ _ _
  refine qr_iconst (v := 0) (pc := 0) d_md_run_0 (by decide) ?_
  refine qr_istore_n (lv' := [(1, .int 0), (0, .ref 47)]) (pc := 1) d_md_run_1 rfl (Nat.le_of_ble_eq_true rfl) rfl ?_
  refine qr_aload_n (pc := 2) d_md_run_2 rfl rfl ?_
  refine qr_iconst (v := 0) (pc := 3) d_md_run_3 (by decide) ?_
  refine qr_putI (pc := 4) d_md_run_4 fl_md_99 (by decide) (by decide) (c_47 _ _) (Nat.le_of_ble_eq_true rfl) (qFit_i _) (fun w => rfl) ?_
  refine qr_iconst (v := 0) (pc := 7) d_md_run_7 (by decide) ?_
  refine qr_istore_n (lv' := [(2, .int 0), (1, .int 0), (0, .ref 47)]) (pc := 8) d_md_run_8 rfl (Nat.le_of_ble_eq_true rfl) rfl ?_
  have loop9 : ∀ (j1 c : Nat), 5 - c < j1 → c ≤ 5 → qR (l, y_md_run.cls, b_md_run, 9, (some .int), false, x, 6, 0, 0, 77, q0) (qD (some (.int (m_mk I (m_rc T ne pe ((wI I 47 0 0), L) 5)))) 77 (fm (m_rc T ne pe ((wI I 47 0 0), L) 5).1 (m_rc T ne pe ((wI I 47 0 0), L) 5).2)) (fun _ _ _ => False) 9 [(2, .int (nI c)), (0, .ref 47), (1, .int (m_mk I (m_rc T ne pe ((wI I 47 0 0), L) c)))] [] 77 0 0 (fm (m_rc T ne pe ((wI I 47 0 0), L) c).1 (m_rc T ne pe ((wI I 47 0 0), L) c).2) := by
    intro j1
    induction j1 with
    | zero => intro c hj; omega
    | succ j1 ih1 =>
    intro c hjj1 hc1
    refine qr_iload_n (pc := 9) d_md_run_9 rfl rfl ?_
    refine qr_iconst (v := 5) (pc := 10) d_md_run_10 (by decide) ?_
    refine qr_icmp_ge (tgt := 230) (pc := 11) d_md_run_11 (by decide) (fun h11 => ?_) (fun h11 => ?_)
    · skip
      have hc1z : 5 = c := by
        have := (nI_leI (a := 5) (b := c) (by omega) (by omega)).mp h11
        omega
      subst hc1z
      refine qr_iload_n (pc := 230) d_md_run_230 rfl rfl ?_
      exact qr_iret (pc := 231) d_md_run_231 rfl rfl ⟨rfl, rfl, rfl⟩ (Nat.zero_le _) (Nat.zero_le _)
    · skip
      have hc1z : c < 5 := by
        have := mt (nI_leI (a := 5) (b := c) (by omega) (by omega)).mpr h11
        omega
      have hc : c < 5 := hc1z
      refine qr_iconst (v := 0) (pc := 14) d_md_run_14 (by decide) ?_
      refine qr_istore_n (lv' := [(3, .int 0), (2, .int (nI c)), (0, .ref 47), (1, .int (m_mk I (m_rc T ne pe ((wI I 47 0 0), L) c)))]) (pc := 15) d_md_run_15 rfl (Nat.le_of_ble_eq_true rfl) rfl ?_
      have loop16 : ∀ (j2 P : Nat), pe - P < j2 → P ≤ pe → qR (l, y_md_run.cls, b_md_run, 9, (some .int), false, x, 6, 0, 0, 77, q0) (qD (some (.int (m_mk I (m_rc T ne pe ((wI I 47 0 0), L) 5)))) 77 (fm (m_rc T ne pe ((wI I 47 0 0), L) 5).1 (m_rc T ne pe ((wI I 47 0 0), L) 5).2)) (fun _ _ _ => False) 16 [(3, .int (nI P)), (0, .ref 47), (1, .int (m_mk I (m_rp T ne c (m_rc T ne pe ((wI I 47 0 0), L) c) P))), (2, .int (nI c))] [] 77 0 0 (fm (m_rp T ne c (m_rc T ne pe ((wI I 47 0 0), L) c) P).1 (m_rp T ne c (m_rc T ne pe ((wI I 47 0 0), L) c) P).2) := by
        intro j2
        induction j2 with
        | zero => intro P hj; omega
        | succ j2 ih2 =>
        intro P hjj2 hP2
        have hq := mR_rp (c := c) (mR_rc (pe := pe) (s := ((wI I 47 0 0), L)) (mR_w hR) c) P
        obtain ⟨hqT, hqe, hqE, hqt, z, hz2, hz⟩ := hq
        have hzo := mzof_of hz2 hz
        refine qr_iload_n (pc := 16) d_md_run_16 rfl rfl ?_
        refine qr_bipush (v := 14) (pc := 17) d_md_run_17 (by decide) ?_
        refine qr_icmp_ge (tgt := 224) (pc := 19) d_md_run_19 (by decide) (fun h19 => ?_) (fun h19 => ?_)
        · skip
          have hPz : pe = P := by
            have := (nI_leI (a := 14) (b := P) (by omega) (by omega)).mp h19
            omega
          subst hPz
          refine qr_iinc (v := nI (c + 1)) (lv' := [(2, .int (nI (c + 1))), (3, .int (nI pe)), (0, .ref 47), (1, .int (m_mk I (m_rp T ne c (m_rc T ne pe ((wI I 47 0 0), L) c) pe)))]) (pc := 224) d_md_run_224 rfl (nI_1 c) (Nat.le_of_ble_eq_true rfl) rfl ?_
          refine qr_goto (tgt := 9) (pc := 227) d_md_run_227 (by decide) ?_
          refine qR_sub (lv' := [(2, .int (nI (c + 1))), (0, .ref 47), (1, .int (m_mk I (m_rp T ne c (m_rc T ne pe ((wI I 47 0 0), L) c) pe)))]) [0, 2, 3] rfl ?_
          exact qR_st (by rfl) rfl (rfl) (ih1 (c + 1) (by omega) (by omega))
        · skip
          have hP : P < 14 := by
            have := mt (nI_leI (a := 14) (b := P) (by omega) (by omega)).mpr h19
            omega
          refine qr_iload_n (pc := 22) d_md_run_22 rfl rfl ?_
          refine qr_iconst (v := 1) (pc := 23) d_md_run_23 (by decide) ?_
          refine qr_iadd (pc := 24) d_md_run_24 ?_
          refine qR_st (st' := [.int (nI (P + 1))]) rfl (by rw [nI_1] <;> rfl) rfl ?_
          refine qr_callS (As := [.int (nI (P + 1))]) (pc := 25) d_md_run_25 lk_md_191 sm_md_firstOf (s_md_firstOf _ x _ _ (P + 1) (by omega)) rfl rfl (Nat.le_of_ble_eq_true rfl) (Nat.le_of_ble_eq_true rfl) (Nat.le_of_ble_eq_true rfl) (Nat.zero_le _) (Nat.zero_le _) (fun h => ⟨h, rfl, Or.inl rfl⟩) (fun v n9 f9 hE25 => ?_)
          obtain ⟨rfl, rfl, rfl⟩ := hE25
          refine qr_aload_n (pc := 28) d_md_run_28 rfl rfl ?_
          refine qr_get (v := .int (nI T)) (pc := 29) d_md_run_29 fl_md_188 (by decide) (by decide) (c_47 _ _) (congrArg (fun t => some (Value.int t)) hqT) ?_
          refine qr_icmp_gt (tgt := 224) (pc := 32) d_md_run_32 (by decide) (fun h32 => ?_) (fun h32 => ?_)
          · skip
            have hPz : pe = P := by
              rcases Nat.lt_or_ge P pe with e | e
              · exact absurd (hpe1 P e) (Int32.not_le.mpr h32)
              · omega
            subst hPz
            refine qr_iinc (v := nI (c + 1)) (lv' := [(2, .int (nI (c + 1))), (3, .int (nI pe)), (0, .ref 47), (1, .int (m_mk I (m_rp T ne c (m_rc T ne pe ((wI I 47 0 0), L) c) pe)))]) (pc := 224) d_md_run_224 rfl (nI_1 c) (Nat.le_of_ble_eq_true rfl) rfl ?_
            refine qr_goto (tgt := 9) (pc := 227) d_md_run_227 (by decide) ?_
            refine qR_sub (lv' := [(2, .int (nI (c + 1))), (0, .ref 47), (1, .int (m_mk I (m_rp T ne c (m_rc T ne pe ((wI I 47 0 0), L) c) pe)))]) [0, 2, 3] rfl ?_
            exact qR_st (by rfl) rfl (rfl) (ih1 (c + 1) (by omega) (by omega))
          · skip
            have hPl : P < pe := by
              rcases Nat.lt_or_ge P pe with e | e
              · exact e
              · have e2 : P = pe := by omega
                exact absurd (by rw [e2]; exact hpe2 (by omega)) h32
            refine qr_lconst (v := 0) (pc := 35) d_md_run_35 (by decide) ?_
            refine qr_lstore (lv' := [(4, .long 0), (3, .int (nI P)), (0, .ref 47), (1, .int (m_mk I (m_rp T ne c (m_rc T ne pe ((wI I 47 0 0), L) c) P))), (2, .int (nI c))]) (pc := 36) d_md_run_36 (Nat.le_of_ble_eq_true rfl) rfl ?_
            refine qr_iconst (v := 0) (pc := 38) d_md_run_38 (by decide) ?_
            refine qr_istore (lv' := [(6, .int 0), (4, .long 0), (3, .int (nI P)), (0, .ref 47), (1, .int (m_mk I (m_rp T ne c (m_rc T ne pe ((wI I 47 0 0), L) c) P))), (2, .int (nI c))]) (pc := 39) d_md_run_39 (Nat.le_of_ble_eq_true rfl) rfl ?_
            have loop41 : ∀ (j3 k : Nat), z - k < j3 → k ≤ z → qR (l, y_md_run.cls, b_md_run, 9, (some .int), false, x, 6, 0, 0, 77, q0) (qD (some (.int (m_mk I (m_rc T ne pe ((wI I 47 0 0), L) 5)))) 77 (fm (m_rc T ne pe ((wI I 47 0 0), L) 5).1 (m_rc T ne pe ((wI I 47 0 0), L) 5).2)) (fun _ _ _ => False) 41 [(6, .int (nI k)), (4, .long (m_is (m_rp T ne c (m_rc T ne pe ((wI I 47 0 0), L) c) P).1 (m_rp T ne c (m_rc T ne pe ((wI I 47 0 0), L) c) P).2 (nI c) (nI P) k)), (3, .int (nI P)), (0, .ref 47), (1, .int (m_mk I (m_rp T ne c (m_rc T ne pe ((wI I 47 0 0), L) c) P))), (2, .int (nI c))] [] 77 0 0 (fm (m_rp T ne c (m_rc T ne pe ((wI I 47 0 0), L) c) P).1 (m_rp T ne c (m_rc T ne pe ((wI I 47 0 0), L) c) P).2) := by
              intro j3
              induction j3 with
              | zero => intro k hj; omega
              | succ j3 ih3 =>
              intro k hjj3 hk
              refine qr_iload (pc := 41) d_md_run_41 rfl ?_
              refine qr_aload_n (pc := 43) d_md_run_43 rfl rfl ?_
              refine qr_get (v := .int (nI z)) (pc := 44) d_md_run_44 fl_md_213 (by decide) (by decide) (c_47 _ _) (congrArg (fun t => some (Value.int t)) hz) ?_
              refine qr_icmp_ge (tgt := 90) (pc := 47) d_md_run_47 (by decide) (fun h47 => ?_) (fun h47 => ?_)
              · skip
                have hkz : z = k := by
                  have := (nI_leI (a := z) (b := k) (by omega) (by omega)).mp h47
                  omega
                subst hkz
                refine qr_aload_n (pc := 90) d_md_run_90 rfl rfl ?_
                refine qr_iload_n (pc := 91) d_md_run_91 rfl rfl ?_
                refine qr_iload_n (pc := 92) d_md_run_92 rfl rfl ?_
                refine qr_callV (q := 47) (As := [.int (nI c), .int (nI P)]) (pc := 93) d_md_run_93 lk_md_205 im_md_due se_md_due rfl (by decide) (by decide) (c_47 _ _) (s_md_due _ x (m_rp T ne c (m_rc T ne pe ((wI I 47 0 0), L) c) P).1 (m_rp T ne c (m_rc T ne pe ((wI I 47 0 0), L) c) P).2 T P (mF P) (mD P) ne c hqT hT2 (by omega) (m_tab P (by omega)).1 (m_tab P (by omega)).2.1 (m_tab P (by omega)).2.2.1 (m_tab P (by omega)).2.2.2 hqe hne2 hqE hqt (by omega)) rfl rfl (Nat.le_of_ble_eq_true rfl) (Nat.le_of_ble_eq_true rfl) (Nat.le_of_ble_eq_true rfl) (Nat.zero_le _) (Nat.zero_le _) (fun h => ⟨h, rfl, Or.inl rfl⟩) (fun v n9 f9 hE93 => ?_)
                obtain ⟨rfl, rfl, rfl⟩ := hE93
                refine qr_lload (pc := 96) d_md_run_96 rfl ?_
                refine qr_lsub (pc := 98) d_md_run_98 ?_
                refine qr_lstore (lv' := [(6, .long ((m_due (m_rp T ne c (m_rc T ne pe ((wI I 47 0 0), L) c) P).1 T c (mF P) (mD P) ne) - (m_is (m_rp T ne c (m_rc T ne pe ((wI I 47 0 0), L) c) P).1 (m_rp T ne c (m_rc T ne pe ((wI I 47 0 0), L) c) P).2 (nI c) (nI P) z))), (4, .long (m_is (m_rp T ne c (m_rc T ne pe ((wI I 47 0 0), L) c) P).1 (m_rp T ne c (m_rc T ne pe ((wI I 47 0 0), L) c) P).2 (nI c) (nI P) z)), (3, .int (nI P)), (0, .ref 47), (1, .int (m_mk I (m_rp T ne c (m_rc T ne pe ((wI I 47 0 0), L) c) P))), (2, .int (nI c))]) (pc := 99) d_md_run_99 (Nat.le_of_ble_eq_true rfl) rfl ?_
                generalize hgd : (m_due (m_rp T ne c (m_rc T ne pe ((wI I 47 0 0), L) c) P).1 T c (mF P) (mD P) ne) - (m_is (m_rp T ne c (m_rc T ne pe ((wI I 47 0 0), L) c) P).1 (m_rp T ne c (m_rc T ne pe ((wI I 47 0 0), L) c) P).2 (nI c) (nI P) z) = d
                have hgd2 : m_dif T ne c P (m_rp T ne c (m_rc T ne pe ((wI I 47 0 0), L) c) P) = d := by
                  rw [m_dif, hzo]
                  exact hgd
                refine qr_lload (pc := 101) d_md_run_101 rfl ?_
                refine qr_lconst (v := 0) (pc := 103) d_md_run_103 (by decide) ?_
                refine qr_lcmp (pc := 104) d_md_run_104 ?_
                refine qr_if_eq (tgt := 218) (pc := 105) d_md_run_105 (by decide) (fun h105 => ?_) (fun h105 => ?_)
                · skip
                  rw [lgc_eq] at h105
                  have hst : m_r1 T ne c P (m_rp T ne c (m_rc T ne pe ((wI I 47 0 0), L) c) P) = (m_rp T ne c (m_rc T ne pe ((wI I 47 0 0), L) c) P) := by
                    rw [m_r1, if_pos (hgd2.trans h105)]
                  have hmk : m_mk I (m_r1 T ne c P (m_rp T ne c (m_rc T ne pe ((wI I 47 0 0), L) c) P)) = m_mk I (m_rp T ne c (m_rc T ne pe ((wI I 47 0 0), L) c) P) := by rw [hst]
                  refine qr_iinc (v := nI (P + 1)) (lv' := [(3, .int (nI (P + 1))), (6, .long d), (4, .long (m_is (m_rp T ne c (m_rc T ne pe ((wI I 47 0 0), L) c) P).1 (m_rp T ne c (m_rc T ne pe ((wI I 47 0 0), L) c) P).2 (nI c) (nI P) z)), (0, .ref 47), (1, .int (m_mk I (m_rp T ne c (m_rc T ne pe ((wI I 47 0 0), L) c) P))), (2, .int (nI c))]) (pc := 218) d_md_run_218 rfl (nI_1 P) (Nat.le_of_ble_eq_true rfl) rfl ?_
                  refine qr_goto (tgt := 16) (pc := 221) d_md_run_221 (by decide) ?_
                  refine qR_sub (lv' := [(3, .int (nI (P + 1))), (0, .ref 47), (1, .int (m_mk I (m_rp T ne c (m_rc T ne pe ((wI I 47 0 0), L) c) P))), (2, .int (nI c))]) [0, 3, 4, 5] rfl ?_
                  refine qR_st ?_ rfl ?_ (ih2 (P + 1) (by omega) (by omega))
                  · rw [show m_rp T ne c (m_rc T ne pe ((wI I 47 0 0), L) c) (P + 1) = m_r1 T ne c P (m_rp T ne c (m_rc T ne pe ((wI I 47 0 0), L) c) P) from rfl, hmk]
                  · rw [show m_rp T ne c (m_rc T ne pe ((wI I 47 0 0), L) c) (P + 1) = m_r1 T ne c P (m_rp T ne c (m_rc T ne pe ((wI I 47 0 0), L) c) P) from rfl, hst]
                    try first | exact absurd h186 h172 | exact absurd h172 h186 | (simp only [m_rL, h186, if_true, if_false, reduceIte]; rfl)
                · skip
                  rw [lgc_eq] at h105
                  have hd0 : ¬ m_dif T ne c P (m_rp T ne c (m_rc T ne pe ((wI I 47 0 0), L) c) P) = 0 := fun q => h105 (hgd2.symm.trans q)
                  refine qr_aload_n (pc := 108) d_md_run_108 rfl rfl ?_
                  refine qr_get (v := .int (nI z)) (pc := 109) d_md_run_109 fl_md_213 (by decide) (by decide) (c_47 _ _) (congrArg (fun t => some (Value.int t)) hz) ?_
                  refine qr_bipush (v := 50) (pc := 112) d_md_run_112 (by decide) ?_
                  refine qr_icmp_ne (tgt := 120) (pc := 114) d_md_run_114 (by decide) (fun h114 => ?_) (fun h114 => ?_)
                  · skip
                    have hlt : z < 50 := by
                      rcases Nat.lt_or_ge z 50 with e | e
                      · exact e
                      · exact absurd (by rw [show z = 50 by omega]; rfl) h114
                    have hst : m_r1 T ne c P (m_rp T ne c (m_rc T ne pe ((wI I 47 0 0), L) c) P) = (m_setI (m_rI (m_rp T ne c (m_rc T ne pe ((wI I 47 0 0), L) c) P).1 c P T z) (m_rL (m_rp T ne c (m_rc T ne pe ((wI I 47 0 0), L) c) P).2 c z d) c (z + 1), m_setL (m_rI (m_rp T ne c (m_rc T ne pe ((wI I 47 0 0), L) c) P).1 c P T z) (m_rL (m_rp T ne c (m_rc T ne pe ((wI I 47 0 0), L) c) P).2 c z d) c (z + 1)) := by
                      rw [m_r1, if_neg hd0, hzo, if_neg (by omega), hgd2]
                    have hmk := m_mkS (I := I) hzo hlt hd0
                    refine qr_aload_n (pc := 120) d_md_run_120 rfl rfl ?_
                    refine qr_get (v := .int (nI z)) (pc := 121) d_md_run_121 fl_md_213 (by decide) (by decide) (c_47 _ _) (congrArg (fun t => some (Value.int t)) hz) ?_
                    refine qr_istore (lv' := [(8, .int (nI z)), (6, .long d), (4, .long (m_is (m_rp T ne c (m_rc T ne pe ((wI I 47 0 0), L) c) P).1 (m_rp T ne c (m_rc T ne pe ((wI I 47 0 0), L) c) P).2 (nI c) (nI P) z)), (3, .int (nI P)), (0, .ref 47), (1, .int (m_mk I (m_rp T ne c (m_rc T ne pe ((wI I 47 0 0), L) c) P))), (2, .int (nI c))]) (pc := 124) d_md_run_124 (Nat.le_of_ble_eq_true rfl) rfl ?_
                    refine qr_aload_n (pc := 126) d_md_run_126 rfl rfl ?_
                    refine qr_get (v := .ref 67) (pc := 127) d_md_run_127 fl_md_72 (by decide) (by decide) (c_47 _ _) rfl ?_
                    refine qr_iload (pc := 130) d_md_run_130 rfl ?_
                    refine qr_iload_n (pc := 132) d_md_run_132 rfl rfl ?_
                    refine qr_iastMN (j := z) (pc := 133) d_md_run_133 (by decide) (by decide) (c_67 _ _) (by omega) (by decide) (fun w => rfl) ?_
                    refine qr_aload_n (pc := 134) d_md_run_134 rfl rfl ?_
                    refine qr_get (v := .ref 68) (pc := 135) d_md_run_135 fl_md_75 (by decide) (by decide) (c_47 _ _) rfl ?_
                    refine qr_iload (pc := 138) d_md_run_138 rfl ?_
                    refine qr_iload_n (pc := 140) d_md_run_140 rfl rfl ?_
                    refine qr_iastMN (j := z) (pc := 141) d_md_run_141 (by decide) (by decide) (c_68 _ _) (by omega) (by decide) (fun w => rfl) ?_
                    refine qr_aload_n (pc := 142) d_md_run_142 rfl rfl ?_
                    refine qr_get (v := .ref 69) (pc := 143) d_md_run_143 fl_md_78 (by decide) (by decide) (c_47 _ _) rfl ?_
                    refine qr_iload (pc := 146) d_md_run_146 rfl ?_
                    refine qr_aload_n (pc := 148) d_md_run_148 rfl rfl ?_
                    refine qr_get (v := .int (nI T)) (pc := 149) d_md_run_149 fl_md_188 (by decide) (by decide) (c_47 _ _) (congrArg (fun t => some (Value.int t)) hqT) ?_
                    refine qr_iastMN (j := z) (pc := 152) d_md_run_152 (by decide) (by decide) (c_69 _ _) (by omega) (by decide) (fun w => rfl) ?_
                    refine qr_aload_n (pc := 153) d_md_run_153 rfl rfl ?_
                    refine qr_get (v := .ref 70) (pc := 154) d_md_run_154 fl_md_81 (by decide) (by decide) (c_47 _ _) rfl ?_
                    refine qr_iload (pc := 157) d_md_run_157 rfl ?_
                    refine qr_lload (pc := 159) d_md_run_159 rfl ?_
                    refine qr_lastMN (j := z) (pc := 161) d_md_run_161 (by decide) (by decide) (c_70 _ _) (by omega) (by decide) (fun w => rfl) ?_
                    refine qr_aload_n (pc := 162) d_md_run_162 rfl rfl ?_
                    refine qr_get (v := .ref 71) (pc := 163) d_md_run_163 fl_md_84 (by decide) (by decide) (c_47 _ _) rfl ?_
                    refine qr_iload (pc := 166) d_md_run_166 rfl ?_
                    refine qr_lload (pc := 168) d_md_run_168 rfl ?_
                    refine qr_lconst (v := 0) (pc := 170) d_md_run_170 (by decide) ?_
                    refine qr_lcmp (pc := 171) d_md_run_171 ?_
                    refine qr_if_ge (tgt := 180) (pc := 172) d_md_run_172 (by decide) (fun h172 => ?_) (fun h172 => ?_)
                    · skip
                      rw [lgc_ge] at h172
                      refine qr_lconst (v := 0) (pc := 180) d_md_run_180 (by decide) ?_
                      refine qr_lastMN (j := z) (pc := 181) d_md_run_181 (by decide) (by decide) (c_71 _ _) (by omega) (by decide) (fun w => rfl) ?_
                      refine qr_lload (pc := 182) d_md_run_182 rfl ?_
                      refine qr_lconst (v := 0) (pc := 184) d_md_run_184 (by decide) ?_
                      refine qr_lcmp (pc := 185) d_md_run_185 ?_
                      refine qr_if_ge (tgt := 200) (pc := 186) d_md_run_186 (by decide) (fun h186 => ?_) (fun h186 => ?_)
                      · skip
                        rw [lgc_ge] at h186
                        refine qr_aload_n (pc := 200) d_md_run_200 rfl rfl ?_
                        refine qr_dup (pc := 201) d_md_run_201 rfl ?_
                        refine qr_get (v := .int (nI z)) (pc := 202) d_md_run_202 fl_md_213 (by decide) (by decide) (c_47 _ _) (congrArg (fun t => some (Value.int t)) hz) ?_
                        refine qr_iconst (v := 1) (pc := 205) d_md_run_205 (by decide) ?_
                        refine qr_iadd (pc := 206) d_md_run_206 ?_
                        refine qR_st (st' := [.int (nI (z + 1)), .ref 47]) rfl (by rw [nI_1] <;> rfl) rfl ?_
                        refine qr_putI (pc := 207) d_md_run_207 fl_md_213 (by decide) (by decide) (c_47 _ _) (Nat.le_of_ble_eq_true rfl) (qFit_i _) (fun w => rfl) ?_
                        refine qr_iinc (v := (m_mk I (m_rp T ne c (m_rc T ne pe ((wI I 47 0 0), L) c) P)) + 1) (lv' := [(1, .int ((m_mk I (m_rp T ne c (m_rc T ne pe ((wI I 47 0 0), L) c) P)) + 1)), (8, .int (nI z)), (6, .long d), (4, .long (m_is (m_rp T ne c (m_rc T ne pe ((wI I 47 0 0), L) c) P).1 (m_rp T ne c (m_rc T ne pe ((wI I 47 0 0), L) c) P).2 (nI c) (nI P) z)), (3, .int (nI P)), (0, .ref 47), (2, .int (nI c))]) (pc := 210) d_md_run_210 rfl rfl (Nat.le_of_ble_eq_true rfl) rfl ?_
                        refine qr_aload_n (pc := 213) d_md_run_213 rfl rfl ?_
                        refine qr_iload_n (pc := 214) d_md_run_214 rfl rfl ?_
                        refine qr_callV (q := 47) (As := [.int (nI c)]) (pc := 215) d_md_run_215 lk_md_224 im_md_settle se_md_settle rfl (by decide) (by decide) (c_47 _ _) (s_md_settle _ x (wI (wI (wI (wI (m_rp T ne c (m_rc T ne pe ((wI I 47 0 0), L) c) P).1 67 z (nI c)) 68 z (nI P)) 69 z (nI T)) 47 29 (nI (z + 1))) (wL (wL (m_rp T ne c (m_rc T ne pe ((wI I 47 0 0), L) c) P).2 70 z d) 71 z 0) (z + 1) c (wI_at _ _ _ _) (by omega) hc) rfl rfl (Nat.le_of_ble_eq_true rfl) (Nat.le_of_ble_eq_true rfl) (Nat.le_of_ble_eq_true rfl) (Nat.zero_le _) (Nat.zero_le _) (fun h => ⟨h, rfl, Or.inl rfl⟩) (fun v n9 f9 hE215 => ?_)
                        obtain ⟨rfl, rfl, rfl⟩ := hE215
                        refine qr_iinc (v := nI (P + 1)) (lv' := [(3, .int (nI (P + 1))), (1, .int ((m_mk I (m_rp T ne c (m_rc T ne pe ((wI I 47 0 0), L) c) P)) + 1)), (8, .int (nI z)), (6, .long d), (4, .long (m_is (m_rp T ne c (m_rc T ne pe ((wI I 47 0 0), L) c) P).1 (m_rp T ne c (m_rc T ne pe ((wI I 47 0 0), L) c) P).2 (nI c) (nI P) z)), (0, .ref 47), (2, .int (nI c))]) (pc := 218) d_md_run_218 rfl (nI_1 P) (Nat.le_of_ble_eq_true rfl) rfl ?_
                        refine qr_goto (tgt := 16) (pc := 221) d_md_run_221 (by decide) ?_
                        refine qR_sub (lv' := [(3, .int (nI (P + 1))), (0, .ref 47), (1, .int ((m_mk I (m_rp T ne c (m_rc T ne pe ((wI I 47 0 0), L) c) P)) + 1)), (2, .int (nI c))]) [0, 5, 1, 6] rfl ?_
                        refine qR_st ?_ rfl ?_ (ih2 (P + 1) (by omega) (by omega))
                        · rw [show m_rp T ne c (m_rc T ne pe ((wI I 47 0 0), L) c) (P + 1) = m_r1 T ne c P (m_rp T ne c (m_rc T ne pe ((wI I 47 0 0), L) c) P) from rfl, hmk]
                        · rw [show m_rp T ne c (m_rc T ne pe ((wI I 47 0 0), L) c) (P + 1) = m_r1 T ne c P (m_rp T ne c (m_rc T ne pe ((wI I 47 0 0), L) c) P) from rfl, hst]
                          try first | exact absurd h186 h172 | exact absurd h172 h186 | (simp only [m_rL, h186, if_true, if_false, reduceIte]; rfl)
                      · skip
                        rw [lgc_ge] at h186
                        refine qr_aload_n (pc := 189) d_md_run_189 rfl rfl ?_
                        refine qr_get (v := .ref 61) (pc := 190) d_md_run_190 fl_md_53 (by decide) (by decide) (c_47 _ _) rfl ?_
                        refine qr_iload_n (pc := 193) d_md_run_193 rfl rfl ?_
                        refine qr_dup2_11 (pc := 194) d_md_run_194 rfl rfl ?_
                        refine qr_laldN (j := c) (pc := 195) d_md_run_195 (by decide) (by decide) (c_61 _ _) (by omega) (by decide) ?_
                        refine qR_st (st' := [.long ((m_rp T ne c (m_rc T ne pe ((wI I 47 0 0), L) c) P).2 61 c), .int (nI c), .ref 61]) rfl rfl rfl ?_
                        refine qr_lload (pc := 196) d_md_run_196 rfl ?_
                        refine qr_lsub (pc := 198) d_md_run_198 ?_
                        refine qr_lastMN (j := c) (pc := 199) d_md_run_199 (by decide) (by decide) (c_61 _ _) (by omega) (by decide) (fun w => rfl) ?_
                        refine qr_aload_n (pc := 200) d_md_run_200 rfl rfl ?_
                        refine qr_dup (pc := 201) d_md_run_201 rfl ?_
                        refine qr_get (v := .int (nI z)) (pc := 202) d_md_run_202 fl_md_213 (by decide) (by decide) (c_47 _ _) (congrArg (fun t => some (Value.int t)) hz) ?_
                        refine qr_iconst (v := 1) (pc := 205) d_md_run_205 (by decide) ?_
                        refine qr_iadd (pc := 206) d_md_run_206 ?_
                        refine qR_st (st' := [.int (nI (z + 1)), .ref 47]) rfl (by rw [nI_1] <;> rfl) rfl ?_
                        refine qr_putI (pc := 207) d_md_run_207 fl_md_213 (by decide) (by decide) (c_47 _ _) (Nat.le_of_ble_eq_true rfl) (qFit_i _) (fun w => rfl) ?_
                        refine qr_iinc (v := (m_mk I (m_rp T ne c (m_rc T ne pe ((wI I 47 0 0), L) c) P)) + 1) (lv' := [(1, .int ((m_mk I (m_rp T ne c (m_rc T ne pe ((wI I 47 0 0), L) c) P)) + 1)), (8, .int (nI z)), (6, .long d), (4, .long (m_is (m_rp T ne c (m_rc T ne pe ((wI I 47 0 0), L) c) P).1 (m_rp T ne c (m_rc T ne pe ((wI I 47 0 0), L) c) P).2 (nI c) (nI P) z)), (3, .int (nI P)), (0, .ref 47), (2, .int (nI c))]) (pc := 210) d_md_run_210 rfl rfl (Nat.le_of_ble_eq_true rfl) rfl ?_
                        refine qr_aload_n (pc := 213) d_md_run_213 rfl rfl ?_
                        refine qr_iload_n (pc := 214) d_md_run_214 rfl rfl ?_
                        refine qr_callV (q := 47) (As := [.int (nI c)]) (pc := 215) d_md_run_215 lk_md_224 im_md_settle se_md_settle rfl (by decide) (by decide) (c_47 _ _) (s_md_settle _ x (wI (wI (wI (wI (m_rp T ne c (m_rc T ne pe ((wI I 47 0 0), L) c) P).1 67 z (nI c)) 68 z (nI P)) 69 z (nI T)) 47 29 (nI (z + 1))) (wL (wL (wL (m_rp T ne c (m_rc T ne pe ((wI I 47 0 0), L) c) P).2 70 z d) 71 z 0) 61 c (((m_rp T ne c (m_rc T ne pe ((wI I 47 0 0), L) c) P).2 61 c) - d)) (z + 1) c (wI_at _ _ _ _) (by omega) hc) rfl rfl (Nat.le_of_ble_eq_true rfl) (Nat.le_of_ble_eq_true rfl) (Nat.le_of_ble_eq_true rfl) (Nat.zero_le _) (Nat.zero_le _) (fun h => ⟨h, rfl, Or.inl rfl⟩) (fun v n9 f9 hE215 => ?_)
                        obtain ⟨rfl, rfl, rfl⟩ := hE215
                        refine qr_iinc (v := nI (P + 1)) (lv' := [(3, .int (nI (P + 1))), (1, .int ((m_mk I (m_rp T ne c (m_rc T ne pe ((wI I 47 0 0), L) c) P)) + 1)), (8, .int (nI z)), (6, .long d), (4, .long (m_is (m_rp T ne c (m_rc T ne pe ((wI I 47 0 0), L) c) P).1 (m_rp T ne c (m_rc T ne pe ((wI I 47 0 0), L) c) P).2 (nI c) (nI P) z)), (0, .ref 47), (2, .int (nI c))]) (pc := 218) d_md_run_218 rfl (nI_1 P) (Nat.le_of_ble_eq_true rfl) rfl ?_
                        refine qr_goto (tgt := 16) (pc := 221) d_md_run_221 (by decide) ?_
                        refine qR_sub (lv' := [(3, .int (nI (P + 1))), (0, .ref 47), (1, .int ((m_mk I (m_rp T ne c (m_rc T ne pe ((wI I 47 0 0), L) c) P)) + 1)), (2, .int (nI c))]) [0, 5, 1, 6] rfl ?_
                        refine qR_st ?_ rfl ?_ (ih2 (P + 1) (by omega) (by omega))
                        · rw [show m_rp T ne c (m_rc T ne pe ((wI I 47 0 0), L) c) (P + 1) = m_r1 T ne c P (m_rp T ne c (m_rc T ne pe ((wI I 47 0 0), L) c) P) from rfl, hmk]
                        · rw [show m_rp T ne c (m_rc T ne pe ((wI I 47 0 0), L) c) (P + 1) = m_r1 T ne c P (m_rp T ne c (m_rc T ne pe ((wI I 47 0 0), L) c) P) from rfl, hst]
                          try first | exact absurd h186 h172 | exact absurd h172 h186 | (simp only [m_rL, h186, if_true, if_false, reduceIte]; rfl)
                    · skip
                      rw [lgc_ge] at h172
                      refine qr_lload (pc := 175) d_md_run_175 rfl ?_
                      refine qr_goto (tgt := 181) (pc := 177) d_md_run_177 (by decide) ?_
                      refine qr_lastMN (j := z) (pc := 181) d_md_run_181 (by decide) (by decide) (c_71 _ _) (by omega) (by decide) (fun w => rfl) ?_
                      refine qr_lload (pc := 182) d_md_run_182 rfl ?_
                      refine qr_lconst (v := 0) (pc := 184) d_md_run_184 (by decide) ?_
                      refine qr_lcmp (pc := 185) d_md_run_185 ?_
                      refine qr_if_ge (tgt := 200) (pc := 186) d_md_run_186 (by decide) (fun h186 => ?_) (fun h186 => ?_)
                      · skip
                        rw [lgc_ge] at h186
                        refine qr_aload_n (pc := 200) d_md_run_200 rfl rfl ?_
                        refine qr_dup (pc := 201) d_md_run_201 rfl ?_
                        refine qr_get (v := .int (nI z)) (pc := 202) d_md_run_202 fl_md_213 (by decide) (by decide) (c_47 _ _) (congrArg (fun t => some (Value.int t)) hz) ?_
                        refine qr_iconst (v := 1) (pc := 205) d_md_run_205 (by decide) ?_
                        refine qr_iadd (pc := 206) d_md_run_206 ?_
                        refine qR_st (st' := [.int (nI (z + 1)), .ref 47]) rfl (by rw [nI_1] <;> rfl) rfl ?_
                        refine qr_putI (pc := 207) d_md_run_207 fl_md_213 (by decide) (by decide) (c_47 _ _) (Nat.le_of_ble_eq_true rfl) (qFit_i _) (fun w => rfl) ?_
                        refine qr_iinc (v := (m_mk I (m_rp T ne c (m_rc T ne pe ((wI I 47 0 0), L) c) P)) + 1) (lv' := [(1, .int ((m_mk I (m_rp T ne c (m_rc T ne pe ((wI I 47 0 0), L) c) P)) + 1)), (8, .int (nI z)), (6, .long d), (4, .long (m_is (m_rp T ne c (m_rc T ne pe ((wI I 47 0 0), L) c) P).1 (m_rp T ne c (m_rc T ne pe ((wI I 47 0 0), L) c) P).2 (nI c) (nI P) z)), (3, .int (nI P)), (0, .ref 47), (2, .int (nI c))]) (pc := 210) d_md_run_210 rfl rfl (Nat.le_of_ble_eq_true rfl) rfl ?_
                        refine qr_aload_n (pc := 213) d_md_run_213 rfl rfl ?_
                        refine qr_iload_n (pc := 214) d_md_run_214 rfl rfl ?_
                        refine qr_callV (q := 47) (As := [.int (nI c)]) (pc := 215) d_md_run_215 lk_md_224 im_md_settle se_md_settle rfl (by decide) (by decide) (c_47 _ _) (s_md_settle _ x (wI (wI (wI (wI (m_rp T ne c (m_rc T ne pe ((wI I 47 0 0), L) c) P).1 67 z (nI c)) 68 z (nI P)) 69 z (nI T)) 47 29 (nI (z + 1))) (wL (wL (m_rp T ne c (m_rc T ne pe ((wI I 47 0 0), L) c) P).2 70 z d) 71 z d) (z + 1) c (wI_at _ _ _ _) (by omega) hc) rfl rfl (Nat.le_of_ble_eq_true rfl) (Nat.le_of_ble_eq_true rfl) (Nat.le_of_ble_eq_true rfl) (Nat.zero_le _) (Nat.zero_le _) (fun h => ⟨h, rfl, Or.inl rfl⟩) (fun v n9 f9 hE215 => ?_)
                        obtain ⟨rfl, rfl, rfl⟩ := hE215
                        refine qr_iinc (v := nI (P + 1)) (lv' := [(3, .int (nI (P + 1))), (1, .int ((m_mk I (m_rp T ne c (m_rc T ne pe ((wI I 47 0 0), L) c) P)) + 1)), (8, .int (nI z)), (6, .long d), (4, .long (m_is (m_rp T ne c (m_rc T ne pe ((wI I 47 0 0), L) c) P).1 (m_rp T ne c (m_rc T ne pe ((wI I 47 0 0), L) c) P).2 (nI c) (nI P) z)), (0, .ref 47), (2, .int (nI c))]) (pc := 218) d_md_run_218 rfl (nI_1 P) (Nat.le_of_ble_eq_true rfl) rfl ?_
                        refine qr_goto (tgt := 16) (pc := 221) d_md_run_221 (by decide) ?_
                        refine qR_sub (lv' := [(3, .int (nI (P + 1))), (0, .ref 47), (1, .int ((m_mk I (m_rp T ne c (m_rc T ne pe ((wI I 47 0 0), L) c) P)) + 1)), (2, .int (nI c))]) [0, 5, 1, 6] rfl ?_
                        refine qR_st ?_ rfl ?_ (ih2 (P + 1) (by omega) (by omega))
                        · rw [show m_rp T ne c (m_rc T ne pe ((wI I 47 0 0), L) c) (P + 1) = m_r1 T ne c P (m_rp T ne c (m_rc T ne pe ((wI I 47 0 0), L) c) P) from rfl, hmk]
                        · rw [show m_rp T ne c (m_rc T ne pe ((wI I 47 0 0), L) c) (P + 1) = m_r1 T ne c P (m_rp T ne c (m_rc T ne pe ((wI I 47 0 0), L) c) P) from rfl, hst]
                          try first | exact absurd h186 h172 | exact absurd h172 h186 | (simp only [m_rL, h186, if_true, if_false, reduceIte]; rfl)
                      · skip
                        rw [lgc_ge] at h186
                        refine qr_aload_n (pc := 189) d_md_run_189 rfl rfl ?_
                        refine qr_get (v := .ref 61) (pc := 190) d_md_run_190 fl_md_53 (by decide) (by decide) (c_47 _ _) rfl ?_
                        refine qr_iload_n (pc := 193) d_md_run_193 rfl rfl ?_
                        refine qr_dup2_11 (pc := 194) d_md_run_194 rfl rfl ?_
                        refine qr_laldN (j := c) (pc := 195) d_md_run_195 (by decide) (by decide) (c_61 _ _) (by omega) (by decide) ?_
                        refine qR_st (st' := [.long ((m_rp T ne c (m_rc T ne pe ((wI I 47 0 0), L) c) P).2 61 c), .int (nI c), .ref 61]) rfl rfl rfl ?_
                        refine qr_lload (pc := 196) d_md_run_196 rfl ?_
                        refine qr_lsub (pc := 198) d_md_run_198 ?_
                        refine qr_lastMN (j := c) (pc := 199) d_md_run_199 (by decide) (by decide) (c_61 _ _) (by omega) (by decide) (fun w => rfl) ?_
                        refine qr_aload_n (pc := 200) d_md_run_200 rfl rfl ?_
                        refine qr_dup (pc := 201) d_md_run_201 rfl ?_
                        refine qr_get (v := .int (nI z)) (pc := 202) d_md_run_202 fl_md_213 (by decide) (by decide) (c_47 _ _) (congrArg (fun t => some (Value.int t)) hz) ?_
                        refine qr_iconst (v := 1) (pc := 205) d_md_run_205 (by decide) ?_
                        refine qr_iadd (pc := 206) d_md_run_206 ?_
                        refine qR_st (st' := [.int (nI (z + 1)), .ref 47]) rfl (by rw [nI_1] <;> rfl) rfl ?_
                        refine qr_putI (pc := 207) d_md_run_207 fl_md_213 (by decide) (by decide) (c_47 _ _) (Nat.le_of_ble_eq_true rfl) (qFit_i _) (fun w => rfl) ?_
                        refine qr_iinc (v := (m_mk I (m_rp T ne c (m_rc T ne pe ((wI I 47 0 0), L) c) P)) + 1) (lv' := [(1, .int ((m_mk I (m_rp T ne c (m_rc T ne pe ((wI I 47 0 0), L) c) P)) + 1)), (8, .int (nI z)), (6, .long d), (4, .long (m_is (m_rp T ne c (m_rc T ne pe ((wI I 47 0 0), L) c) P).1 (m_rp T ne c (m_rc T ne pe ((wI I 47 0 0), L) c) P).2 (nI c) (nI P) z)), (3, .int (nI P)), (0, .ref 47), (2, .int (nI c))]) (pc := 210) d_md_run_210 rfl rfl (Nat.le_of_ble_eq_true rfl) rfl ?_
                        refine qr_aload_n (pc := 213) d_md_run_213 rfl rfl ?_
                        refine qr_iload_n (pc := 214) d_md_run_214 rfl rfl ?_
                        refine qr_callV (q := 47) (As := [.int (nI c)]) (pc := 215) d_md_run_215 lk_md_224 im_md_settle se_md_settle rfl (by decide) (by decide) (c_47 _ _) (s_md_settle _ x (wI (wI (wI (wI (m_rp T ne c (m_rc T ne pe ((wI I 47 0 0), L) c) P).1 67 z (nI c)) 68 z (nI P)) 69 z (nI T)) 47 29 (nI (z + 1))) (wL (wL (wL (m_rp T ne c (m_rc T ne pe ((wI I 47 0 0), L) c) P).2 70 z d) 71 z d) 61 c (((m_rp T ne c (m_rc T ne pe ((wI I 47 0 0), L) c) P).2 61 c) - d)) (z + 1) c (wI_at _ _ _ _) (by omega) hc) rfl rfl (Nat.le_of_ble_eq_true rfl) (Nat.le_of_ble_eq_true rfl) (Nat.le_of_ble_eq_true rfl) (Nat.zero_le _) (Nat.zero_le _) (fun h => ⟨h, rfl, Or.inl rfl⟩) (fun v n9 f9 hE215 => ?_)
                        obtain ⟨rfl, rfl, rfl⟩ := hE215
                        refine qr_iinc (v := nI (P + 1)) (lv' := [(3, .int (nI (P + 1))), (1, .int ((m_mk I (m_rp T ne c (m_rc T ne pe ((wI I 47 0 0), L) c) P)) + 1)), (8, .int (nI z)), (6, .long d), (4, .long (m_is (m_rp T ne c (m_rc T ne pe ((wI I 47 0 0), L) c) P).1 (m_rp T ne c (m_rc T ne pe ((wI I 47 0 0), L) c) P).2 (nI c) (nI P) z)), (0, .ref 47), (2, .int (nI c))]) (pc := 218) d_md_run_218 rfl (nI_1 P) (Nat.le_of_ble_eq_true rfl) rfl ?_
                        refine qr_goto (tgt := 16) (pc := 221) d_md_run_221 (by decide) ?_
                        refine qR_sub (lv' := [(3, .int (nI (P + 1))), (0, .ref 47), (1, .int ((m_mk I (m_rp T ne c (m_rc T ne pe ((wI I 47 0 0), L) c) P)) + 1)), (2, .int (nI c))]) [0, 5, 1, 6] rfl ?_
                        refine qR_st ?_ rfl ?_ (ih2 (P + 1) (by omega) (by omega))
                        · rw [show m_rp T ne c (m_rc T ne pe ((wI I 47 0 0), L) c) (P + 1) = m_r1 T ne c P (m_rp T ne c (m_rc T ne pe ((wI I 47 0 0), L) c) P) from rfl, hmk]
                        · rw [show m_rp T ne c (m_rc T ne pe ((wI I 47 0 0), L) c) (P + 1) = m_r1 T ne c P (m_rp T ne c (m_rc T ne pe ((wI I 47 0 0), L) c) P) from rfl, hst]
                          try first | exact absurd h186 h172 | exact absurd h172 h186 | (simp only [m_rL, h186, if_true, if_false, reduceIte]; rfl)
                  · skip
                    have hz50 : z = 50 := by
                      have h9 : nI z = 50 := by simpa using h114
                      have h8 := congrArg Int32.toNatClampNeg h9
                      rw [nI_clamp (by omega)] at h8
                      exact h8.trans (by decide)
                    have hst : m_r1 T ne c P (m_rp T ne c (m_rc T ne pe ((wI I 47 0 0), L) c) P) = (m_rp T ne c (m_rc T ne pe ((wI I 47 0 0), L) c) P) := by
                      rw [m_r1, if_neg hd0, if_pos (hzo.trans hz50)]
                    have hmk : m_mk I (m_r1 T ne c P (m_rp T ne c (m_rc T ne pe ((wI I 47 0 0), L) c) P)) = m_mk I (m_rp T ne c (m_rc T ne pe ((wI I 47 0 0), L) c) P) := by rw [hst]
                    refine qr_goto (tgt := 218) (pc := 117) d_md_run_117 (by decide) ?_
                    refine qr_iinc (v := nI (P + 1)) (lv' := [(3, .int (nI (P + 1))), (6, .long d), (4, .long (m_is (m_rp T ne c (m_rc T ne pe ((wI I 47 0 0), L) c) P).1 (m_rp T ne c (m_rc T ne pe ((wI I 47 0 0), L) c) P).2 (nI c) (nI P) z)), (0, .ref 47), (1, .int (m_mk I (m_rp T ne c (m_rc T ne pe ((wI I 47 0 0), L) c) P))), (2, .int (nI c))]) (pc := 218) d_md_run_218 rfl (nI_1 P) (Nat.le_of_ble_eq_true rfl) rfl ?_
                    refine qr_goto (tgt := 16) (pc := 221) d_md_run_221 (by decide) ?_
                    refine qR_sub (lv' := [(3, .int (nI (P + 1))), (0, .ref 47), (1, .int (m_mk I (m_rp T ne c (m_rc T ne pe ((wI I 47 0 0), L) c) P))), (2, .int (nI c))]) [0, 3, 4, 5] rfl ?_
                    refine qR_st ?_ rfl ?_ (ih2 (P + 1) (by omega) (by omega))
                    · rw [show m_rp T ne c (m_rc T ne pe ((wI I 47 0 0), L) c) (P + 1) = m_r1 T ne c P (m_rp T ne c (m_rc T ne pe ((wI I 47 0 0), L) c) P) from rfl, hmk]
                    · rw [show m_rp T ne c (m_rc T ne pe ((wI I 47 0 0), L) c) (P + 1) = m_r1 T ne c P (m_rp T ne c (m_rc T ne pe ((wI I 47 0 0), L) c) P) from rfl, hst]
                      try first | exact absurd h186 h172 | exact absurd h172 h186 | (simp only [m_rL, h186, if_true, if_false, reduceIte]; rfl)
              · skip
                have hkz : k < z := by
                  have := mt (nI_leI (a := z) (b := k) (by omega) (by omega)).mpr h47
                  omega
                refine qr_aload_n (pc := 50) d_md_run_50 rfl rfl ?_
                refine qr_get (v := .ref 67) (pc := 51) d_md_run_51 fl_md_72 (by decide) (by decide) (c_47 _ _) rfl ?_
                refine qr_iload (pc := 54) d_md_run_54 rfl ?_
                refine qr_ialdN (j := k) (pc := 56) d_md_run_56 (by decide) (by decide) (c_67 _ _) (by omega) (by decide) ?_
                refine qr_iload_n (pc := 57) d_md_run_57 rfl rfl ?_
                refine qr_icmp_ne (tgt := 84) (pc := 58) d_md_run_58 (by decide) (fun h58 => ?_) (fun h58 => ?_)
                · skip
                  refine qr_iinc (v := nI (k + 1)) (lv' := [(6, .int (nI (k + 1))), (4, .long (m_is (m_rp T ne c (m_rc T ne pe ((wI I 47 0 0), L) c) P).1 (m_rp T ne c (m_rc T ne pe ((wI I 47 0 0), L) c) P).2 (nI c) (nI P) k)), (3, .int (nI P)), (0, .ref 47), (1, .int (m_mk I (m_rp T ne c (m_rc T ne pe ((wI I 47 0 0), L) c) P))), (2, .int (nI c))]) (pc := 84) d_md_run_84 rfl (nI_1 k) (Nat.le_of_ble_eq_true rfl) rfl ?_
                  refine qr_goto (tgt := 41) (pc := 87) d_md_run_87 (by decide) ?_
                  exact qR_st (by simp [m_is, *]) rfl (rfl) (ih3 (k + 1) (by omega) (by omega))
                · skip
                  refine qr_aload_n (pc := 61) d_md_run_61 rfl rfl ?_
                  refine qr_get (v := .ref 68) (pc := 62) d_md_run_62 fl_md_75 (by decide) (by decide) (c_47 _ _) rfl ?_
                  refine qr_iload (pc := 65) d_md_run_65 rfl ?_
                  refine qr_ialdN (j := k) (pc := 67) d_md_run_67 (by decide) (by decide) (c_68 _ _) (by omega) (by decide) ?_
                  refine qr_iload_n (pc := 68) d_md_run_68 rfl rfl ?_
                  refine qr_icmp_ne (tgt := 84) (pc := 69) d_md_run_69 (by decide) (fun h69 => ?_) (fun h69 => ?_)
                  · skip
                    refine qr_iinc (v := nI (k + 1)) (lv' := [(6, .int (nI (k + 1))), (4, .long (m_is (m_rp T ne c (m_rc T ne pe ((wI I 47 0 0), L) c) P).1 (m_rp T ne c (m_rc T ne pe ((wI I 47 0 0), L) c) P).2 (nI c) (nI P) k)), (3, .int (nI P)), (0, .ref 47), (1, .int (m_mk I (m_rp T ne c (m_rc T ne pe ((wI I 47 0 0), L) c) P))), (2, .int (nI c))]) (pc := 84) d_md_run_84 rfl (nI_1 k) (Nat.le_of_ble_eq_true rfl) rfl ?_
                    refine qr_goto (tgt := 41) (pc := 87) d_md_run_87 (by decide) ?_
                    exact qR_st (by simp [m_is, *]) rfl (rfl) (ih3 (k + 1) (by omega) (by omega))
                  · skip
                    refine qr_lload (pc := 72) d_md_run_72 rfl ?_
                    refine qr_aload_n (pc := 74) d_md_run_74 rfl rfl ?_
                    refine qr_get (v := .ref 70) (pc := 75) d_md_run_75 fl_md_81 (by decide) (by decide) (c_47 _ _) rfl ?_
                    refine qr_iload (pc := 78) d_md_run_78 rfl ?_
                    refine qr_laldN (j := k) (pc := 80) d_md_run_80 (by decide) (by decide) (c_70 _ _) (by omega) (by decide) ?_
                    refine qr_ladd (pc := 81) d_md_run_81 ?_
                    refine qr_lstore (lv' := [(4, .long ((m_is (m_rp T ne c (m_rc T ne pe ((wI I 47 0 0), L) c) P).1 (m_rp T ne c (m_rc T ne pe ((wI I 47 0 0), L) c) P).2 (nI c) (nI P) k) + ((m_rp T ne c (m_rc T ne pe ((wI I 47 0 0), L) c) P).2 70 k))), (6, .int (nI k)), (3, .int (nI P)), (0, .ref 47), (1, .int (m_mk I (m_rp T ne c (m_rc T ne pe ((wI I 47 0 0), L) c) P))), (2, .int (nI c))]) (pc := 82) d_md_run_82 (Nat.le_of_ble_eq_true rfl) rfl ?_
                    refine qr_iinc (v := nI (k + 1)) (lv' := [(6, .int (nI (k + 1))), (4, .long ((m_is (m_rp T ne c (m_rc T ne pe ((wI I 47 0 0), L) c) P).1 (m_rp T ne c (m_rc T ne pe ((wI I 47 0 0), L) c) P).2 (nI c) (nI P) k) + ((m_rp T ne c (m_rc T ne pe ((wI I 47 0 0), L) c) P).2 70 k))), (3, .int (nI P)), (0, .ref 47), (1, .int (m_mk I (m_rp T ne c (m_rc T ne pe ((wI I 47 0 0), L) c) P))), (2, .int (nI c))]) (pc := 84) d_md_run_84 rfl (nI_1 k) (Nat.le_of_ble_eq_true rfl) rfl ?_
                    refine qr_goto (tgt := 41) (pc := 87) d_md_run_87 (by decide) ?_
                    exact qR_st (by simp [m_is, *]) rfl (rfl) (ih3 (k + 1) (by omega) (by omega))
            exact loop41 (z + 1) 0 (by omega) (by omega)
      refine qR_sub (lv' := [(3, .int 0), (0, .ref 47), (1, .int (m_mk I (m_rc T ne pe ((wI I 47 0 0), L) c))), (2, .int (nI c))]) [0, 2, 3, 1] rfl ?_
      exact loop16 (pe + 1) 0 (by omega) (by omega)
  refine qR_sub (lv' := [(2, .int 0), (0, .ref 47), (1, .int 0)]) [0, 2, 1] rfl ?_
  exact qR_st (by rw [m_rc, m_mk0] <;> rfl) rfl rfl (loop9 (5 + 1) 0 (by omega) (by omega))
