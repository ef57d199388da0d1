/-! the reference's parser: what stays behind part; read, tariff -/
def mfr (k j : Nat) : Prop := (k = 47 → j ≠ 1 ∧ j ≠ 36 ∧ j ≠ 37 ∧ j ≠ 38) ∧ (49 ≤ k → k ≤ 55 → j ≠ 3) ∧ (56 ≤ k → k ≤ 57 → j < 12)
def mrok (a n : Nat) (I J : qJ) : Prop := (∃ b, a ≤ b ∧ b ≤ n ∧ J 47 36 = nI b) ∧ (∃ z, z ≤ 4 ∧ J 54 3 = nI z) ∧ ∀ k j, mfr k j → J k j = I k j
section MR
variable {a n z e b : Nat} {I J : qJ} {v low : Int32}
theorem mrok_w {k j : Nat} (h : mrok a n I J) (h1 : ¬ mfr k j) (h2 : k ≠ 47 ∨ j ≠ 36) (h3 : k ≠ 54 ∨ j ≠ 3) : mrok a n I (wI J k j v) := by
  obtain ⟨⟨b, q1, q2, q3⟩, ⟨z, q4, q5⟩, q6⟩ := h
  refine ⟨⟨b, q1, q2, (wI_ne (by omega)).trans q3⟩, ⟨z, q4, (wI_ne (by omega)).trans q5⟩, fun k' j' hm => ?_⟩
  have hne : k' ≠ k ∨ j' ≠ j := by
    rcases Decidable.em (k' = k) with r | r
    · rcases Decidable.em (j' = j) with r2 | r2
      · rw [r, r2] at hm
        exact absurd hm h1
      · exact Or.inr r2
    · exact Or.inl r
  rw [wI_ne hne]
  exact q6 k' j' hm
theorem mrok_at (h : mrok a n I J) (h1 : a ≤ b) (h2 : b ≤ n) : mrok a n I (wI J 47 36 (nI b)) := by
  obtain ⟨-, ⟨z, q4, q5⟩, q6⟩ := h
  refine ⟨⟨b, h1, h2, wI_at _ _ _ _⟩, ⟨z, q4, (wI_ne (by omega)).trans q5⟩, fun k j hm => ?_⟩
  rw [wI_ne (by unfold mfr at hm; omega)]
  exact q6 k j hm
theorem mrok_z (h : mrok a n I J) (h1 : z ≤ 4) : mrok a n I (wI J 54 3 (nI z)) := by
  obtain ⟨⟨b, q1, q2, q3⟩, -, q6⟩ := h
  refine ⟨⟨b, q1, q2, (wI_ne (by omega)).trans q3⟩, ⟨z, h1, wI_at _ _ _ _⟩, fun k j hm => ?_⟩
  rw [wI_ne (by unfold mfr at hm; omega)]
  exact q6 k j hm
theorem mrok_rw (h : mrok a n I J) (h1 : a ≤ e) (h2 : e ≤ n) : mrok a n I (m_rw J e n low) := by
  obtain ⟨-, ⟨z, q4, q5⟩, q6⟩ := h
  refine ⟨⟨_, Nat.le_trans h1 (m_ra_ge J h2), m_ra_le J h2, m_rw_at⟩, ⟨z, q4, (m_rw_ne (by omega)).trans q5⟩, fun k j hm => ?_⟩
  rw [m_rw_ne (by unfold mfr at hm; omega)]
  exact q6 k j hm
theorem mrok_fin (h : mrok a n I J) (h1 : a ≤ e) (h2 : e ≤ n) : mrok a n I (m_pfin J e n).2 := by
  have hb := m_bl_ok (m_pinc J) h2
  exact mrok_at (mrok_w h (by unfold mfr; omega) (by omega) (by omega)) (Nat.le_trans h1 hb.1) hb.2.2.2
theorem mrok_no (h : mrok a n I J) (s : Nat) : mrok a n I (m_pno J s).2 := mrok_w h (by unfold mfr; omega) (by omega) (by omega)
theorem mrok_one {c : Nat} (h : mrok a n I J) (h1 : a ≤ e) (h2 : e ≤ n) (hc : 49 ≤ c ∧ c ≤ 55 ∧ c ≠ 54) : mrok a n I (m_pone J e n c).2 := by
  unfold m_pone
  split
  · exact mrok_rw h h1 h2
  · exact mrok_fin (mrok_w (mrok_rw h h1 h2) (by unfold mfr; omega) (by omega) (by omega)) (Nat.le_trans h1 (m_ra_ge J h2)) (m_ra_le J h2)
theorem mrok_two {F : qJ → Int32 → Int32 → qJ} (h : mrok a n I J) (h1 : a ≤ e) (h2 : e ≤ n) (hF : ∀ M v p, mrok a n I M → mrok a n I (F M v p)) : mrok a n I (m_ptwo J e n low F).2 := by
  have g1 := mrok_rw (low := low) h h1 h2
  have a1 := Nat.le_trans h1 (m_ra_ge J h2)
  have a2 := m_ra_le J h2
  have g2 := mrok_rw (low := 0) g1 a1 a2
  unfold m_ptwo
  split
  · exact g1
  · split
    · exact g2
    · exact mrok_fin (hF _ _ _ g2) (Nat.le_trans a1 (m_ra_ge _ a2)) (m_ra_le _ a2)
theorem mrok_o1 (h : mrok a n I J) (w : Int32) : mrok a n I (m_o1 J w) := mrok_w h (by unfold mfr; omega) (by omega) (by omega)
theorem mrok_ppt (h : mrok a n I J) (s : Nat) (h1 : a ≤ e) (h2 : e ≤ n) (hz2 : z ≤ 4) (w : Int32) : mrok a n I (m_ppt J s e n z w).2 := by
  unfold m_ppt
  split
  · split
    · exact mrok_no h s
    · exact mrok_one (mrok_o1 h _) h1 h2 (by omega)
  split
  · split
    · exact mrok_no h s
    · exact mrok_one (mrok_o1 h _) h1 h2 (by omega)
  split
  · split
    · exact mrok_no h s
    · exact mrok_one (mrok_o1 h _) h1 h2 (by omega)
  split
  · split
    · exact mrok_no h s
    split
    · exact mrok_no h s
    · exact mrok_two (mrok_o1 h _) h1 h2 (fun M v p hM => mrok_w (mrok_w hM (by unfold mfr; omega) (by omega) (by omega)) (by unfold mfr; omega) (by omega) (by omega))
  split
  · split
    · exact mrok_no h s
    split
    · exact mrok_no h s
    · exact mrok_two (mrok_o1 h _) h1 h2 (fun M v p hM => mrok_z (mrok_w (mrok_w hM (by unfold mfr; omega) (by omega) (by omega)) (by unfold mfr; omega) (by omega) (by omega)) (by omega))
  split
  · split
    · exact mrok_no h s
    · exact mrok_one (mrok_o1 h _) h1 h2 (by omega)
  · exact mrok_no h s
theorem mrok_part (ha : I 47 36 = nI a) (ha2 : a ≤ n) (hz : I 54 3 = nI z) (hz2 : z ≤ 4) : mrok a n I (m_part I a n z).2 := by
  have h0 : mrok a n I I := ⟨⟨a, Nat.le_refl _, ha2, ha⟩, ⟨z, hz2, hz⟩, fun _ _ _ => rfl⟩
  have hb := m_bl_ok I ha2
  have hpe := m_pe_ok (I := I) ha2
  exact mrok_ppt (mrok_at h0 (Nat.le_trans hb.1 hpe.1) hpe.2) _ (Nat.le_trans hb.1 hpe.1) hpe.2 hz2 _
end MR
def maof (J : qJ) : Nat := (J 47 36).toNatClampNeg
def mtof (J : qJ) : Nat := (J 54 3).toNatClampNeg
theorem maof_of {J : qJ} {a : Nat} (h : J 47 36 = nI a) (h2 : a ≤ 60) : maof J = a := by unfold maof; rw [h]; exact nI_clamp (by omega)
theorem mtof_of {J : qJ} {z : Nat} (h : J 54 3 = nI z) (h2 : z ≤ 4) : mtof J = z := by unfold mtof; rw [h]; exact nI_clamp (by omega)
def m_rs (n : Nat) (k : qJ → Int32 × qJ) (r : Int32 × qJ) : Int32 × qJ :=
  if r.1 = 0 then (0, r.2) else if m_sb r.2 5 ∧ r.2 47 36 = r.2 47 4 then (1, r.2) else if m_sb r.2 5 ∨ ¬ m_lc r.2 (maof r.2) n = 59 then (0, wI r.2 47 1 (r.2 47 36)) else k (wI r.2 47 36 (r.2 47 36 + 1))
def m_rl (n : Nat) : Nat → qJ → Int32 × qJ
  | 0, J => (0, J)
  | j + 1, J => m_rs n (m_rl n j) (m_part J (maof J) n (mtof J))
def m_ri (I : qJ) : qJ := wI (wI (wI (wI (wI (wI (wI (wI I 47 36 0) 47 37 0) 47 38 0) 49 3 0) 50 3 0) 51 3 0) 52 3 0) 54 3 0
def m_read (I : qJ) (n : Nat) : Int32 × qJ := m_rl n (n + 1) (m_ri I)
set_option maxRecDepth 10000 in
theorem s_md_read (l : Launch) (x : Bool) (I : qJ) (L : Nat → Nat → Int64) (n : Nat) (hn : I 47 4 = nI n) (hn2 : n ≤ 60) : qSp l y_md_read b_md_read 2 (some .boolean) x 5 0 0 [.ref 47] 77 (fm I L) (qD (some (.int (m_read I n).1)) 77 (fm (m_read I n).2 L)) := by
  have loop : ∀ (j a z : Nat) (J : qJ), n - a < j → a ≤ n → J 47 36 = nI a → J 47 4 = nI n → z ≤ 4 → J 54 3 = nI z → m_rl n j J = m_read I n → qR (l, y_md_read.cls, b_md_read, 2, (some .boolean), false, x, 5, 0, 0, 77, q0) (qD (some (.int (m_read I n).1)) 77 (fm (m_read I n).2 L)) (fun _ _ _ => False) 50 [(0, .ref 47)] [] 77 0 0 (fm J L) := by
    intro j
    induction j with
    | zero => intro a z J hj; omega
    | succ j ih =>
      intro a z J hj ha2 ha hJn hz2 hz he
      rw [m_rl, maof_of ha (by omega), mtof_of hz hz2] at he
      obtain ⟨⟨b, hb1, hb2, hb3⟩, ⟨z2, hz3, hz4⟩, hfr⟩ := mrok_part ha ha2 hz hz2
      have hR4 : (m_part J a n z).2 47 4 = nI n := (hfr 47 4 (by unfold mfr; omega)).trans hJn
      refine qr_aload_n (pc := 50) d_md_read_50 rfl rfl ?_
      refine qr_callV (q := 47) (As := []) (pc := 51) d_md_read_51 lk_md_163 im_md_part se_md_part rfl (by decide) (by decide) (c_47 _ _) (s_md_part _ x J L a n z ha hJn ha2 hn2 hz hz2) rfl rfl (Nat.le_of_ble_eq_true rfl) (Nat.le_of_ble_eq_true rfl) (Nat.le_of_ble_eq_true rfl) (Nat.zero_le _) (Nat.zero_le _) (fun h => ⟨h, rfl, Or.inl rfl⟩) (fun v n9 f9 hE => ?_)
      obtain ⟨rfl, rfl, rfl⟩ := hE
      generalize m_part J a n z = R at he hb3 hz4 hfr hR4 ⊢
      rw [← he]
      refine qr_if_ne (tgt := 59) (pc := 54) d_md_read_54 (by decide) (fun h54 => ?_) (fun h54 => ?_)
      rotate_left
      · refine qr_iconst (v := 0) (pc := 57) d_md_read_57 (by decide) ?_
        exact qr_iret (pc := 58) d_md_read_58 rfl rfl ⟨by rw [m_rs, if_pos h54], rfl, by rw [m_rs, if_pos h54]⟩ (Nat.zero_le _) (Nat.zero_le _)
      have t94a : m_sb R.2 5 → ¬ R.2 47 36 = R.2 47 4 → qR (l, y_md_read.cls, b_md_read, 2, (some .boolean), false, x, 5, 0, 0, 77, q0) (qD (some (.int (m_rs n (m_rl n j) R).1)) 77 (fm (m_rs n (m_rl n j) R).2 L)) (fun _ _ _ => False) 107 [(1, .int 1), (0, .ref 47)] [] 77 0 0 (fm R.2 L) := by
        intro g1 g2
        refine qr_aload_n (pc := 107) d_md_read_107 rfl rfl ?_
        refine qr_aload_n (pc := 108) d_md_read_108 rfl rfl ?_
        refine qr_get (v := .int (R.2 47 36)) (pc := 109) d_md_read_109 fl_md_117 (by decide) (by decide) (c_47 _ _) rfl ?_
        refine qr_putI (pc := 112) d_md_read_112 fl_md_7 (by decide) (by decide) (c_47 _ _) (Nat.le_of_ble_eq_true rfl) (qFit_i _) (fun w => rfl) ?_
        refine qr_iconst (v := 0) (pc := 115) d_md_read_115 (by decide) ?_
        exact qr_iret (pc := 116) d_md_read_116 rfl rfl ⟨by rw [m_rs, if_neg h54, if_neg (fun q => g2 q.2), if_pos (Or.inl g1)], rfl, by rw [m_rs, if_neg h54, if_neg (fun q => g2 q.2), if_pos (Or.inl g1)]⟩ (Nat.zero_le _) (Nat.zero_le _)
      refine qr_aload_n (pc := 59) d_md_read_59 rfl rfl ?_
      refine qr_get (v := .int (R.2 47 37)) (pc := 60) d_md_read_60 fl_md_154 (by decide) (by decide) (c_47 _ _) rfl ?_
      refine qr_iconst (v := 5) (pc := 63) d_md_read_63 (by decide) ?_
      refine qr_ishr (pc := 64) d_md_read_64 ?_
      refine qr_iconst (v := 1) (pc := 65) d_md_read_65 (by decide) ?_
      refine qr_iand (pc := 66) d_md_read_66 ?_
      refine qr_iconst (v := 1) (pc := 67) d_md_read_67 (by decide) ?_
      refine qr_icmp_ne (tgt := 75) (pc := 68) d_md_read_68 (by decide) (fun h68 => ?_) (fun h68 => ?_)
      rotate_left
      · have hs : m_sb R.2 5 := by first | exact h68 | exact Decidable.not_not.mp h68
        refine qr_iconst (v := 1) (pc := 71) d_md_read_71 (by decide) ?_
        refine qr_goto (tgt := 76) (pc := 72) d_md_read_72 (by decide) ?_
        refine qr_istore_n (lv' := [(1, .int 1), (0, .ref 47)]) (pc := 76) d_md_read_76 rfl (Nat.le_of_ble_eq_true rfl) rfl ?_
        refine qr_iload_n (pc := 77) d_md_read_77 rfl rfl ?_
        refine qr_if_eq (tgt := 94) (pc := 78) d_md_read_78 (by decide) (fun h => absurd h (by decide)) (fun _ => ?_)
        refine qr_aload_n (pc := 81) d_md_read_81 rfl rfl ?_
        refine qr_get (v := .int (R.2 47 36)) (pc := 82) d_md_read_82 fl_md_117 (by decide) (by decide) (c_47 _ _) rfl ?_
        refine qr_aload_n (pc := 85) d_md_read_85 rfl rfl ?_
        refine qr_get (v := .int (R.2 47 4)) (pc := 86) d_md_read_86 fl_md_114 (by decide) (by decide) (c_47 _ _) rfl ?_
        refine qr_icmp_ne (tgt := 94) (pc := 89) d_md_read_89 (by decide) (fun h89 => ?_) (fun h89 => ?_)
        · refine qr_iload_n (pc := 94) d_md_read_94 rfl rfl ?_
          refine qr_if_ne (tgt := 107) (pc := 95) d_md_read_95 (by decide) (fun _ => ?_) (fun h => absurd h (by decide))
          exact t94a hs h89
        · have h899 : R.2 47 36 = R.2 47 4 := by first | exact h89 | exact Decidable.not_not.mp h89
          refine qr_iconst (v := 1) (pc := 92) d_md_read_92 (by decide) ?_
          exact qr_iret (pc := 93) d_md_read_93 rfl rfl ⟨by rw [m_rs, if_neg h54, if_pos ⟨hs, h899⟩], rfl, by rw [m_rs, if_neg h54, if_pos ⟨hs, h899⟩]⟩ (Nat.zero_le _) (Nat.zero_le _)
      have hs : ¬ m_sb R.2 5 := h68
      refine qr_iconst (v := 0) (pc := 75) d_md_read_75 (by decide) ?_
      refine qr_istore_n (lv' := [(1, .int 0), (0, .ref 47)]) (pc := 76) d_md_read_76 rfl (Nat.le_of_ble_eq_true rfl) rfl ?_
      refine qr_iload_n (pc := 77) d_md_read_77 rfl rfl ?_
      refine qr_if_eq (tgt := 94) (pc := 78) d_md_read_78 (by decide) (fun _ => ?_) (fun h => absurd h (by decide))
      refine qr_iload_n (pc := 94) d_md_read_94 rfl rfl ?_
      refine qr_if_ne (tgt := 107) (pc := 95) d_md_read_95 (by decide) (fun h => absurd h (by decide)) (fun _ => ?_)
      refine qr_aload_n (pc := 98) d_md_read_98 rfl rfl ?_
      refine qr_callV (q := 47) (As := []) (pc := 99) d_md_read_99 lk_md_120 im_md_look se_md_look rfl (by decide) (by decide) (c_47 _ _) (s_md_look _ x R.2 L b n hb3 hR4 hb2 hn2) rfl rfl (Nat.le_of_ble_eq_true rfl) (Nat.le_of_ble_eq_true rfl) (Nat.le_of_ble_eq_true rfl) (Nat.zero_le _) (Nat.zero_le _) (fun h => ⟨h, rfl, Or.inl rfl⟩) (fun v n9 f9 hE => ?_)
      obtain ⟨rfl, rfl, rfl⟩ := hE
      refine qr_bipush (v := 59) (pc := 102) d_md_read_102 (by decide) ?_
      refine qr_icmp_eq (tgt := 117) (pc := 104) d_md_read_104 (by decide) (fun h104 => ?_) (fun h104 => ?_)
      rotate_left
      · have hl : ¬ m_lc R.2 (maof R.2) n = 59 := by rw [maof_of hb3 (by omega)]; exact h104
        refine qr_aload_n (pc := 107) d_md_read_107 rfl rfl ?_
        refine qr_aload_n (pc := 108) d_md_read_108 rfl rfl ?_
        refine qr_get (v := .int (R.2 47 36)) (pc := 109) d_md_read_109 fl_md_117 (by decide) (by decide) (c_47 _ _) rfl ?_
        refine qr_putI (pc := 112) d_md_read_112 fl_md_7 (by decide) (by decide) (c_47 _ _) (Nat.le_of_ble_eq_true rfl) (qFit_i _) (fun w => rfl) ?_
        refine qr_iconst (v := 0) (pc := 115) d_md_read_115 (by decide) ?_
        exact qr_iret (pc := 116) d_md_read_116 rfl rfl ⟨by rw [m_rs, if_neg h54, if_neg (fun q => hs q.1), if_pos (Or.inr hl)], rfl, by rw [m_rs, if_neg h54, if_neg (fun q => hs q.1), if_pos (Or.inr hl)]⟩ (Nat.zero_le _) (Nat.zero_le _)
      have hl : m_lc R.2 (maof R.2) n = 59 := by rw [maof_of hb3 (by omega)]; exact h104
      have hbn : b < n := by
        rcases Nat.lt_or_ge b n with q | q
        · exact q
        · unfold m_lc at h104
          rw [if_pos q] at h104
          exact absurd h104 (by decide)
      have hrs : m_rs n (m_rl n j) R = m_rl n j (wI R.2 47 36 (R.2 47 36 + 1)) := by rw [m_rs, if_neg h54, if_neg (fun q => hs q.1), if_neg (fun q => q.elim hs (fun r => r hl))]
      rw [he]
      rw [hrs, hb3, nI_1] at he
      refine qr_aload_n (pc := 117) d_md_read_117 rfl rfl ?_
      refine qr_dup (pc := 118) d_md_read_118 rfl ?_
      refine qr_get (v := .int (nI b)) (pc := 119) d_md_read_119 fl_md_117 (by decide) (by decide) (c_47 _ _) (congrArg (fun t => some (Value.int t)) hb3) ?_
      refine qr_iconst (v := 1) (pc := 122) d_md_read_122 (by decide) ?_
      refine qr_iadd (pc := 123) d_md_read_123 ?_
      refine qr_putI (pc := 124) d_md_read_124 fl_md_117 (by decide) (by decide) (c_47 _ _) (Nat.le_of_ble_eq_true rfl) (qFit_i _) (fun w => rfl) ?_
      refine qr_goto (tgt := 50) (pc := 127) d_md_read_127 (by decide) ?_
      refine qR_sub (lv' := [(0, .ref 47)]) [1] rfl ?_
      refine qR_st (f' := fm (wI R.2 47 36 (nI (b + 1))) L) rfl rfl (by rw [nI_1]) ?_
      exact ih (b + 1) z2 (wI R.2 47 36 (nI (b + 1))) (by omega) (by omega) (wI_at _ _ _ _) ((wI_ne (by omega)).trans hR4) hz3 ((wI_ne (by omega)).trans hz4) he
  refine qSp_of (ini := false) (by decide +kernel) (fun h => nomatch h) (Nat.le_of_ble_eq_true rfl) ?_
  refine qr_aload_n (pc := 0) d_md_read_0 rfl rfl ?_
  refine qr_iconst (v := 0) (pc := 1) d_md_read_1 (by decide) ?_
  refine qr_putI (pc := 2) d_md_read_2 fl_md_117 (by decide) (by decide) (c_47 _ _) (Nat.le_of_ble_eq_true rfl) (qFit_i _) (fun w => rfl) ?_
  refine qr_aload_n (pc := 5) d_md_read_5 rfl rfl ?_
  refine qr_iconst (v := 0) (pc := 6) d_md_read_6 (by decide) ?_
  refine qr_putI (pc := 7) d_md_read_7 fl_md_154 (by decide) (by decide) (c_47 _ _) (Nat.le_of_ble_eq_true rfl) (qFit_i _) (fun w => rfl) ?_
  refine qr_aload_n (pc := 10) d_md_read_10 rfl rfl ?_
  refine qr_iconst (v := 0) (pc := 11) d_md_read_11 (by decide) ?_
  refine qr_putI (pc := 12) d_md_read_12 fl_md_160 (by decide) (by decide) (c_47 _ _) (Nat.le_of_ble_eq_true rfl) (qFit_i _) (fun w => rfl) ?_
  refine qr_aload_n (pc := 15) d_md_read_15 rfl rfl ?_
  refine qr_get (v := .ref 49) (pc := 16) d_md_read_16 fl_md_17 (by decide) (by decide) (c_47 _ _) rfl ?_
  refine qr_iconst (v := 3) (pc := 19) d_md_read_19 (by decide) ?_
  refine qr_iconst (v := 0) (pc := 20) d_md_read_20 (by decide) ?_
  refine qr_iastMN (j := 3) (pc := 21) d_md_read_21 (by decide) (by decide) (c_49 _ _) (by omega) (by decide) (fun w => rfl) ?_
  refine qr_aload_n (pc := 22) d_md_read_22 rfl rfl ?_
  refine qr_get (v := .ref 50) (pc := 23) d_md_read_23 fl_md_20 (by decide) (by decide) (c_47 _ _) rfl ?_
  refine qr_iconst (v := 3) (pc := 26) d_md_read_26 (by decide) ?_
  refine qr_iconst (v := 0) (pc := 27) d_md_read_27 (by decide) ?_
  refine qr_iastMN (j := 3) (pc := 28) d_md_read_28 (by decide) (by decide) (c_50 _ _) (by omega) (by decide) (fun w => rfl) ?_
  refine qr_aload_n (pc := 29) d_md_read_29 rfl rfl ?_
  refine qr_get (v := .ref 51) (pc := 30) d_md_read_30 fl_md_23 (by decide) (by decide) (c_47 _ _) rfl ?_
  refine qr_iconst (v := 3) (pc := 33) d_md_read_33 (by decide) ?_
  refine qr_iconst (v := 0) (pc := 34) d_md_read_34 (by decide) ?_
  refine qr_iastMN (j := 3) (pc := 35) d_md_read_35 (by decide) (by decide) (c_51 _ _) (by omega) (by decide) (fun w => rfl) ?_
  refine qr_aload_n (pc := 36) d_md_read_36 rfl rfl ?_
  refine qr_get (v := .ref 52) (pc := 37) d_md_read_37 fl_md_26 (by decide) (by decide) (c_47 _ _) rfl ?_
  refine qr_iconst (v := 3) (pc := 40) d_md_read_40 (by decide) ?_
  refine qr_iconst (v := 0) (pc := 41) d_md_read_41 (by decide) ?_
  refine qr_iastMN (j := 3) (pc := 42) d_md_read_42 (by decide) (by decide) (c_52 _ _) (by omega) (by decide) (fun w => rfl) ?_
  refine qr_aload_n (pc := 43) d_md_read_43 rfl rfl ?_
  refine qr_get (v := .ref 54) (pc := 44) d_md_read_44 fl_md_32 (by decide) (by decide) (c_47 _ _) rfl ?_
  refine qr_iconst (v := 3) (pc := 47) d_md_read_47 (by decide) ?_
  refine qr_iconst (v := 0) (pc := 48) d_md_read_48 (by decide) ?_
  refine qr_iastMN (j := 3) (pc := 49) d_md_read_49 (by decide) (by decide) (c_54 _ _) (by omega) (by decide) (fun w => rfl) ?_
  exact loop (n + 1) 0 0 (m_ri I) (by omega) (Nat.zero_le _) (by simp [m_ri, wI, va_up, upd, nI_0]) (by simp [m_ri, wI, va_up, upd, hn]) (Nat.zero_le _) (by simp [m_ri, wI, va_up, upd, nI_0]) rfl
def m_c1 (c : Nat) (M : qJ) (t : Nat) : qJ := wI M c t (M c 3)
def m_c2 (c : Nat) (M : qJ) (t k : Nat) : qJ := wI M c (4 * t + k) (M c (12 + k))
def m_cA (M : qJ) (t : Nat) : qJ := m_c1 55 (m_c1 54 (m_c1 53 (m_c1 52 (m_c1 51 (m_c1 50 (m_c1 49 (wI M 47 0 0) t) t) t) t) t) t) t
def m_cB (M : qJ) (t k : Nat) : qJ := m_c2 57 (m_c2 56 M t k) t k
def m_cp (M : qJ) (t : Nat) : qJ := wI (m_cB (m_cB (m_cB (m_cB (m_cA M t) t 0) t 1) t 2) t 3) 47 4 0
def m_tf (I : qJ) (n : Nat) (t : Int32) : Int32 × qJ :=
  if 0 ≤ Int32.toInt64 t ∧ Int32.toInt64 t ≤ 2 then (if (m_read (wI I 47 1 (-2)) n).1 = 0 then (0, wI (m_read (wI I 47 1 (-2)) n).2 47 0 1) else (m_cp (m_read (wI I 47 1 (-2)) n).2 t.toNatClampNeg 47 38, m_cp (m_read (wI I 47 1 (-2)) n).2 t.toNatClampNeg)) else (0, wI (wI I 47 1 (-2)) 47 0 1)
set_option maxRecDepth 10000 in
theorem s_md_tariff (l : Launch) (x : Bool) (I : qJ) (L : Nat → Nat → Int64) (n : Nat) (hn : I 47 4 = nI n) (hn2 : n ≤ 60) (t : Int32) : qSp l y_md_tariff b_md_tariff 3 (some .int) x 6 0 0 [.ref 47, .int t] 77 (fm I L) (qD (some (.int (m_tf I n t).1)) 77 (fm (m_tf I n t).2 L)) := by
  refine qSp_of (ini := false) (by decide +kernel) (fun h => nomatch h) (Nat.le_of_ble_eq_true rfl) ?_
  refine qr_aload_n (pc := 0) d_md_tariff_0 rfl rfl ?_
  refine qr_bipush (v := (-2)) (pc := 1) d_md_tariff_1 (by decide) ?_
  refine qr_putI (pc := 3) d_md_tariff_3 fl_md_7 (by decide) (by decide) (c_47 _ _) (Nat.le_of_ble_eq_true rfl) (qFit_i _) (fun w => rfl) ?_
  refine qr_iload_n (pc := 6) d_md_tariff_6 rfl rfl ?_
  refine qr_i2l (pc := 7) d_md_tariff_7 ?_
  refine qr_lconst (v := 0) (pc := 8) d_md_tariff_8 (by decide) ?_
  refine qr_ldc2 (v := 2) (pc := 9) d_md_tariff_9 kl_md_167 ?_
  refine qr_callS (As := [.long (Int32.toInt64 t), .long 0, .long 2]) (pc := 12) d_md_tariff_12 lk_md_106 sm_md_in (s_md_in _ x _ _ (Int32.toInt64 t) 0 2) rfl rfl (Nat.le_of_ble_eq_true rfl) (Nat.le_of_ble_eq_true rfl) (Nat.le_of_ble_eq_true rfl) (Nat.zero_le _) (Nat.zero_le _) (fun h => ⟨h, rfl, Or.inl rfl⟩) (fun v n9 f9 hE => ?_)
  obtain ⟨rfl, rfl, rfl⟩ := hE
  refine qr_if_eq (tgt := 25) (pc := 15) d_md_tariff_15 (by decide) (fun h15 => ?_) (fun h15 => ?_)
  · simp only [b01, Decidable.not_not] at h15
    refine qr_aload_n (pc := 25) d_md_tariff_25 rfl rfl ?_
    refine qr_iconst (v := 1) (pc := 26) d_md_tariff_26 (by decide) ?_
    refine qr_callV (q := 47) (As := [.int 1]) (pc := 27) d_md_tariff_27 lk_md_110 im_md_refuse se_md_refuse rfl (by decide) (by decide) (c_47 _ _) (s_md_refuse _ x (wI I 47 1 (-2)) L 1) rfl rfl (Nat.le_of_ble_eq_true rfl) (Nat.le_of_ble_eq_true rfl) (Nat.le_of_ble_eq_true rfl) (Nat.zero_le _) (Nat.zero_le _) (fun h => ⟨h, rfl, Or.inl rfl⟩) (fun v n9 f9 hE => ?_)
    obtain ⟨rfl, rfl, rfl⟩ := hE
    exact qr_iret (pc := 30) d_md_tariff_30 rfl rfl ⟨by rw [m_tf, if_neg h15], rfl, by rw [m_tf, if_neg h15]⟩ (Nat.zero_le _) (Nat.zero_le _)
  simp only [b01, Decidable.not_not] at h15
  refine qr_aload_n (pc := 18) d_md_tariff_18 rfl rfl ?_
  refine qr_callV (q := 47) (As := []) (pc := 19) d_md_tariff_19 lk_md_169 im_md_read se_md_read rfl (by decide) (by decide) (c_47 _ _) (s_md_read _ x (wI I 47 1 (-2)) L n ((wI_ne (by omega)).trans hn) hn2) rfl rfl (Nat.le_of_ble_eq_true rfl) (Nat.le_of_ble_eq_true rfl) (Nat.le_of_ble_eq_true rfl) (Nat.zero_le _) (Nat.zero_le _) (fun h => ⟨h, rfl, Or.inl rfl⟩) (fun v n9 f9 hE => ?_)
  obtain ⟨rfl, rfl, rfl⟩ := hE
  refine qr_if_ne (tgt := 31) (pc := 22) d_md_tariff_22 (by decide) (fun h22 => ?_) (fun h22 => ?_)
  rotate_left
  · refine qr_aload_n (pc := 25) d_md_tariff_25 rfl rfl ?_
    refine qr_iconst (v := 1) (pc := 26) d_md_tariff_26 (by decide) ?_
    refine qr_callV (q := 47) (As := [.int 1]) (pc := 27) d_md_tariff_27 lk_md_110 im_md_refuse se_md_refuse rfl (by decide) (by decide) (c_47 _ _) (s_md_refuse _ x (m_read (wI I 47 1 (-2)) n).2 L 1) rfl rfl (Nat.le_of_ble_eq_true rfl) (Nat.le_of_ble_eq_true rfl) (Nat.le_of_ble_eq_true rfl) (Nat.zero_le _) (Nat.zero_le _) (fun h => ⟨h, rfl, Or.inl rfl⟩) (fun v n9 f9 hE => ?_)
    obtain ⟨rfl, rfl, rfl⟩ := hE
    exact qr_iret (pc := 30) d_md_tariff_30 rfl rfl ⟨by rw [m_tf, if_pos h15, if_pos h22], rfl, by rw [m_tf, if_pos h15, if_pos h22]⟩ (Nat.zero_le _) (Nat.zero_le _)
  rw [m_tf, if_pos h15, if_neg h22]
  obtain ⟨t9, ht9, rfl⟩ := in_nI (n := 2) (by decide) h15
  rw [nI_clamp (n := t9) (by omega)]
  generalize (m_read (wI I 47 1 (-2)) n).2 = M
  refine qr_aload_n (pc := 31) d_md_tariff_31 rfl rfl ?_
  refine qr_iconst (v := 0) (pc := 32) d_md_tariff_32 (by decide) ?_
  refine qr_putI (pc := 33) d_md_tariff_33 fl_md_99 (by decide) (by decide) (c_47 _ _) (Nat.le_of_ble_eq_true rfl) (qFit_i _) (fun w => rfl) ?_
  refine qr_aload_n (pc := 36) d_md_tariff_36 rfl rfl ?_
  refine qr_get (v := .ref 49) (pc := 37) d_md_tariff_37 fl_md_17 (by decide) (by decide) (c_47 _ _) rfl ?_
  refine qr_iload_n (pc := 40) d_md_tariff_40 rfl rfl ?_
  refine qr_aload_n (pc := 41) d_md_tariff_41 rfl rfl ?_
  refine qr_get (v := .ref 49) (pc := 42) d_md_tariff_42 fl_md_17 (by decide) (by decide) (c_47 _ _) rfl ?_
  refine qr_iconst (v := 3) (pc := 45) d_md_tariff_45 (by decide) ?_
  refine qr_ialdN (j := 3) (pc := 46) d_md_tariff_46 (by decide) (by decide) (c_49 _ _) (by decide) (by decide) ?_
  refine qr_iastMN (j := t9) (pc := 47) d_md_tariff_47 (by decide) (by decide) (c_49 _ _) (by omega) (by decide) (fun w => rfl) ?_
  refine qR_st (f' := fm (m_c1 49 (wI M 47 0 0) t9) L) rfl rfl rfl ?_
  refine qr_aload_n (pc := 48) d_md_tariff_48 rfl rfl ?_
  refine qr_get (v := .ref 50) (pc := 49) d_md_tariff_49 fl_md_20 (by decide) (by decide) (c_47 _ _) rfl ?_
  refine qr_iload_n (pc := 52) d_md_tariff_52 rfl rfl ?_
  refine qr_aload_n (pc := 53) d_md_tariff_53 rfl rfl ?_
  refine qr_get (v := .ref 50) (pc := 54) d_md_tariff_54 fl_md_20 (by decide) (by decide) (c_47 _ _) rfl ?_
  refine qr_iconst (v := 3) (pc := 57) d_md_tariff_57 (by decide) ?_
  refine qr_ialdN (j := 3) (pc := 58) d_md_tariff_58 (by decide) (by decide) (c_50 _ _) (by decide) (by decide) ?_
  refine qr_iastMN (j := t9) (pc := 59) d_md_tariff_59 (by decide) (by decide) (c_50 _ _) (by omega) (by decide) (fun w => rfl) ?_
  refine qR_st (f' := fm (m_c1 50 (m_c1 49 (wI M 47 0 0) t9) t9) L) rfl rfl rfl ?_
  refine qr_aload_n (pc := 60) d_md_tariff_60 rfl rfl ?_
  refine qr_get (v := .ref 51) (pc := 61) d_md_tariff_61 fl_md_23 (by decide) (by decide) (c_47 _ _) rfl ?_
  refine qr_iload_n (pc := 64) d_md_tariff_64 rfl rfl ?_
  refine qr_aload_n (pc := 65) d_md_tariff_65 rfl rfl ?_
  refine qr_get (v := .ref 51) (pc := 66) d_md_tariff_66 fl_md_23 (by decide) (by decide) (c_47 _ _) rfl ?_
  refine qr_iconst (v := 3) (pc := 69) d_md_tariff_69 (by decide) ?_
  refine qr_ialdN (j := 3) (pc := 70) d_md_tariff_70 (by decide) (by decide) (c_51 _ _) (by decide) (by decide) ?_
  refine qr_iastMN (j := t9) (pc := 71) d_md_tariff_71 (by decide) (by decide) (c_51 _ _) (by omega) (by decide) (fun w => rfl) ?_
  refine qR_st (f' := fm (m_c1 51 (m_c1 50 (m_c1 49 (wI M 47 0 0) t9) t9) t9) L) rfl rfl rfl ?_
  refine qr_aload_n (pc := 72) d_md_tariff_72 rfl rfl ?_
  refine qr_get (v := .ref 52) (pc := 73) d_md_tariff_73 fl_md_26 (by decide) (by decide) (c_47 _ _) rfl ?_
  refine qr_iload_n (pc := 76) d_md_tariff_76 rfl rfl ?_
  refine qr_aload_n (pc := 77) d_md_tariff_77 rfl rfl ?_
  refine qr_get (v := .ref 52) (pc := 78) d_md_tariff_78 fl_md_26 (by decide) (by decide) (c_47 _ _) rfl ?_
  refine qr_iconst (v := 3) (pc := 81) d_md_tariff_81 (by decide) ?_
  refine qr_ialdN (j := 3) (pc := 82) d_md_tariff_82 (by decide) (by decide) (c_52 _ _) (by decide) (by decide) ?_
  refine qr_iastMN (j := t9) (pc := 83) d_md_tariff_83 (by decide) (by decide) (c_52 _ _) (by omega) (by decide) (fun w => rfl) ?_
  refine qR_st (f' := fm (m_c1 52 (m_c1 51 (m_c1 50 (m_c1 49 (wI M 47 0 0) t9) t9) t9) t9) L) rfl rfl rfl ?_
  refine qr_aload_n (pc := 84) d_md_tariff_84 rfl rfl ?_
  refine qr_get (v := .ref 53) (pc := 85) d_md_tariff_85 fl_md_29 (by decide) (by decide) (c_47 _ _) rfl ?_
  refine qr_iload_n (pc := 88) d_md_tariff_88 rfl rfl ?_
  refine qr_aload_n (pc := 89) d_md_tariff_89 rfl rfl ?_
  refine qr_get (v := .ref 53) (pc := 90) d_md_tariff_90 fl_md_29 (by decide) (by decide) (c_47 _ _) rfl ?_
  refine qr_iconst (v := 3) (pc := 93) d_md_tariff_93 (by decide) ?_
  refine qr_ialdN (j := 3) (pc := 94) d_md_tariff_94 (by decide) (by decide) (c_53 _ _) (by decide) (by decide) ?_
  refine qr_iastMN (j := t9) (pc := 95) d_md_tariff_95 (by decide) (by decide) (c_53 _ _) (by omega) (by decide) (fun w => rfl) ?_
  refine qR_st (f' := fm (m_c1 53 (m_c1 52 (m_c1 51 (m_c1 50 (m_c1 49 (wI M 47 0 0) t9) t9) t9) t9) t9) L) rfl rfl rfl ?_
  refine qr_aload_n (pc := 96) d_md_tariff_96 rfl rfl ?_
  refine qr_get (v := .ref 54) (pc := 97) d_md_tariff_97 fl_md_32 (by decide) (by decide) (c_47 _ _) rfl ?_
  refine qr_iload_n (pc := 100) d_md_tariff_100 rfl rfl ?_
  refine qr_aload_n (pc := 101) d_md_tariff_101 rfl rfl ?_
  refine qr_get (v := .ref 54) (pc := 102) d_md_tariff_102 fl_md_32 (by decide) (by decide) (c_47 _ _) rfl ?_
  refine qr_iconst (v := 3) (pc := 105) d_md_tariff_105 (by decide) ?_
  refine qr_ialdN (j := 3) (pc := 106) d_md_tariff_106 (by decide) (by decide) (c_54 _ _) (by decide) (by decide) ?_
  refine qr_iastMN (j := t9) (pc := 107) d_md_tariff_107 (by decide) (by decide) (c_54 _ _) (by omega) (by decide) (fun w => rfl) ?_
  refine qR_st (f' := fm (m_c1 54 (m_c1 53 (m_c1 52 (m_c1 51 (m_c1 50 (m_c1 49 (wI M 47 0 0) t9) t9) t9) t9) t9) t9) L) rfl rfl rfl ?_
  refine qr_aload_n (pc := 108) d_md_tariff_108 rfl rfl ?_
  refine qr_get (v := .ref 55) (pc := 109) d_md_tariff_109 fl_md_35 (by decide) (by decide) (c_47 _ _) rfl ?_
  refine qr_iload_n (pc := 112) d_md_tariff_112 rfl rfl ?_
  refine qr_aload_n (pc := 113) d_md_tariff_113 rfl rfl ?_
  refine qr_get (v := .ref 55) (pc := 114) d_md_tariff_114 fl_md_35 (by decide) (by decide) (c_47 _ _) rfl ?_
  refine qr_iconst (v := 3) (pc := 117) d_md_tariff_117 (by decide) ?_
  refine qr_ialdN (j := 3) (pc := 118) d_md_tariff_118 (by decide) (by decide) (c_55 _ _) (by decide) (by decide) ?_
  refine qr_iastMN (j := t9) (pc := 119) d_md_tariff_119 (by decide) (by decide) (c_55 _ _) (by omega) (by decide) (fun w => rfl) ?_
  refine qR_st (f' := fm (m_c1 55 (m_c1 54 (m_c1 53 (m_c1 52 (m_c1 51 (m_c1 50 (m_c1 49 (wI M 47 0 0) t9) t9) t9) t9) t9) t9) t9) L) rfl rfl rfl ?_
  refine qr_iconst (v := 0) (pc := 120) d_md_tariff_120 (by decide) ?_
  refine qr_istore_n (lv' := [(2, .int (nI 0)), (0, .ref 47), (1, .int (nI t9))]) (pc := 121) d_md_tariff_121 rfl (Nat.le_of_ble_eq_true rfl) rfl ?_
  refine qR_st (f' := fm (m_cA M t9) L) rfl rfl rfl ?_
  refine qr_iload_n (pc := 122) d_md_tariff_122 rfl rfl ?_
  refine qr_iconst (v := 4) (pc := 123) d_md_tariff_123 (by decide) ?_
  refine qr_icmp_ge (tgt := 171) (pc := 124) d_md_tariff_124 (by decide) (fun h => absurd h (by decide)) (fun _ => ?_)
  refine qr_aload_n (pc := 127) d_md_tariff_127 rfl rfl ?_
  refine qr_get (v := .ref 56) (pc := 128) d_md_tariff_128 fl_md_38 (by decide) (by decide) (c_47 _ _) rfl ?_
  refine qr_iconst (v := 4) (pc := 131) d_md_tariff_131 (by decide) ?_
  refine qr_iload_n (pc := 132) d_md_tariff_132 rfl rfl ?_
  refine qr_imul (pc := 133) d_md_tariff_133 ?_
  refine qr_iload_n (pc := 134) d_md_tariff_134 rfl rfl ?_
  refine qr_iadd (pc := 135) d_md_tariff_135 ?_
  refine qR_st (st' := [.int (nI (4 * t9 + 0)), .ref 56]) rfl (congrArg (fun q => [Value.int q, .ref 56]) (ix4 t9 0)) rfl ?_
  refine qr_aload_n (pc := 136) d_md_tariff_136 rfl rfl ?_
  refine qr_get (v := .ref 56) (pc := 137) d_md_tariff_137 fl_md_38 (by decide) (by decide) (c_47 _ _) rfl ?_
  refine qr_bipush (v := 12) (pc := 140) d_md_tariff_140 (by decide) ?_
  refine qr_iload_n (pc := 142) d_md_tariff_142 rfl rfl ?_
  refine qr_iadd (pc := 143) d_md_tariff_143 ?_
  refine qr_ialdN (j := 12 + 0) (pc := 144) d_md_tariff_144 (by decide) (by decide) (c_56 _ _) (by decide) (by decide) ?_
  refine qr_iastMN (j := 4 * t9 + 0) (pc := 145) d_md_tariff_145 (by decide) (by decide) (c_56 _ _) (by omega) (by decide) (fun w => rfl) ?_
  refine qR_st (f' := fm (m_c2 56 (m_cA M t9) t9 0) L) rfl rfl rfl ?_
  refine qr_aload_n (pc := 146) d_md_tariff_146 rfl rfl ?_
  refine qr_get (v := .ref 57) (pc := 147) d_md_tariff_147 fl_md_41 (by decide) (by decide) (c_47 _ _) rfl ?_
  refine qr_iconst (v := 4) (pc := 150) d_md_tariff_150 (by decide) ?_
  refine qr_iload_n (pc := 151) d_md_tariff_151 rfl rfl ?_
  refine qr_imul (pc := 152) d_md_tariff_152 ?_
  refine qr_iload_n (pc := 153) d_md_tariff_153 rfl rfl ?_
  refine qr_iadd (pc := 154) d_md_tariff_154 ?_
  refine qR_st (st' := [.int (nI (4 * t9 + 0)), .ref 57]) rfl (congrArg (fun q => [Value.int q, .ref 57]) (ix4 t9 0)) rfl ?_
  refine qr_aload_n (pc := 155) d_md_tariff_155 rfl rfl ?_
  refine qr_get (v := .ref 57) (pc := 156) d_md_tariff_156 fl_md_41 (by decide) (by decide) (c_47 _ _) rfl ?_
  refine qr_bipush (v := 12) (pc := 159) d_md_tariff_159 (by decide) ?_
  refine qr_iload_n (pc := 161) d_md_tariff_161 rfl rfl ?_
  refine qr_iadd (pc := 162) d_md_tariff_162 ?_
  refine qr_ialdN (j := 12 + 0) (pc := 163) d_md_tariff_163 (by decide) (by decide) (c_57 _ _) (by decide) (by decide) ?_
  refine qr_iastMN (j := 4 * t9 + 0) (pc := 164) d_md_tariff_164 (by decide) (by decide) (c_57 _ _) (by omega) (by decide) (fun w => rfl) ?_
  refine qR_st (f' := fm (m_c2 57 (m_c2 56 (m_cA M t9) t9 0) t9 0) L) rfl rfl rfl ?_
  refine qr_iinc (v := nI 1) (lv' := [(2, .int (nI 1)), (0, .ref 47), (1, .int (nI t9))]) (pc := 165) d_md_tariff_165 rfl (nI_1 0) (Nat.le_of_ble_eq_true rfl) rfl ?_
  refine qr_goto (tgt := 122) (pc := 168) d_md_tariff_168 (by decide) ?_
  refine qr_iload_n (pc := 122) d_md_tariff_122 rfl rfl ?_
  refine qr_iconst (v := 4) (pc := 123) d_md_tariff_123 (by decide) ?_
  refine qr_icmp_ge (tgt := 171) (pc := 124) d_md_tariff_124 (by decide) (fun h => absurd h (by decide)) (fun _ => ?_)
  refine qr_aload_n (pc := 127) d_md_tariff_127 rfl rfl ?_
  refine qr_get (v := .ref 56) (pc := 128) d_md_tariff_128 fl_md_38 (by decide) (by decide) (c_47 _ _) rfl ?_
  refine qr_iconst (v := 4) (pc := 131) d_md_tariff_131 (by decide) ?_
  refine qr_iload_n (pc := 132) d_md_tariff_132 rfl rfl ?_
  refine qr_imul (pc := 133) d_md_tariff_133 ?_
  refine qr_iload_n (pc := 134) d_md_tariff_134 rfl rfl ?_
  refine qr_iadd (pc := 135) d_md_tariff_135 ?_
  refine qR_st (st' := [.int (nI (4 * t9 + 1)), .ref 56]) rfl (congrArg (fun q => [Value.int q, .ref 56]) (ix4 t9 1)) rfl ?_
  refine qr_aload_n (pc := 136) d_md_tariff_136 rfl rfl ?_
  refine qr_get (v := .ref 56) (pc := 137) d_md_tariff_137 fl_md_38 (by decide) (by decide) (c_47 _ _) rfl ?_
  refine qr_bipush (v := 12) (pc := 140) d_md_tariff_140 (by decide) ?_
  refine qr_iload_n (pc := 142) d_md_tariff_142 rfl rfl ?_
  refine qr_iadd (pc := 143) d_md_tariff_143 ?_
  refine qr_ialdN (j := 12 + 1) (pc := 144) d_md_tariff_144 (by decide) (by decide) (c_56 _ _) (by decide) (by decide) ?_
  refine qr_iastMN (j := 4 * t9 + 1) (pc := 145) d_md_tariff_145 (by decide) (by decide) (c_56 _ _) (by omega) (by decide) (fun w => rfl) ?_
  refine qR_st (f' := fm (m_c2 56 (m_c2 57 (m_c2 56 (m_cA M t9) t9 0) t9 0) t9 1) L) rfl rfl rfl ?_
  refine qr_aload_n (pc := 146) d_md_tariff_146 rfl rfl ?_
  refine qr_get (v := .ref 57) (pc := 147) d_md_tariff_147 fl_md_41 (by decide) (by decide) (c_47 _ _) rfl ?_
  refine qr_iconst (v := 4) (pc := 150) d_md_tariff_150 (by decide) ?_
  refine qr_iload_n (pc := 151) d_md_tariff_151 rfl rfl ?_
  refine qr_imul (pc := 152) d_md_tariff_152 ?_
  refine qr_iload_n (pc := 153) d_md_tariff_153 rfl rfl ?_
  refine qr_iadd (pc := 154) d_md_tariff_154 ?_
  refine qR_st (st' := [.int (nI (4 * t9 + 1)), .ref 57]) rfl (congrArg (fun q => [Value.int q, .ref 57]) (ix4 t9 1)) rfl ?_
  refine qr_aload_n (pc := 155) d_md_tariff_155 rfl rfl ?_
  refine qr_get (v := .ref 57) (pc := 156) d_md_tariff_156 fl_md_41 (by decide) (by decide) (c_47 _ _) rfl ?_
  refine qr_bipush (v := 12) (pc := 159) d_md_tariff_159 (by decide) ?_
  refine qr_iload_n (pc := 161) d_md_tariff_161 rfl rfl ?_
  refine qr_iadd (pc := 162) d_md_tariff_162 ?_
  refine qr_ialdN (j := 12 + 1) (pc := 163) d_md_tariff_163 (by decide) (by decide) (c_57 _ _) (by decide) (by decide) ?_
  refine qr_iastMN (j := 4 * t9 + 1) (pc := 164) d_md_tariff_164 (by decide) (by decide) (c_57 _ _) (by omega) (by decide) (fun w => rfl) ?_
  refine qR_st (f' := fm (m_c2 57 (m_c2 56 (m_c2 57 (m_c2 56 (m_cA M t9) t9 0) t9 0) t9 1) t9 1) L) rfl rfl rfl ?_
  refine qr_iinc (v := nI 2) (lv' := [(2, .int (nI 2)), (0, .ref 47), (1, .int (nI t9))]) (pc := 165) d_md_tariff_165 rfl (nI_1 1) (Nat.le_of_ble_eq_true rfl) rfl ?_
  refine qr_goto (tgt := 122) (pc := 168) d_md_tariff_168 (by decide) ?_
  refine qr_iload_n (pc := 122) d_md_tariff_122 rfl rfl ?_
  refine qr_iconst (v := 4) (pc := 123) d_md_tariff_123 (by decide) ?_
  refine qr_icmp_ge (tgt := 171) (pc := 124) d_md_tariff_124 (by decide) (fun h => absurd h (by decide)) (fun _ => ?_)
  refine qr_aload_n (pc := 127) d_md_tariff_127 rfl rfl ?_
  refine qr_get (v := .ref 56) (pc := 128) d_md_tariff_128 fl_md_38 (by decide) (by decide) (c_47 _ _) rfl ?_
  refine qr_iconst (v := 4) (pc := 131) d_md_tariff_131 (by decide) ?_
  refine qr_iload_n (pc := 132) d_md_tariff_132 rfl rfl ?_
  refine qr_imul (pc := 133) d_md_tariff_133 ?_
  refine qr_iload_n (pc := 134) d_md_tariff_134 rfl rfl ?_
  refine qr_iadd (pc := 135) d_md_tariff_135 ?_
  refine qR_st (st' := [.int (nI (4 * t9 + 2)), .ref 56]) rfl (congrArg (fun q => [Value.int q, .ref 56]) (ix4 t9 2)) rfl ?_
  refine qr_aload_n (pc := 136) d_md_tariff_136 rfl rfl ?_
  refine qr_get (v := .ref 56) (pc := 137) d_md_tariff_137 fl_md_38 (by decide) (by decide) (c_47 _ _) rfl ?_
  refine qr_bipush (v := 12) (pc := 140) d_md_tariff_140 (by decide) ?_
  refine qr_iload_n (pc := 142) d_md_tariff_142 rfl rfl ?_
  refine qr_iadd (pc := 143) d_md_tariff_143 ?_
  refine qr_ialdN (j := 12 + 2) (pc := 144) d_md_tariff_144 (by decide) (by decide) (c_56 _ _) (by decide) (by decide) ?_
  refine qr_iastMN (j := 4 * t9 + 2) (pc := 145) d_md_tariff_145 (by decide) (by decide) (c_56 _ _) (by omega) (by decide) (fun w => rfl) ?_
  refine qR_st (f' := fm (m_c2 56 (m_c2 57 (m_c2 56 (m_c2 57 (m_c2 56 (m_cA M t9) t9 0) t9 0) t9 1) t9 1) t9 2) L) rfl rfl rfl ?_
  refine qr_aload_n (pc := 146) d_md_tariff_146 rfl rfl ?_
  refine qr_get (v := .ref 57) (pc := 147) d_md_tariff_147 fl_md_41 (by decide) (by decide) (c_47 _ _) rfl ?_
  refine qr_iconst (v := 4) (pc := 150) d_md_tariff_150 (by decide) ?_
  refine qr_iload_n (pc := 151) d_md_tariff_151 rfl rfl ?_
  refine qr_imul (pc := 152) d_md_tariff_152 ?_
  refine qr_iload_n (pc := 153) d_md_tariff_153 rfl rfl ?_
  refine qr_iadd (pc := 154) d_md_tariff_154 ?_
  refine qR_st (st' := [.int (nI (4 * t9 + 2)), .ref 57]) rfl (congrArg (fun q => [Value.int q, .ref 57]) (ix4 t9 2)) rfl ?_
  refine qr_aload_n (pc := 155) d_md_tariff_155 rfl rfl ?_
  refine qr_get (v := .ref 57) (pc := 156) d_md_tariff_156 fl_md_41 (by decide) (by decide) (c_47 _ _) rfl ?_
  refine qr_bipush (v := 12) (pc := 159) d_md_tariff_159 (by decide) ?_
  refine qr_iload_n (pc := 161) d_md_tariff_161 rfl rfl ?_
  refine qr_iadd (pc := 162) d_md_tariff_162 ?_
  refine qr_ialdN (j := 12 + 2) (pc := 163) d_md_tariff_163 (by decide) (by decide) (c_57 _ _) (by decide) (by decide) ?_
  refine qr_iastMN (j := 4 * t9 + 2) (pc := 164) d_md_tariff_164 (by decide) (by decide) (c_57 _ _) (by omega) (by decide) (fun w => rfl) ?_
  refine qR_st (f' := fm (m_c2 57 (m_c2 56 (m_c2 57 (m_c2 56 (m_c2 57 (m_c2 56 (m_cA M t9) t9 0) t9 0) t9 1) t9 1) t9 2) t9 2) L) rfl rfl rfl ?_
  refine qr_iinc (v := nI 3) (lv' := [(2, .int (nI 3)), (0, .ref 47), (1, .int (nI t9))]) (pc := 165) d_md_tariff_165 rfl (nI_1 2) (Nat.le_of_ble_eq_true rfl) rfl ?_
  refine qr_goto (tgt := 122) (pc := 168) d_md_tariff_168 (by decide) ?_
  refine qr_iload_n (pc := 122) d_md_tariff_122 rfl rfl ?_
  refine qr_iconst (v := 4) (pc := 123) d_md_tariff_123 (by decide) ?_
  refine qr_icmp_ge (tgt := 171) (pc := 124) d_md_tariff_124 (by decide) (fun h => absurd h (by decide)) (fun _ => ?_)
  refine qr_aload_n (pc := 127) d_md_tariff_127 rfl rfl ?_
  refine qr_get (v := .ref 56) (pc := 128) d_md_tariff_128 fl_md_38 (by decide) (by decide) (c_47 _ _) rfl ?_
  refine qr_iconst (v := 4) (pc := 131) d_md_tariff_131 (by decide) ?_
  refine qr_iload_n (pc := 132) d_md_tariff_132 rfl rfl ?_
  refine qr_imul (pc := 133) d_md_tariff_133 ?_
  refine qr_iload_n (pc := 134) d_md_tariff_134 rfl rfl ?_
  refine qr_iadd (pc := 135) d_md_tariff_135 ?_
  refine qR_st (st' := [.int (nI (4 * t9 + 3)), .ref 56]) rfl (congrArg (fun q => [Value.int q, .ref 56]) (ix4 t9 3)) rfl ?_
  refine qr_aload_n (pc := 136) d_md_tariff_136 rfl rfl ?_
  refine qr_get (v := .ref 56) (pc := 137) d_md_tariff_137 fl_md_38 (by decide) (by decide) (c_47 _ _) rfl ?_
  refine qr_bipush (v := 12) (pc := 140) d_md_tariff_140 (by decide) ?_
  refine qr_iload_n (pc := 142) d_md_tariff_142 rfl rfl ?_
  refine qr_iadd (pc := 143) d_md_tariff_143 ?_
  refine qr_ialdN (j := 12 + 3) (pc := 144) d_md_tariff_144 (by decide) (by decide) (c_56 _ _) (by decide) (by decide) ?_
  refine qr_iastMN (j := 4 * t9 + 3) (pc := 145) d_md_tariff_145 (by decide) (by decide) (c_56 _ _) (by omega) (by decide) (fun w => rfl) ?_
  refine qR_st (f' := fm (m_c2 56 (m_c2 57 (m_c2 56 (m_c2 57 (m_c2 56 (m_c2 57 (m_c2 56 (m_cA M t9) t9 0) t9 0) t9 1) t9 1) t9 2) t9 2) t9 3) L) rfl rfl rfl ?_
  refine qr_aload_n (pc := 146) d_md_tariff_146 rfl rfl ?_
  refine qr_get (v := .ref 57) (pc := 147) d_md_tariff_147 fl_md_41 (by decide) (by decide) (c_47 _ _) rfl ?_
  refine qr_iconst (v := 4) (pc := 150) d_md_tariff_150 (by decide) ?_
  refine qr_iload_n (pc := 151) d_md_tariff_151 rfl rfl ?_
  refine qr_imul (pc := 152) d_md_tariff_152 ?_
  refine qr_iload_n (pc := 153) d_md_tariff_153 rfl rfl ?_
  refine qr_iadd (pc := 154) d_md_tariff_154 ?_
  refine qR_st (st' := [.int (nI (4 * t9 + 3)), .ref 57]) rfl (congrArg (fun q => [Value.int q, .ref 57]) (ix4 t9 3)) rfl ?_
  refine qr_aload_n (pc := 155) d_md_tariff_155 rfl rfl ?_
  refine qr_get (v := .ref 57) (pc := 156) d_md_tariff_156 fl_md_41 (by decide) (by decide) (c_47 _ _) rfl ?_
  refine qr_bipush (v := 12) (pc := 159) d_md_tariff_159 (by decide) ?_
  refine qr_iload_n (pc := 161) d_md_tariff_161 rfl rfl ?_
  refine qr_iadd (pc := 162) d_md_tariff_162 ?_
  refine qr_ialdN (j := 12 + 3) (pc := 163) d_md_tariff_163 (by decide) (by decide) (c_57 _ _) (by decide) (by decide) ?_
  refine qr_iastMN (j := 4 * t9 + 3) (pc := 164) d_md_tariff_164 (by decide) (by decide) (c_57 _ _) (by omega) (by decide) (fun w => rfl) ?_
  refine qR_st (f' := fm (m_c2 57 (m_c2 56 (m_c2 57 (m_c2 56 (m_c2 57 (m_c2 56 (m_c2 57 (m_c2 56 (m_cA M t9) t9 0) t9 0) t9 1) t9 1) t9 2) t9 2) t9 3) t9 3) L) rfl rfl rfl ?_
  refine qr_iinc (v := nI 4) (lv' := [(2, .int (nI 4)), (0, .ref 47), (1, .int (nI t9))]) (pc := 165) d_md_tariff_165 rfl (nI_1 3) (Nat.le_of_ble_eq_true rfl) rfl ?_
  refine qr_goto (tgt := 122) (pc := 168) d_md_tariff_168 (by decide) ?_
  refine qr_iload_n (pc := 122) d_md_tariff_122 rfl rfl ?_
  refine qr_iconst (v := 4) (pc := 123) d_md_tariff_123 (by decide) ?_
  refine qr_icmp_ge (tgt := 171) (pc := 124) d_md_tariff_124 (by decide) (fun _ => ?_) (fun h => absurd h (by decide))
  refine qr_aload_n (pc := 171) d_md_tariff_171 rfl rfl ?_
  refine qr_iconst (v := 0) (pc := 172) d_md_tariff_172 (by decide) ?_
  refine qr_putI (pc := 173) d_md_tariff_173 fl_md_114 (by decide) (by decide) (c_47 _ _) (Nat.le_of_ble_eq_true rfl) (qFit_i _) (fun w => rfl) ?_
  refine qr_aload_n (pc := 176) d_md_tariff_176 rfl rfl ?_
  refine qr_get (v := .int (m_cp M t9 47 38)) (pc := 177) d_md_tariff_177 fl_md_160 (by decide) (by decide) (c_47 _ _) rfl ?_
  exact qr_iret (pc := 180) d_md_tariff_180 rfl rfl ⟨rfl, rfl, rfl⟩ (Nat.zero_le _) (Nat.zero_le _)
