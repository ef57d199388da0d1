/-! the reference's parser: part -/
section QR2
variable {K : qK} {E : qE} {X : qXC} {pc : Nat} {lv : List (Nat × Value)} {st : List Value} {n kc ks : Nat} {f : Nat → va_E}
theorem qr_ishl {x y : Int32} (hd : decode (kcc K) pc = .ok (.ishl, 1)) (k : qR K E X (pc + 1) lv (.int (x <<< (y &&& 31)) :: st) n kc ks f) : qR K E X pc lv (.int y :: .int x :: st) n kc ks f := by
  intro p e R s m args below meth c H locs ls Q z ex D D3 C hP hS hl hE
  exact lv_ishl C.1 C.2.1 hd (k p e R s m args below meth c H locs ls Q z ex D D3 C hP hS hl hE)
end QR2
def m_isd (c : Int32) : Bool := decide (48 ≤ Int32.toInt64 c ∧ Int32.toInt64 c ≤ 57)
def m_isl (c : Int32) : Bool := decide (97 ≤ Int32.toInt64 c ∧ Int32.toInt64 c ≤ 122)
def m_bl (I : Nat → Nat → Int32) (a n : Nat) : Nat := skp (fun c => decide (c = 32)) (I 48) n (n + 1) a
def m_lt (I : Nat → Nat → Int32) (a n : Nat) : Nat := skp m_isl (I 48) n (n + 1) a
def m_kd (I : Nat → Nat → Int32) (a n : Nat) : Nat := skp m_isd (I 48) n 5 a - a
def m_e6 (I : Nat → Nat → Int32) (a n : Nat) : Bool := decide (a + m_kd I a n < n) && m_isd (I 48 (a + m_kd I a n))
theorem m_bl_ok (I : Nat → Nat → Int32) {a n : Nat} (h : a ≤ n) : a ≤ m_bl I a n ∧ (∀ i, a ≤ i → i < m_bl I a n → i < n ∧ I 48 i = 32) ∧ ¬ (m_bl I a n < n ∧ I 48 (m_bl I a n) = 32) ∧ m_bl I a n ≤ n := by
  have h1 : m_bl I a n ≤ n := skp_n h
  refine ⟨skp_ge _ _, fun i h2 h3 => ?_, fun h2 => ?_, h1⟩
  · have := skp_in _ _ i h2 h3
    exact ⟨this.1, of_decide_eq_true this.2⟩
  · exact skp_out (P := fun c => decide (c = 32)) (t := I 48) (n := n) (n + 1) a (by unfold m_bl at h1; omega) ⟨h2.1, decide_eq_true h2.2⟩
theorem m_lt_ok (I : Nat → Nat → Int32) {a n : Nat} (h : a ≤ n) : a ≤ m_lt I a n ∧ (∀ i, a ≤ i → i < m_lt I a n → i < n ∧ m_isl (I 48 i) = true) ∧ ¬ (m_lt I a n < n ∧ m_isl (I 48 (m_lt I a n)) = true) ∧ m_lt I a n ≤ n := by
  have h1 : m_lt I a n ≤ n := skp_n h
  refine ⟨skp_ge _ _, fun i h2 h3 => skp_in _ _ i h2 h3, fun h2 => ?_, h1⟩
  exact skp_out (P := m_isl) (t := I 48) (n := n) (n + 1) a (by unfold m_lt at h1; omega) h2
theorem m_dg_iff (I : Nat → Nat → Int32) (b n : Nat) : m_dg I b n ↔ (b < n ∧ m_isd (I 48 b) = true) := by
  constructor
  · intro h
    have hb := m_dg_lt h
    refine ⟨hb, decide_eq_true ?_⟩
    have h2 := h
    unfold m_dg m_lc at h2
    rw [if_neg (by omega)] at h2
    exact h2
  · intro h
    unfold m_dg m_lc
    rw [if_neg (by omega)]
    exact of_decide_eq_true h.2
theorem m_kd_ok (I : Nat → Nat → Int32) {a n : Nat} (h : a ≤ n) : (∀ k, k < m_kd I a n → m_dg I (a + k) n) ∧ m_kd I a n ≤ 5 ∧ (m_kd I a n < 5 → ¬ m_dg I (a + m_kd I a n) n) ∧ a + m_kd I a n ≤ n ∧ (m_e6 I a n = true ↔ m_dg I (a + m_kd I a n) n) := by
  have h0 : a ≤ skp m_isd (I 48) n 5 a := skp_ge _ _
  have h1 : skp m_isd (I 48) n 5 a ≤ n := skp_n h
  have h2 : skp m_isd (I 48) n 5 a ≤ a + 5 := skp_le _ _
  have h3 : a + m_kd I a n = skp m_isd (I 48) n 5 a := by unfold m_kd; omega
  refine ⟨fun k hk => ?_, by omega, fun hk hd => ?_, by omega, ?_⟩
  · exact (m_dg_iff _ _ _).mpr (skp_in (P := m_isd) (t := I 48) (n := n) 5 a (a + k) (by omega) (by omega))
  · rw [h3, m_dg_iff] at hd
    exact skp_out (P := m_isd) (t := I 48) (n := n) 5 a (by omega) hd
  · unfold m_e6
    rw [Bool.and_eq_true, decide_eq_true_iff, m_dg_iff]
def m_rv (I : Nat → Nat → Int32) (a n : Nat) (low : Int32) : Int32 := m_nr I n (m_bl I a n) (m_kd I (m_bl I a n) n) low (m_e6 I (m_bl I a n) n)
def m_rw (I : Nat → Nat → Int32) (a n : Nat) (low : Int32) : Nat → Nat → Int32 := m_nw I n (m_bl I a n) (m_kd I (m_bl I a n) n) low (m_e6 I (m_bl I a n) n)
def m_ra (I : Nat → Nat → Int32) (a n : Nat) : Nat := m_bl I a n + m_kd I (m_bl I a n) n
theorem m_ra_le (I : Nat → Nat → Int32) {a n : Nat} (h : a ≤ n) : m_ra I a n ≤ n := (m_kd_ok I (m_bl_ok I h).2.2.2).2.2.2.1
theorem m_ra_ge (I : Nat → Nat → Int32) {a n : Nat} (h : a ≤ n) : a ≤ m_ra I a n := Nat.le_trans (m_bl_ok I h).1 (Nat.le_add_right _ _)
theorem m_rw_ne {I : Nat → Nat → Int32} {a n k j : Nat} {low : Int32} (h : k ≠ 47 ∨ (j ≠ 36 ∧ j ≠ 1)) : m_rw I a n low k j = I k j := by
  have h4 : k ≠ 47 ∨ j ≠ 36 := h.imp id And.left
  have h6 : k ≠ 47 ∨ j ≠ 1 := h.imp id And.right
  unfold m_rw m_nw
  split
  · rw [wI_ne h6, wI_ne h4]
  · split
    · rw [wI_ne h6, wI_ne h4]
    · rw [wI_ne h4]
theorem m_rw_at {I : Nat → Nat → Int32} {a n : Nat} {low : Int32} : m_rw I a n low 47 36 = nI (m_ra I a n) := by
  unfold m_rw m_nw
  split
  · rw [wI_ne (Or.inr (by decide)), wI_at]
    rfl
  · split
    · rw [wI_ne (Or.inr (by decide)), wI_at]
      rfl
    · rw [wI_at]
      rfl
theorem s_md_numberF (l : Launch) (x : Bool) (I : Nat → Nat → Int32) (L : Nat → Nat → Int64) (a n : Nat) (ha : I 47 36 = nI a) (hn : I 47 4 = nI n) (ha2 : a ≤ n) (hn2 : n ≤ 60) (low : Int32) : qSp l y_md_number b_md_number 5 (some .int) x 3 0 0 [.ref 47, .int low] 77 (fm I L) (qD (some (.int (m_rv I a n low))) 77 (fm (m_rw I a n low) L)) := by
  have h1 := m_bl_ok I ha2
  have h2 := m_kd_ok I h1.2.2.2
  exact s_md_number l x I L a n ha hn ha2 hn2 (m_bl I a n) (m_kd I (m_bl I a n) n) low h1.1 h1.2.1 h1.2.2.1 h1.2.2.2 h2.1 h2.2.1 h2.2.2.1 h2.2.2.2.1 (m_e6 I (m_bl I a n) n) h2.2.2.2.2
theorem s_md_blanksF (l : Launch) (x : Bool) (I : Nat → Nat → Int32) (L : Nat → Nat → Int64) (a n : Nat) (ha : I 47 36 = nI a) (hn : I 47 4 = nI n) (ha2 : a ≤ n) (hn2 : n ≤ 60) : qSp l y_md_blanks b_md_blanks 1 none x 2 0 0 [.ref 47] 77 (fm I L) (qD none 77 (fm (wI I 47 36 (nI (m_bl I a n))) L)) := by
  have h1 := m_bl_ok I ha2
  exact s_md_blanks l x I L a n ha hn ha2 hn2 (m_bl I a n) h1.1 h1.2.1 h1.2.2.1 h1.2.2.2
/-- one PART: what becomes of the state, and the answer -/
abbrev qJ := Nat → Nat → Int32
abbrev m_sb (J : qJ) (k : Int32) : Prop := (J 47 37 >>> (k &&& 31)) &&& 1 = 1
def m_o1 (J : qJ) (w : Int32) : qJ := wI J 47 37 (J 47 37 ||| ((1 : Int32) <<< (w &&& 31)))
def m_pinc (J : qJ) : qJ := wI J 47 38 (J 47 38 + 1)
def m_pfin (J : qJ) (a n : Nat) : Int32 × qJ := (1, wI (m_pinc J) 47 36 (nI (m_bl (m_pinc J) a n)))
def m_pno (J : qJ) (s : Nat) : Int32 × qJ := (0, wI J 47 1 (nI s))
def m_pone (J : qJ) (e n c : Nat) : Int32 × qJ := if m_rv J e n 0 < 0 then (0, m_rw J e n 0) else m_pfin (wI (m_rw J e n 0) c 3 (m_rv J e n 0)) (m_ra J e n) n
def m_ptwo (J : qJ) (e n : Nat) (low : Int32) (F : qJ → Int32 → Int32 → qJ) : Int32 × qJ :=
  if m_rv J e n low < 0 then (0, m_rw J e n low) else if m_rv (m_rw J e n low) (m_ra J e n) n 0 < 0 then (0, m_rw (m_rw J e n low) (m_ra J e n) n 0)
  else m_pfin (F (m_rw (m_rw J e n low) (m_ra J e n) n 0) (m_rv J e n low) (m_rv (m_rw J e n low) (m_ra J e n) n 0)) (m_ra (m_rw J e n low) (m_ra J e n) n) n
def m_F3 (M : qJ) (v p : Int32) : qJ := wI (wI M 52 3 v) 53 3 p
def m_F4 (z : Nat) (M : qJ) (v p : Int32) : qJ := wI (wI (wI M 56 (12 + z) v) 57 (12 + z) p) 54 3 (nI (z + 1))
def m_plow (J : qJ) (z : Nat) : Int32 := if z = 0 then 1 else J 56 (12 + z - 1) + 1
def m_ppt (J : qJ) (s e n z : Nat) (w : Int32) : Int32 × qJ :=
  if w = 0 then (if m_sb J 0 then m_pno J s else m_pone (m_o1 J 0) e n 49)
  else if w = 1 then (if m_sb J 1 then m_pno J s else m_pone (m_o1 J 1) e n 50)
  else if w = 2 then (if m_sb J 2 then m_pno J s else m_pone (m_o1 J 2) e n 51)
  else if w = 3 then (if m_sb J 3 then m_pno J s else if m_sb J 4 then m_pno J s else m_ptwo (m_o1 J 3) e n 1 m_F3)
  else if w = 4 then (if m_sb J 3 then m_pno J s else if z = 4 then m_pno J s else m_ptwo (m_o1 J 4) e n (m_plow J z) (m_F4 z))
  else if w = 5 then (if m_sb J 5 then m_pno J s else m_pone (m_o1 J 5) e n 55)
  else m_pno J s
theorem m_wd_cases (J : qJ) (s e : Nat) : m_wd J s e = 0 ∨ m_wd J s e = 1 ∨ m_wd J s e = 2 ∨ m_wd J s e = 3 ∨ m_wd J s e = 4 ∨ m_wd J s e = 5 ∨ m_wd J s e = -1 := by
  unfold m_wd
  repeat' split
  all_goals simp
set_option maxRecDepth 10000 in
theorem m_pend (l : Launch) (x : Bool) (J : qJ) (L : Nat → Nat → Int64) (e n : Nat) (ha : J 47 36 = nI e) (hn : J 47 4 = nI n) (ha2 : e ≤ n) (hn2 : n ≤ 60) (lv : List (Nat × Value)) (h0 : qL lv 0 = some (.ref 47)) : qR (l, y_md_part.cls, b_md_part, 7, (some .boolean), false, x, 4, 0, 0, 77, q0) (qD (some (.int (m_pfin J e n).1)) 77 (fm (m_pfin J e n).2 L)) (fun _ _ _ => False) 389 lv [] 77 0 0 (fm J L) := by
  refine qr_aload_n (pc := 389) d_md_part_389 rfl h0 ?_
  refine qr_dup (pc := 390) d_md_part_390 rfl ?_
  refine qr_get (v := .int (J 47 38)) (pc := 391) d_md_part_391 fl_md_160 (by decide) (by decide) (c_47 _ _) rfl ?_
  refine qr_iconst (v := 1) (pc := 394) d_md_part_394 (by decide) ?_
  refine qr_iadd (pc := 395) d_md_part_395 ?_
  refine qr_putI (pc := 396) d_md_part_396 fl_md_160 (by decide) (by decide) (c_47 _ _) (Nat.le_of_ble_eq_true rfl) (qFit_i _) (fun w => rfl) ?_
  refine qr_aload_n (pc := 399) d_md_part_399 rfl h0 ?_
  refine qr_callV (q := 47) (As := []) (pc := 400) d_md_part_400 lk_md_128 im_md_blanks se_md_blanks rfl (by decide) (by decide) (c_47 _ _) (s_md_blanksF _ x (m_pinc J) L e n ((wI_ne (by omega)).trans ha) ((wI_ne (by omega)).trans hn) ha2 hn2) rfl rfl (Nat.le_of_ble_eq_true rfl) (Nat.le_of_ble_eq_true rfl) (Nat.le_of_ble_eq_true rfl) (Nat.zero_le _) (Nat.zero_le _) (fun h => ⟨h, rfl, Or.inl rfl⟩) (fun v n9 f9 hE => ?_)
  obtain ⟨rfl, rfl, rfl⟩ := hE
  refine qr_iconst (v := 1) (pc := 403) d_md_part_403 (by decide) ?_
  exact qr_iret (pc := 404) d_md_part_404 rfl rfl ⟨rfl, rfl, rfl⟩ (Nat.zero_le _) (Nat.zero_le _)
set_option maxRecDepth 10000 in
theorem m_p45_0 (l : Launch) (x : Bool) (J : qJ) (L : Nat → Nat → Int64) (s e n z : Nat) (ha : J 47 36 = nI e) (hn : J 47 4 = nI n) (ha2 : e ≤ n) (hn2 : n ≤ 60) (hz : J 54 3 = nI z) (hz2 : z ≤ 4) : qR (l, y_md_part.cls, b_md_part, 7, (some .boolean), false, x, 4, 0, 0, 77, q0) (qD (some (.int (m_ppt J s e n z 0).1)) 77 (fm (m_ppt J s e n z 0).2 L)) (fun _ _ _ => False) 45 [(2, .int 0), (1, .int (nI s)), (0, .ref 47)] [] 77 0 0 (fm J L) := by
  have hE : m_ppt J s e n z 0 = if m_sb J 0 then m_pno J s else m_pone (m_o1 J 0) e n 49 := by rw [m_ppt, if_pos rfl]
  rw [hE]
  refine qr_iload_n (pc := 45) d_md_part_45 rfl rfl ?_
  refine qr_if_lt (tgt := 70) (pc := 46) d_md_part_46 (by decide) (fun h => absurd h (by decide)) (fun _ => ?_)
  refine qr_iload_n (pc := 49) d_md_part_49 rfl rfl ?_
  refine qr_iconst (v := 4) (pc := 50) d_md_part_50 (by decide) ?_
  refine qr_icmp_eq (tgt := 70) (pc := 51) d_md_part_51 (by decide) (fun h => absurd h (by decide)) (fun _ => ?_)
  refine qr_aload_n (pc := 54) d_md_part_54 rfl rfl ?_
  refine qr_get (v := .int (J 47 37)) (pc := 55) d_md_part_55 fl_md_154 (by decide) (by decide) (c_47 _ _) rfl ?_
  refine qr_iload_n (pc := 58) d_md_part_58 rfl rfl ?_
  refine qr_ishr (pc := 59) d_md_part_59 ?_
  refine qr_iconst (v := 1) (pc := 60) d_md_part_60 (by decide) ?_
  refine qr_iand (pc := 61) d_md_part_61 ?_
  refine qr_iconst (v := 1) (pc := 62) d_md_part_62 (by decide) ?_
  refine qr_icmp_ne (tgt := 70) (pc := 63) d_md_part_63 (by decide) (fun h63 => ?_) (fun h63 => ?_)
  rotate_left
  · have hs : m_sb J 0 := by first | exact h63 | exact Decidable.not_not.mp h63
    rw [if_pos hs]
    refine qr_iconst (v := 1) (pc := 66) d_md_part_66 (by decide) ?_
    refine qr_goto (tgt := 71) (pc := 67) d_md_part_67 (by decide) ?_
    refine qr_istore_n (lv' := [(3, .int 1), (2, .int 0), (1, .int (nI s)), (0, .ref 47)]) (pc := 71) d_md_part_71 rfl (Nat.le_of_ble_eq_true rfl) rfl ?_
    refine qr_iload_n (pc := 72) d_md_part_72 rfl rfl ?_
    refine qr_if_lt (tgt := 129) (pc := 73) d_md_part_73 (by decide) (fun h => absurd h (by decide)) (fun _ => ?_)
    refine qr_iload_n (pc := 76) d_md_part_76 rfl rfl ?_
    refine qr_if_ne (tgt := 129) (pc := 77) d_md_part_77 (by decide) (fun _ => ?_) (fun h => absurd h (by decide))
    refine qr_aload_n (pc := 129) d_md_part_129 rfl rfl ?_
    refine qr_iload_n (pc := 130) d_md_part_130 rfl rfl ?_
    refine qr_putI (pc := 131) d_md_part_131 fl_md_7 (by decide) (by decide) (c_47 _ _) (Nat.le_of_ble_eq_true rfl) (qFit_i _) (fun w => rfl) ?_
    refine qr_iconst (v := 0) (pc := 134) d_md_part_134 (by decide) ?_
    exact qr_iret (pc := 135) d_md_part_135 rfl rfl ⟨rfl, rfl, rfl⟩ (Nat.zero_le _) (Nat.zero_le _)
  have hs : ¬ m_sb J 0 := h63
  rw [if_neg hs]
  refine qr_iconst (v := 0) (pc := 70) d_md_part_70 (by decide) ?_
  refine qr_istore_n (lv' := [(3, .int 0), (2, .int 0), (1, .int (nI s)), (0, .ref 47)]) (pc := 71) d_md_part_71 rfl (Nat.le_of_ble_eq_true rfl) rfl ?_
  refine qr_iload_n (pc := 72) d_md_part_72 rfl rfl ?_
  refine qr_if_lt (tgt := 129) (pc := 73) d_md_part_73 (by decide) (fun h => absurd h (by decide)) (fun _ => ?_)
  refine qr_iload_n (pc := 76) d_md_part_76 rfl rfl ?_
  refine qr_if_ne (tgt := 129) (pc := 77) d_md_part_77 (by decide) (fun h => absurd h (by decide)) (fun _ => ?_)
  refine qr_iload_n (pc := 80) d_md_part_80 rfl rfl ?_
  refine qr_iconst (v := 3) (pc := 81) d_md_part_81 (by decide) ?_
  refine qr_icmp_ne (tgt := 97) (pc := 82) d_md_part_82 (by decide) (fun _ => ?_) (fun h => absurd h (by decide))
  refine qr_iload_n (pc := 97) d_md_part_97 rfl rfl ?_
  refine qr_iconst (v := 4) (pc := 98) d_md_part_98 (by decide) ?_
  refine qr_icmp_ne (tgt := 114) (pc := 99) d_md_part_99 (by decide) (fun _ => ?_) (fun h => absurd h (by decide))
  refine qr_iload_n (pc := 114) d_md_part_114 rfl rfl ?_
  refine qr_iconst (v := 4) (pc := 115) d_md_part_115 (by decide) ?_
  refine qr_icmp_ne (tgt := 136) (pc := 116) d_md_part_116 (by decide) (fun _ => ?_) (fun h => absurd h (by decide))
  refine qr_aload_n (pc := 136) d_md_part_136 rfl rfl ?_
  refine qr_dup (pc := 137) d_md_part_137 rfl ?_
  refine qr_get (v := .int (J 47 37)) (pc := 138) d_md_part_138 fl_md_154 (by decide) (by decide) (c_47 _ _) rfl ?_
  refine qr_iconst (v := 1) (pc := 141) d_md_part_141 (by decide) ?_
  refine qr_iload_n (pc := 142) d_md_part_142 rfl rfl ?_
  refine qr_ishl (pc := 143) d_md_part_143 ?_
  refine qr_ior (pc := 144) d_md_part_144 ?_
  refine qr_putI (pc := 145) d_md_part_145 fl_md_154 (by decide) (by decide) (c_47 _ _) (Nat.le_of_ble_eq_true rfl) (qFit_i _) (fun w => rfl) ?_
  refine qr_iload_n (pc := 148) d_md_part_148 rfl rfl ?_
  refine qr_iconst (v := 4) (pc := 149) d_md_part_149 (by decide) ?_
  refine qr_icmp_ne (tgt := 183) (pc := 150) d_md_part_150 (by decide) (fun _ => ?_) (fun h => absurd h (by decide))
  refine qr_iconst (v := 1) (pc := 183) d_md_part_183 (by decide) ?_
  refine qr_istore (lv' := [(4, .int 1), (3, .int 0), (2, .int 0), (1, .int (nI s)), (0, .ref 47)]) (pc := 184) d_md_part_184 (Nat.le_of_ble_eq_true rfl) rfl ?_
  refine qr_aload_n (pc := 186) d_md_part_186 rfl rfl ?_
  refine qr_iload_n (pc := 187) d_md_part_187 rfl rfl ?_
  refine qr_iconst (v := 3) (pc := 188) d_md_part_188 (by decide) ?_
  refine qr_icmp_ne (tgt := 196) (pc := 189) d_md_part_189 (by decide) (fun _ => ?_) (fun h => absurd h (by decide))
  refine qr_iload_n (pc := 196) d_md_part_196 rfl rfl ?_
  refine qr_iconst (v := 4) (pc := 197) d_md_part_197 (by decide) ?_
  refine qr_icmp_ne (tgt := 206) (pc := 198) d_md_part_198 (by decide) (fun _ => ?_) (fun h => absurd h (by decide))
  refine qr_iconst (v := 0) (pc := 206) d_md_part_206 (by decide) ?_
  refine qr_callV (q := 47) (As := [.int 0]) (pc := 207) d_md_part_207 lk_md_157 im_md_number se_md_number rfl (by decide) (by decide) (c_47 _ _) (s_md_numberF _ x (m_o1 J 0) L e n ((wI_ne (by omega)).trans ha) ((wI_ne (by omega)).trans hn) ha2 hn2 0) rfl rfl (Nat.le_of_ble_eq_true rfl) (Nat.le_of_ble_eq_true rfl) (Nat.le_of_ble_eq_true rfl) (Nat.zero_le _) (Nat.zero_le _) (fun h => ⟨h, rfl, Or.inl rfl⟩) (fun v n9 f9 hE => ?_)
  obtain ⟨rfl, rfl, rfl⟩ := hE
  refine qr_istore (lv' := [(5, .int (m_rv (m_o1 J 0) e n 0)), (4, .int 1), (3, .int 0), (2, .int 0), (1, .int (nI s)), (0, .ref 47)]) (pc := 210) d_md_part_210 (Nat.le_of_ble_eq_true rfl) rfl ?_
  refine qr_iload (pc := 212) d_md_part_212 rfl ?_
  refine qr_if_ge (tgt := 219) (pc := 214) d_md_part_214 (by decide) (fun h214 => ?_) (fun h214 => ?_)
  rotate_left
  · have hv : m_rv (m_o1 J 0) e n 0 < 0 := Int32.not_le.mp h214
    refine qr_iconst (v := 0) (pc := 217) d_md_part_217 (by decide) ?_
    exact qr_iret (pc := 218) d_md_part_218 rfl rfl ⟨by rw [m_pone, if_pos hv], rfl, by rw [m_pone, if_pos hv]⟩ (Nat.zero_le _) (Nat.zero_le _)
  have hv : ¬ m_rv (m_o1 J 0) e n 0 < 0 := Int32.not_lt.mpr h214
  rw [m_pone, if_neg hv]
  refine qr_iload_n (pc := 219) d_md_part_219 rfl rfl ?_
  refine qr_iconst (v := 3) (pc := 220) d_md_part_220 (by decide) ?_
  refine qr_icmp_eq (tgt := 229) (pc := 221) d_md_part_221 (by decide) (fun h => absurd h (by decide)) (fun _ => ?_)
  refine qr_iload_n (pc := 224) d_md_part_224 rfl rfl ?_
  refine qr_iconst (v := 4) (pc := 225) d_md_part_225 (by decide) ?_
  refine qr_icmp_ne (tgt := 237) (pc := 226) d_md_part_226 (by decide) (fun _ => ?_) (fun h => absurd h (by decide))
  refine qr_iconst (v := 0) (pc := 237) d_md_part_237 (by decide) ?_
  refine qr_istore (lv' := [(6, .int 0), (5, .int (m_rv (m_o1 J 0) e n 0)), (4, .int 1), (3, .int 0), (2, .int 0), (1, .int (nI s)), (0, .ref 47)]) (pc := 238) d_md_part_238 (Nat.le_of_ble_eq_true rfl) rfl ?_
  refine qr_iload (pc := 240) d_md_part_240 rfl ?_
  refine qr_if_ge (tgt := 247) (pc := 242) d_md_part_242 (by decide) (fun _ => ?_) (fun h => absurd h (by decide))
  refine qr_iload_n (pc := 247) d_md_part_247 rfl rfl ?_
  refine qr_tableIn (x := 0) (off := 36) (tgt := 284) (pc := 248) d_md_part_248 (by decide) (by decide) (by decide) (by decide) ?_
  refine qr_aload_n (pc := 284) d_md_part_284 rfl rfl ?_
  refine qr_get (v := .ref 49) (pc := 285) d_md_part_285 fl_md_17 (by decide) (by decide) (c_47 _ _) rfl ?_
  refine qr_iconst (v := 3) (pc := 288) d_md_part_288 (by decide) ?_
  refine qr_iload (pc := 289) d_md_part_289 rfl ?_
  refine qr_iastMN (j := 3) (pc := 291) d_md_part_291 (by decide) (by decide) (c_49 _ _) (by decide) (by decide) (fun w => rfl) ?_
  refine qr_goto (tgt := 389) (pc := 292) d_md_part_292 (by decide) ?_
  exact m_pend l x _ L (m_ra (m_o1 J 0) e n) n ((wI_ne (by omega)).trans m_rw_at) ((wI_ne (by omega)).trans ((m_rw_ne (by omega)).trans ((wI_ne (by omega)).trans hn))) (m_ra_le _ ha2) hn2 _ rfl
set_option maxRecDepth 10000 in
theorem m_p45_1 (l : Launch) (x : Bool) (J : qJ) (L : Nat → Nat → Int64) (s e n z : Nat) (ha : J 47 36 = nI e) (hn : J 47 4 = nI n) (ha2 : e ≤ n) (hn2 : n ≤ 60) (hz : J 54 3 = nI z) (hz2 : z ≤ 4) : qR (l, y_md_part.cls, b_md_part, 7, (some .boolean), false, x, 4, 0, 0, 77, q0) (qD (some (.int (m_ppt J s e n z 1).1)) 77 (fm (m_ppt J s e n z 1).2 L)) (fun _ _ _ => False) 45 [(2, .int 1), (1, .int (nI s)), (0, .ref 47)] [] 77 0 0 (fm J L) := by
  have hE : m_ppt J s e n z 1 = if m_sb J 1 then m_pno J s else m_pone (m_o1 J 1) e n 50 := by rw [m_ppt, if_neg (by decide), if_pos rfl]
  rw [hE]
  refine qr_iload_n (pc := 45) d_md_part_45 rfl rfl ?_
  refine qr_if_lt (tgt := 70) (pc := 46) d_md_part_46 (by decide) (fun h => absurd h (by decide)) (fun _ => ?_)
  refine qr_iload_n (pc := 49) d_md_part_49 rfl rfl ?_
  refine qr_iconst (v := 4) (pc := 50) d_md_part_50 (by decide) ?_
  refine qr_icmp_eq (tgt := 70) (pc := 51) d_md_part_51 (by decide) (fun h => absurd h (by decide)) (fun _ => ?_)
  refine qr_aload_n (pc := 54) d_md_part_54 rfl rfl ?_
  refine qr_get (v := .int (J 47 37)) (pc := 55) d_md_part_55 fl_md_154 (by decide) (by decide) (c_47 _ _) rfl ?_
  refine qr_iload_n (pc := 58) d_md_part_58 rfl rfl ?_
  refine qr_ishr (pc := 59) d_md_part_59 ?_
  refine qr_iconst (v := 1) (pc := 60) d_md_part_60 (by decide) ?_
  refine qr_iand (pc := 61) d_md_part_61 ?_
  refine qr_iconst (v := 1) (pc := 62) d_md_part_62 (by decide) ?_
  refine qr_icmp_ne (tgt := 70) (pc := 63) d_md_part_63 (by decide) (fun h63 => ?_) (fun h63 => ?_)
  rotate_left
  · have hs : m_sb J 1 := by first | exact h63 | exact Decidable.not_not.mp h63
    rw [if_pos hs]
    refine qr_iconst (v := 1) (pc := 66) d_md_part_66 (by decide) ?_
    refine qr_goto (tgt := 71) (pc := 67) d_md_part_67 (by decide) ?_
    refine qr_istore_n (lv' := [(3, .int 1), (2, .int 1), (1, .int (nI s)), (0, .ref 47)]) (pc := 71) d_md_part_71 rfl (Nat.le_of_ble_eq_true rfl) rfl ?_
    refine qr_iload_n (pc := 72) d_md_part_72 rfl rfl ?_
    refine qr_if_lt (tgt := 129) (pc := 73) d_md_part_73 (by decide) (fun h => absurd h (by decide)) (fun _ => ?_)
    refine qr_iload_n (pc := 76) d_md_part_76 rfl rfl ?_
    refine qr_if_ne (tgt := 129) (pc := 77) d_md_part_77 (by decide) (fun _ => ?_) (fun h => absurd h (by decide))
    refine qr_aload_n (pc := 129) d_md_part_129 rfl rfl ?_
    refine qr_iload_n (pc := 130) d_md_part_130 rfl rfl ?_
    refine qr_putI (pc := 131) d_md_part_131 fl_md_7 (by decide) (by decide) (c_47 _ _) (Nat.le_of_ble_eq_true rfl) (qFit_i _) (fun w => rfl) ?_
    refine qr_iconst (v := 0) (pc := 134) d_md_part_134 (by decide) ?_
    exact qr_iret (pc := 135) d_md_part_135 rfl rfl ⟨rfl, rfl, rfl⟩ (Nat.zero_le _) (Nat.zero_le _)
  have hs : ¬ m_sb J 1 := h63
  rw [if_neg hs]
  refine qr_iconst (v := 0) (pc := 70) d_md_part_70 (by decide) ?_
  refine qr_istore_n (lv' := [(3, .int 0), (2, .int 1), (1, .int (nI s)), (0, .ref 47)]) (pc := 71) d_md_part_71 rfl (Nat.le_of_ble_eq_true rfl) rfl ?_
  refine qr_iload_n (pc := 72) d_md_part_72 rfl rfl ?_
  refine qr_if_lt (tgt := 129) (pc := 73) d_md_part_73 (by decide) (fun h => absurd h (by decide)) (fun _ => ?_)
  refine qr_iload_n (pc := 76) d_md_part_76 rfl rfl ?_
  refine qr_if_ne (tgt := 129) (pc := 77) d_md_part_77 (by decide) (fun h => absurd h (by decide)) (fun _ => ?_)
  refine qr_iload_n (pc := 80) d_md_part_80 rfl rfl ?_
  refine qr_iconst (v := 3) (pc := 81) d_md_part_81 (by decide) ?_
  refine qr_icmp_ne (tgt := 97) (pc := 82) d_md_part_82 (by decide) (fun _ => ?_) (fun h => absurd h (by decide))
  refine qr_iload_n (pc := 97) d_md_part_97 rfl rfl ?_
  refine qr_iconst (v := 4) (pc := 98) d_md_part_98 (by decide) ?_
  refine qr_icmp_ne (tgt := 114) (pc := 99) d_md_part_99 (by decide) (fun _ => ?_) (fun h => absurd h (by decide))
  refine qr_iload_n (pc := 114) d_md_part_114 rfl rfl ?_
  refine qr_iconst (v := 4) (pc := 115) d_md_part_115 (by decide) ?_
  refine qr_icmp_ne (tgt := 136) (pc := 116) d_md_part_116 (by decide) (fun _ => ?_) (fun h => absurd h (by decide))
  refine qr_aload_n (pc := 136) d_md_part_136 rfl rfl ?_
  refine qr_dup (pc := 137) d_md_part_137 rfl ?_
  refine qr_get (v := .int (J 47 37)) (pc := 138) d_md_part_138 fl_md_154 (by decide) (by decide) (c_47 _ _) rfl ?_
  refine qr_iconst (v := 1) (pc := 141) d_md_part_141 (by decide) ?_
  refine qr_iload_n (pc := 142) d_md_part_142 rfl rfl ?_
  refine qr_ishl (pc := 143) d_md_part_143 ?_
  refine qr_ior (pc := 144) d_md_part_144 ?_
  refine qr_putI (pc := 145) d_md_part_145 fl_md_154 (by decide) (by decide) (c_47 _ _) (Nat.le_of_ble_eq_true rfl) (qFit_i _) (fun w => rfl) ?_
  refine qr_iload_n (pc := 148) d_md_part_148 rfl rfl ?_
  refine qr_iconst (v := 4) (pc := 149) d_md_part_149 (by decide) ?_
  refine qr_icmp_ne (tgt := 183) (pc := 150) d_md_part_150 (by decide) (fun _ => ?_) (fun h => absurd h (by decide))
  refine qr_iconst (v := 1) (pc := 183) d_md_part_183 (by decide) ?_
  refine qr_istore (lv' := [(4, .int 1), (3, .int 0), (2, .int 1), (1, .int (nI s)), (0, .ref 47)]) (pc := 184) d_md_part_184 (Nat.le_of_ble_eq_true rfl) rfl ?_
  refine qr_aload_n (pc := 186) d_md_part_186 rfl rfl ?_
  refine qr_iload_n (pc := 187) d_md_part_187 rfl rfl ?_
  refine qr_iconst (v := 3) (pc := 188) d_md_part_188 (by decide) ?_
  refine qr_icmp_ne (tgt := 196) (pc := 189) d_md_part_189 (by decide) (fun _ => ?_) (fun h => absurd h (by decide))
  refine qr_iload_n (pc := 196) d_md_part_196 rfl rfl ?_
  refine qr_iconst (v := 4) (pc := 197) d_md_part_197 (by decide) ?_
  refine qr_icmp_ne (tgt := 206) (pc := 198) d_md_part_198 (by decide) (fun _ => ?_) (fun h => absurd h (by decide))
  refine qr_iconst (v := 0) (pc := 206) d_md_part_206 (by decide) ?_
  refine qr_callV (q := 47) (As := [.int 0]) (pc := 207) d_md_part_207 lk_md_157 im_md_number se_md_number rfl (by decide) (by decide) (c_47 _ _) (s_md_numberF _ x (m_o1 J 1) L e n ((wI_ne (by omega)).trans ha) ((wI_ne (by omega)).trans hn) ha2 hn2 0) rfl rfl (Nat.le_of_ble_eq_true rfl) (Nat.le_of_ble_eq_true rfl) (Nat.le_of_ble_eq_true rfl) (Nat.zero_le _) (Nat.zero_le _) (fun h => ⟨h, rfl, Or.inl rfl⟩) (fun v n9 f9 hE => ?_)
  obtain ⟨rfl, rfl, rfl⟩ := hE
  refine qr_istore (lv' := [(5, .int (m_rv (m_o1 J 1) e n 0)), (4, .int 1), (3, .int 0), (2, .int 1), (1, .int (nI s)), (0, .ref 47)]) (pc := 210) d_md_part_210 (Nat.le_of_ble_eq_true rfl) rfl ?_
  refine qr_iload (pc := 212) d_md_part_212 rfl ?_
  refine qr_if_ge (tgt := 219) (pc := 214) d_md_part_214 (by decide) (fun h214 => ?_) (fun h214 => ?_)
  rotate_left
  · have hv : m_rv (m_o1 J 1) e n 0 < 0 := Int32.not_le.mp h214
    refine qr_iconst (v := 0) (pc := 217) d_md_part_217 (by decide) ?_
    exact qr_iret (pc := 218) d_md_part_218 rfl rfl ⟨by rw [m_pone, if_pos hv], rfl, by rw [m_pone, if_pos hv]⟩ (Nat.zero_le _) (Nat.zero_le _)
  have hv : ¬ m_rv (m_o1 J 1) e n 0 < 0 := Int32.not_lt.mpr h214
  rw [m_pone, if_neg hv]
  refine qr_iload_n (pc := 219) d_md_part_219 rfl rfl ?_
  refine qr_iconst (v := 3) (pc := 220) d_md_part_220 (by decide) ?_
  refine qr_icmp_eq (tgt := 229) (pc := 221) d_md_part_221 (by decide) (fun h => absurd h (by decide)) (fun _ => ?_)
  refine qr_iload_n (pc := 224) d_md_part_224 rfl rfl ?_
  refine qr_iconst (v := 4) (pc := 225) d_md_part_225 (by decide) ?_
  refine qr_icmp_ne (tgt := 237) (pc := 226) d_md_part_226 (by decide) (fun _ => ?_) (fun h => absurd h (by decide))
  refine qr_iconst (v := 0) (pc := 237) d_md_part_237 (by decide) ?_
  refine qr_istore (lv' := [(6, .int 0), (5, .int (m_rv (m_o1 J 1) e n 0)), (4, .int 1), (3, .int 0), (2, .int 1), (1, .int (nI s)), (0, .ref 47)]) (pc := 238) d_md_part_238 (Nat.le_of_ble_eq_true rfl) rfl ?_
  refine qr_iload (pc := 240) d_md_part_240 rfl ?_
  refine qr_if_ge (tgt := 247) (pc := 242) d_md_part_242 (by decide) (fun _ => ?_) (fun h => absurd h (by decide))
  refine qr_iload_n (pc := 247) d_md_part_247 rfl rfl ?_
  refine qr_tableIn (x := 1) (off := 47) (tgt := 295) (pc := 248) d_md_part_248 (by decide) (by decide) (by decide) (by decide) ?_
  refine qr_aload_n (pc := 295) d_md_part_295 rfl rfl ?_
  refine qr_get (v := .ref 50) (pc := 296) d_md_part_296 fl_md_20 (by decide) (by decide) (c_47 _ _) rfl ?_
  refine qr_iconst (v := 3) (pc := 299) d_md_part_299 (by decide) ?_
  refine qr_iload (pc := 300) d_md_part_300 rfl ?_
  refine qr_iastMN (j := 3) (pc := 302) d_md_part_302 (by decide) (by decide) (c_50 _ _) (by decide) (by decide) (fun w => rfl) ?_
  refine qr_goto (tgt := 389) (pc := 303) d_md_part_303 (by decide) ?_
  exact m_pend l x _ L (m_ra (m_o1 J 1) e n) n ((wI_ne (by omega)).trans m_rw_at) ((wI_ne (by omega)).trans ((m_rw_ne (by omega)).trans ((wI_ne (by omega)).trans hn))) (m_ra_le _ ha2) hn2 _ rfl
set_option maxRecDepth 10000 in
theorem m_p45_2 (l : Launch) (x : Bool) (J : qJ) (L : Nat → Nat → Int64) (s e n z : Nat) (ha : J 47 36 = nI e) (hn : J 47 4 = nI n) (ha2 : e ≤ n) (hn2 : n ≤ 60) (hz : J 54 3 = nI z) (hz2 : z ≤ 4) : qR (l, y_md_part.cls, b_md_part, 7, (some .boolean), false, x, 4, 0, 0, 77, q0) (qD (some (.int (m_ppt J s e n z 2).1)) 77 (fm (m_ppt J s e n z 2).2 L)) (fun _ _ _ => False) 45 [(2, .int 2), (1, .int (nI s)), (0, .ref 47)] [] 77 0 0 (fm J L) := by
  have hE : m_ppt J s e n z 2 = if m_sb J 2 then m_pno J s else m_pone (m_o1 J 2) e n 51 := by rw [m_ppt, if_neg (by decide), if_neg (by decide), if_pos rfl]
  rw [hE]
  refine qr_iload_n (pc := 45) d_md_part_45 rfl rfl ?_
  refine qr_if_lt (tgt := 70) (pc := 46) d_md_part_46 (by decide) (fun h => absurd h (by decide)) (fun _ => ?_)
  refine qr_iload_n (pc := 49) d_md_part_49 rfl rfl ?_
  refine qr_iconst (v := 4) (pc := 50) d_md_part_50 (by decide) ?_
  refine qr_icmp_eq (tgt := 70) (pc := 51) d_md_part_51 (by decide) (fun h => absurd h (by decide)) (fun _ => ?_)
  refine qr_aload_n (pc := 54) d_md_part_54 rfl rfl ?_
  refine qr_get (v := .int (J 47 37)) (pc := 55) d_md_part_55 fl_md_154 (by decide) (by decide) (c_47 _ _) rfl ?_
  refine qr_iload_n (pc := 58) d_md_part_58 rfl rfl ?_
  refine qr_ishr (pc := 59) d_md_part_59 ?_
  refine qr_iconst (v := 1) (pc := 60) d_md_part_60 (by decide) ?_
  refine qr_iand (pc := 61) d_md_part_61 ?_
  refine qr_iconst (v := 1) (pc := 62) d_md_part_62 (by decide) ?_
  refine qr_icmp_ne (tgt := 70) (pc := 63) d_md_part_63 (by decide) (fun h63 => ?_) (fun h63 => ?_)
  rotate_left
  · have hs : m_sb J 2 := by first | exact h63 | exact Decidable.not_not.mp h63
    rw [if_pos hs]
    refine qr_iconst (v := 1) (pc := 66) d_md_part_66 (by decide) ?_
    refine qr_goto (tgt := 71) (pc := 67) d_md_part_67 (by decide) ?_
    refine qr_istore_n (lv' := [(3, .int 1), (2, .int 2), (1, .int (nI s)), (0, .ref 47)]) (pc := 71) d_md_part_71 rfl (Nat.le_of_ble_eq_true rfl) rfl ?_
    refine qr_iload_n (pc := 72) d_md_part_72 rfl rfl ?_
    refine qr_if_lt (tgt := 129) (pc := 73) d_md_part_73 (by decide) (fun h => absurd h (by decide)) (fun _ => ?_)
    refine qr_iload_n (pc := 76) d_md_part_76 rfl rfl ?_
    refine qr_if_ne (tgt := 129) (pc := 77) d_md_part_77 (by decide) (fun _ => ?_) (fun h => absurd h (by decide))
    refine qr_aload_n (pc := 129) d_md_part_129 rfl rfl ?_
    refine qr_iload_n (pc := 130) d_md_part_130 rfl rfl ?_
    refine qr_putI (pc := 131) d_md_part_131 fl_md_7 (by decide) (by decide) (c_47 _ _) (Nat.le_of_ble_eq_true rfl) (qFit_i _) (fun w => rfl) ?_
    refine qr_iconst (v := 0) (pc := 134) d_md_part_134 (by decide) ?_
    exact qr_iret (pc := 135) d_md_part_135 rfl rfl ⟨rfl, rfl, rfl⟩ (Nat.zero_le _) (Nat.zero_le _)
  have hs : ¬ m_sb J 2 := h63
  rw [if_neg hs]
  refine qr_iconst (v := 0) (pc := 70) d_md_part_70 (by decide) ?_
  refine qr_istore_n (lv' := [(3, .int 0), (2, .int 2), (1, .int (nI s)), (0, .ref 47)]) (pc := 71) d_md_part_71 rfl (Nat.le_of_ble_eq_true rfl) rfl ?_
  refine qr_iload_n (pc := 72) d_md_part_72 rfl rfl ?_
  refine qr_if_lt (tgt := 129) (pc := 73) d_md_part_73 (by decide) (fun h => absurd h (by decide)) (fun _ => ?_)
  refine qr_iload_n (pc := 76) d_md_part_76 rfl rfl ?_
  refine qr_if_ne (tgt := 129) (pc := 77) d_md_part_77 (by decide) (fun h => absurd h (by decide)) (fun _ => ?_)
  refine qr_iload_n (pc := 80) d_md_part_80 rfl rfl ?_
  refine qr_iconst (v := 3) (pc := 81) d_md_part_81 (by decide) ?_
  refine qr_icmp_ne (tgt := 97) (pc := 82) d_md_part_82 (by decide) (fun _ => ?_) (fun h => absurd h (by decide))
  refine qr_iload_n (pc := 97) d_md_part_97 rfl rfl ?_
  refine qr_iconst (v := 4) (pc := 98) d_md_part_98 (by decide) ?_
  refine qr_icmp_ne (tgt := 114) (pc := 99) d_md_part_99 (by decide) (fun _ => ?_) (fun h => absurd h (by decide))
  refine qr_iload_n (pc := 114) d_md_part_114 rfl rfl ?_
  refine qr_iconst (v := 4) (pc := 115) d_md_part_115 (by decide) ?_
  refine qr_icmp_ne (tgt := 136) (pc := 116) d_md_part_116 (by decide) (fun _ => ?_) (fun h => absurd h (by decide))
  refine qr_aload_n (pc := 136) d_md_part_136 rfl rfl ?_
  refine qr_dup (pc := 137) d_md_part_137 rfl ?_
  refine qr_get (v := .int (J 47 37)) (pc := 138) d_md_part_138 fl_md_154 (by decide) (by decide) (c_47 _ _) rfl ?_
  refine qr_iconst (v := 1) (pc := 141) d_md_part_141 (by decide) ?_
  refine qr_iload_n (pc := 142) d_md_part_142 rfl rfl ?_
  refine qr_ishl (pc := 143) d_md_part_143 ?_
  refine qr_ior (pc := 144) d_md_part_144 ?_
  refine qr_putI (pc := 145) d_md_part_145 fl_md_154 (by decide) (by decide) (c_47 _ _) (Nat.le_of_ble_eq_true rfl) (qFit_i _) (fun w => rfl) ?_
  refine qr_iload_n (pc := 148) d_md_part_148 rfl rfl ?_
  refine qr_iconst (v := 4) (pc := 149) d_md_part_149 (by decide) ?_
  refine qr_icmp_ne (tgt := 183) (pc := 150) d_md_part_150 (by decide) (fun _ => ?_) (fun h => absurd h (by decide))
  refine qr_iconst (v := 1) (pc := 183) d_md_part_183 (by decide) ?_
  refine qr_istore (lv' := [(4, .int 1), (3, .int 0), (2, .int 2), (1, .int (nI s)), (0, .ref 47)]) (pc := 184) d_md_part_184 (Nat.le_of_ble_eq_true rfl) rfl ?_
  refine qr_aload_n (pc := 186) d_md_part_186 rfl rfl ?_
  refine qr_iload_n (pc := 187) d_md_part_187 rfl rfl ?_
  refine qr_iconst (v := 3) (pc := 188) d_md_part_188 (by decide) ?_
  refine qr_icmp_ne (tgt := 196) (pc := 189) d_md_part_189 (by decide) (fun _ => ?_) (fun h => absurd h (by decide))
  refine qr_iload_n (pc := 196) d_md_part_196 rfl rfl ?_
  refine qr_iconst (v := 4) (pc := 197) d_md_part_197 (by decide) ?_
  refine qr_icmp_ne (tgt := 206) (pc := 198) d_md_part_198 (by decide) (fun _ => ?_) (fun h => absurd h (by decide))
  refine qr_iconst (v := 0) (pc := 206) d_md_part_206 (by decide) ?_
  refine qr_callV (q := 47) (As := [.int 0]) (pc := 207) d_md_part_207 lk_md_157 im_md_number se_md_number rfl (by decide) (by decide) (c_47 _ _) (s_md_numberF _ x (m_o1 J 2) L e n ((wI_ne (by omega)).trans ha) ((wI_ne (by omega)).trans hn) ha2 hn2 0) rfl rfl (Nat.le_of_ble_eq_true rfl) (Nat.le_of_ble_eq_true rfl) (Nat.le_of_ble_eq_true rfl) (Nat.zero_le _) (Nat.zero_le _) (fun h => ⟨h, rfl, Or.inl rfl⟩) (fun v n9 f9 hE => ?_)
  obtain ⟨rfl, rfl, rfl⟩ := hE
  refine qr_istore (lv' := [(5, .int (m_rv (m_o1 J 2) e n 0)), (4, .int 1), (3, .int 0), (2, .int 2), (1, .int (nI s)), (0, .ref 47)]) (pc := 210) d_md_part_210 (Nat.le_of_ble_eq_true rfl) rfl ?_
  refine qr_iload (pc := 212) d_md_part_212 rfl ?_
  refine qr_if_ge (tgt := 219) (pc := 214) d_md_part_214 (by decide) (fun h214 => ?_) (fun h214 => ?_)
  rotate_left
  · have hv : m_rv (m_o1 J 2) e n 0 < 0 := Int32.not_le.mp h214
    refine qr_iconst (v := 0) (pc := 217) d_md_part_217 (by decide) ?_
    exact qr_iret (pc := 218) d_md_part_218 rfl rfl ⟨by rw [m_pone, if_pos hv], rfl, by rw [m_pone, if_pos hv]⟩ (Nat.zero_le _) (Nat.zero_le _)
  have hv : ¬ m_rv (m_o1 J 2) e n 0 < 0 := Int32.not_lt.mpr h214
  rw [m_pone, if_neg hv]
  refine qr_iload_n (pc := 219) d_md_part_219 rfl rfl ?_
  refine qr_iconst (v := 3) (pc := 220) d_md_part_220 (by decide) ?_
  refine qr_icmp_eq (tgt := 229) (pc := 221) d_md_part_221 (by decide) (fun h => absurd h (by decide)) (fun _ => ?_)
  refine qr_iload_n (pc := 224) d_md_part_224 rfl rfl ?_
  refine qr_iconst (v := 4) (pc := 225) d_md_part_225 (by decide) ?_
  refine qr_icmp_ne (tgt := 237) (pc := 226) d_md_part_226 (by decide) (fun _ => ?_) (fun h => absurd h (by decide))
  refine qr_iconst (v := 0) (pc := 237) d_md_part_237 (by decide) ?_
  refine qr_istore (lv' := [(6, .int 0), (5, .int (m_rv (m_o1 J 2) e n 0)), (4, .int 1), (3, .int 0), (2, .int 2), (1, .int (nI s)), (0, .ref 47)]) (pc := 238) d_md_part_238 (Nat.le_of_ble_eq_true rfl) rfl ?_
  refine qr_iload (pc := 240) d_md_part_240 rfl ?_
  refine qr_if_ge (tgt := 247) (pc := 242) d_md_part_242 (by decide) (fun _ => ?_) (fun h => absurd h (by decide))
  refine qr_iload_n (pc := 247) d_md_part_247 rfl rfl ?_
  refine qr_tableIn (x := 2) (off := 58) (tgt := 306) (pc := 248) d_md_part_248 (by decide) (by decide) (by decide) (by decide) ?_
  refine qr_aload_n (pc := 306) d_md_part_306 rfl rfl ?_
  refine qr_get (v := .ref 51) (pc := 307) d_md_part_307 fl_md_23 (by decide) (by decide) (c_47 _ _) rfl ?_
  refine qr_iconst (v := 3) (pc := 310) d_md_part_310 (by decide) ?_
  refine qr_iload (pc := 311) d_md_part_311 rfl ?_
  refine qr_iastMN (j := 3) (pc := 313) d_md_part_313 (by decide) (by decide) (c_51 _ _) (by decide) (by decide) (fun w => rfl) ?_
  refine qr_goto (tgt := 389) (pc := 314) d_md_part_314 (by decide) ?_
  exact m_pend l x _ L (m_ra (m_o1 J 2) e n) n ((wI_ne (by omega)).trans m_rw_at) ((wI_ne (by omega)).trans ((m_rw_ne (by omega)).trans ((wI_ne (by omega)).trans hn))) (m_ra_le _ ha2) hn2 _ rfl
set_option maxRecDepth 10000 in
theorem m_p45_5 (l : Launch) (x : Bool) (J : qJ) (L : Nat → Nat → Int64) (s e n z : Nat) (ha : J 47 36 = nI e) (hn : J 47 4 = nI n) (ha2 : e ≤ n) (hn2 : n ≤ 60) (hz : J 54 3 = nI z) (hz2 : z ≤ 4) : qR (l, y_md_part.cls, b_md_part, 7, (some .boolean), false, x, 4, 0, 0, 77, q0) (qD (some (.int (m_ppt J s e n z 5).1)) 77 (fm (m_ppt J s e n z 5).2 L)) (fun _ _ _ => False) 45 [(2, .int 5), (1, .int (nI s)), (0, .ref 47)] [] 77 0 0 (fm J L) := by
  have hE : m_ppt J s e n z 5 = if m_sb J 5 then m_pno J s else m_pone (m_o1 J 5) e n 55 := by rw [m_ppt, if_neg (by decide), if_neg (by decide), if_neg (by decide), if_neg (by decide), if_neg (by decide), if_pos rfl]
  rw [hE]
  refine qr_iload_n (pc := 45) d_md_part_45 rfl rfl ?_
  refine qr_if_lt (tgt := 70) (pc := 46) d_md_part_46 (by decide) (fun h => absurd h (by decide)) (fun _ => ?_)
  refine qr_iload_n (pc := 49) d_md_part_49 rfl rfl ?_
  refine qr_iconst (v := 4) (pc := 50) d_md_part_50 (by decide) ?_
  refine qr_icmp_eq (tgt := 70) (pc := 51) d_md_part_51 (by decide) (fun h => absurd h (by decide)) (fun _ => ?_)
  refine qr_aload_n (pc := 54) d_md_part_54 rfl rfl ?_
  refine qr_get (v := .int (J 47 37)) (pc := 55) d_md_part_55 fl_md_154 (by decide) (by decide) (c_47 _ _) rfl ?_
  refine qr_iload_n (pc := 58) d_md_part_58 rfl rfl ?_
  refine qr_ishr (pc := 59) d_md_part_59 ?_
  refine qr_iconst (v := 1) (pc := 60) d_md_part_60 (by decide) ?_
  refine qr_iand (pc := 61) d_md_part_61 ?_
  refine qr_iconst (v := 1) (pc := 62) d_md_part_62 (by decide) ?_
  refine qr_icmp_ne (tgt := 70) (pc := 63) d_md_part_63 (by decide) (fun h63 => ?_) (fun h63 => ?_)
  rotate_left
  · have hs : m_sb J 5 := by first | exact h63 | exact Decidable.not_not.mp h63
    rw [if_pos hs]
    refine qr_iconst (v := 1) (pc := 66) d_md_part_66 (by decide) ?_
    refine qr_goto (tgt := 71) (pc := 67) d_md_part_67 (by decide) ?_
    refine qr_istore_n (lv' := [(3, .int 1), (2, .int 5), (1, .int (nI s)), (0, .ref 47)]) (pc := 71) d_md_part_71 rfl (Nat.le_of_ble_eq_true rfl) rfl ?_
    refine qr_iload_n (pc := 72) d_md_part_72 rfl rfl ?_
    refine qr_if_lt (tgt := 129) (pc := 73) d_md_part_73 (by decide) (fun h => absurd h (by decide)) (fun _ => ?_)
    refine qr_iload_n (pc := 76) d_md_part_76 rfl rfl ?_
    refine qr_if_ne (tgt := 129) (pc := 77) d_md_part_77 (by decide) (fun _ => ?_) (fun h => absurd h (by decide))
    refine qr_aload_n (pc := 129) d_md_part_129 rfl rfl ?_
    refine qr_iload_n (pc := 130) d_md_part_130 rfl rfl ?_
    refine qr_putI (pc := 131) d_md_part_131 fl_md_7 (by decide) (by decide) (c_47 _ _) (Nat.le_of_ble_eq_true rfl) (qFit_i _) (fun w => rfl) ?_
    refine qr_iconst (v := 0) (pc := 134) d_md_part_134 (by decide) ?_
    exact qr_iret (pc := 135) d_md_part_135 rfl rfl ⟨rfl, rfl, rfl⟩ (Nat.zero_le _) (Nat.zero_le _)
  have hs : ¬ m_sb J 5 := h63
  rw [if_neg hs]
  refine qr_iconst (v := 0) (pc := 70) d_md_part_70 (by decide) ?_
  refine qr_istore_n (lv' := [(3, .int 0), (2, .int 5), (1, .int (nI s)), (0, .ref 47)]) (pc := 71) d_md_part_71 rfl (Nat.le_of_ble_eq_true rfl) rfl ?_
  refine qr_iload_n (pc := 72) d_md_part_72 rfl rfl ?_
  refine qr_if_lt (tgt := 129) (pc := 73) d_md_part_73 (by decide) (fun h => absurd h (by decide)) (fun _ => ?_)
  refine qr_iload_n (pc := 76) d_md_part_76 rfl rfl ?_
  refine qr_if_ne (tgt := 129) (pc := 77) d_md_part_77 (by decide) (fun h => absurd h (by decide)) (fun _ => ?_)
  refine qr_iload_n (pc := 80) d_md_part_80 rfl rfl ?_
  refine qr_iconst (v := 3) (pc := 81) d_md_part_81 (by decide) ?_
  refine qr_icmp_ne (tgt := 97) (pc := 82) d_md_part_82 (by decide) (fun _ => ?_) (fun h => absurd h (by decide))
  refine qr_iload_n (pc := 97) d_md_part_97 rfl rfl ?_
  refine qr_iconst (v := 4) (pc := 98) d_md_part_98 (by decide) ?_
  refine qr_icmp_ne (tgt := 114) (pc := 99) d_md_part_99 (by decide) (fun _ => ?_) (fun h => absurd h (by decide))
  refine qr_iload_n (pc := 114) d_md_part_114 rfl rfl ?_
  refine qr_iconst (v := 4) (pc := 115) d_md_part_115 (by decide) ?_
  refine qr_icmp_ne (tgt := 136) (pc := 116) d_md_part_116 (by decide) (fun _ => ?_) (fun h => absurd h (by decide))
  refine qr_aload_n (pc := 136) d_md_part_136 rfl rfl ?_
  refine qr_dup (pc := 137) d_md_part_137 rfl ?_
  refine qr_get (v := .int (J 47 37)) (pc := 138) d_md_part_138 fl_md_154 (by decide) (by decide) (c_47 _ _) rfl ?_
  refine qr_iconst (v := 1) (pc := 141) d_md_part_141 (by decide) ?_
  refine qr_iload_n (pc := 142) d_md_part_142 rfl rfl ?_
  refine qr_ishl (pc := 143) d_md_part_143 ?_
  refine qr_ior (pc := 144) d_md_part_144 ?_
  refine qr_putI (pc := 145) d_md_part_145 fl_md_154 (by decide) (by decide) (c_47 _ _) (Nat.le_of_ble_eq_true rfl) (qFit_i _) (fun w => rfl) ?_
  refine qr_iload_n (pc := 148) d_md_part_148 rfl rfl ?_
  refine qr_iconst (v := 4) (pc := 149) d_md_part_149 (by decide) ?_
  refine qr_icmp_ne (tgt := 183) (pc := 150) d_md_part_150 (by decide) (fun _ => ?_) (fun h => absurd h (by decide))
  refine qr_iconst (v := 1) (pc := 183) d_md_part_183 (by decide) ?_
  refine qr_istore (lv' := [(4, .int 1), (3, .int 0), (2, .int 5), (1, .int (nI s)), (0, .ref 47)]) (pc := 184) d_md_part_184 (Nat.le_of_ble_eq_true rfl) rfl ?_
  refine qr_aload_n (pc := 186) d_md_part_186 rfl rfl ?_
  refine qr_iload_n (pc := 187) d_md_part_187 rfl rfl ?_
  refine qr_iconst (v := 3) (pc := 188) d_md_part_188 (by decide) ?_
  refine qr_icmp_ne (tgt := 196) (pc := 189) d_md_part_189 (by decide) (fun _ => ?_) (fun h => absurd h (by decide))
  refine qr_iload_n (pc := 196) d_md_part_196 rfl rfl ?_
  refine qr_iconst (v := 4) (pc := 197) d_md_part_197 (by decide) ?_
  refine qr_icmp_ne (tgt := 206) (pc := 198) d_md_part_198 (by decide) (fun _ => ?_) (fun h => absurd h (by decide))
  refine qr_iconst (v := 0) (pc := 206) d_md_part_206 (by decide) ?_
  refine qr_callV (q := 47) (As := [.int 0]) (pc := 207) d_md_part_207 lk_md_157 im_md_number se_md_number rfl (by decide) (by decide) (c_47 _ _) (s_md_numberF _ x (m_o1 J 5) L e n ((wI_ne (by omega)).trans ha) ((wI_ne (by omega)).trans hn) ha2 hn2 0) rfl rfl (Nat.le_of_ble_eq_true rfl) (Nat.le_of_ble_eq_true rfl) (Nat.le_of_ble_eq_true rfl) (Nat.zero_le _) (Nat.zero_le _) (fun h => ⟨h, rfl, Or.inl rfl⟩) (fun v n9 f9 hE => ?_)
  obtain ⟨rfl, rfl, rfl⟩ := hE
  refine qr_istore (lv' := [(5, .int (m_rv (m_o1 J 5) e n 0)), (4, .int 1), (3, .int 0), (2, .int 5), (1, .int (nI s)), (0, .ref 47)]) (pc := 210) d_md_part_210 (Nat.le_of_ble_eq_true rfl) rfl ?_
  refine qr_iload (pc := 212) d_md_part_212 rfl ?_
  refine qr_if_ge (tgt := 219) (pc := 214) d_md_part_214 (by decide) (fun h214 => ?_) (fun h214 => ?_)
  rotate_left
  · have hv : m_rv (m_o1 J 5) e n 0 < 0 := Int32.not_le.mp h214
    refine qr_iconst (v := 0) (pc := 217) d_md_part_217 (by decide) ?_
    exact qr_iret (pc := 218) d_md_part_218 rfl rfl ⟨by rw [m_pone, if_pos hv], rfl, by rw [m_pone, if_pos hv]⟩ (Nat.zero_le _) (Nat.zero_le _)
  have hv : ¬ m_rv (m_o1 J 5) e n 0 < 0 := Int32.not_lt.mpr h214
  rw [m_pone, if_neg hv]
  refine qr_iload_n (pc := 219) d_md_part_219 rfl rfl ?_
  refine qr_iconst (v := 3) (pc := 220) d_md_part_220 (by decide) ?_
  refine qr_icmp_eq (tgt := 229) (pc := 221) d_md_part_221 (by decide) (fun h => absurd h (by decide)) (fun _ => ?_)
  refine qr_iload_n (pc := 224) d_md_part_224 rfl rfl ?_
  refine qr_iconst (v := 4) (pc := 225) d_md_part_225 (by decide) ?_
  refine qr_icmp_ne (tgt := 237) (pc := 226) d_md_part_226 (by decide) (fun _ => ?_) (fun h => absurd h (by decide))
  refine qr_iconst (v := 0) (pc := 237) d_md_part_237 (by decide) ?_
  refine qr_istore (lv' := [(6, .int 0), (5, .int (m_rv (m_o1 J 5) e n 0)), (4, .int 1), (3, .int 0), (2, .int 5), (1, .int (nI s)), (0, .ref 47)]) (pc := 238) d_md_part_238 (Nat.le_of_ble_eq_true rfl) rfl ?_
  refine qr_iload (pc := 240) d_md_part_240 rfl ?_
  refine qr_if_ge (tgt := 247) (pc := 242) d_md_part_242 (by decide) (fun _ => ?_) (fun h => absurd h (by decide))
  refine qr_iload_n (pc := 247) d_md_part_247 rfl rfl ?_
  refine qr_tableOut (x := 5) (tgt := 381) (pc := 248) d_md_part_248 (by decide) (by decide) ?_
  refine qr_aload_n (pc := 381) d_md_part_381 rfl rfl ?_
  refine qr_get (v := .ref 55) (pc := 382) d_md_part_382 fl_md_35 (by decide) (by decide) (c_47 _ _) rfl ?_
  refine qr_iconst (v := 3) (pc := 385) d_md_part_385 (by decide) ?_
  refine qr_iload (pc := 386) d_md_part_386 rfl ?_
  refine qr_iastMN (j := 3) (pc := 388) d_md_part_388 (by decide) (by decide) (c_55 _ _) (by decide) (by decide) (fun w => rfl) ?_
  exact m_pend l x _ L (m_ra (m_o1 J 5) e n) n ((wI_ne (by omega)).trans m_rw_at) ((wI_ne (by omega)).trans ((m_rw_ne (by omega)).trans ((wI_ne (by omega)).trans hn))) (m_ra_le _ ha2) hn2 _ rfl
set_option maxRecDepth 10000 in
theorem m_p45_3 (l : Launch) (x : Bool) (J : qJ) (L : Nat → Nat → Int64) (s e n z : Nat) (ha : J 47 36 = nI e) (hn : J 47 4 = nI n) (ha2 : e ≤ n) (hn2 : n ≤ 60) (hz : J 54 3 = nI z) (hz2 : z ≤ 4) : qR (l, y_md_part.cls, b_md_part, 7, (some .boolean), false, x, 4, 0, 0, 77, q0) (qD (some (.int (m_ppt J s e n z 3).1)) 77 (fm (m_ppt J s e n z 3).2 L)) (fun _ _ _ => False) 45 [(2, .int 3), (1, .int (nI s)), (0, .ref 47)] [] 77 0 0 (fm J L) := by
  have hE : m_ppt J s e n z 3 = if m_sb J 3 then m_pno J s else if m_sb J 4 then m_pno J s else m_ptwo (m_o1 J 3) e n 1 m_F3 := by rw [m_ppt, if_neg (by decide), if_neg (by decide), if_neg (by decide), if_pos rfl]
  rw [hE]
  refine qr_iload_n (pc := 45) d_md_part_45 rfl rfl ?_
  refine qr_if_lt (tgt := 70) (pc := 46) d_md_part_46 (by decide) (fun h => absurd h (by decide)) (fun _ => ?_)
  refine qr_iload_n (pc := 49) d_md_part_49 rfl rfl ?_
  refine qr_iconst (v := 4) (pc := 50) d_md_part_50 (by decide) ?_
  refine qr_icmp_eq (tgt := 70) (pc := 51) d_md_part_51 (by decide) (fun h => absurd h (by decide)) (fun _ => ?_)
  refine qr_aload_n (pc := 54) d_md_part_54 rfl rfl ?_
  refine qr_get (v := .int (J 47 37)) (pc := 55) d_md_part_55 fl_md_154 (by decide) (by decide) (c_47 _ _) rfl ?_
  refine qr_iload_n (pc := 58) d_md_part_58 rfl rfl ?_
  refine qr_ishr (pc := 59) d_md_part_59 ?_
  refine qr_iconst (v := 1) (pc := 60) d_md_part_60 (by decide) ?_
  refine qr_iand (pc := 61) d_md_part_61 ?_
  refine qr_iconst (v := 1) (pc := 62) d_md_part_62 (by decide) ?_
  refine qr_icmp_ne (tgt := 70) (pc := 63) d_md_part_63 (by decide) (fun h63 => ?_) (fun h63 => ?_)
  rotate_left
  · have hs : m_sb J 3 := by first | exact h63 | exact Decidable.not_not.mp h63
    rw [if_pos hs]
    refine qr_iconst (v := 1) (pc := 66) d_md_part_66 (by decide) ?_
    refine qr_goto (tgt := 71) (pc := 67) d_md_part_67 (by decide) ?_
    refine qr_istore_n (lv' := [(3, .int 1), (2, .int 3), (1, .int (nI s)), (0, .ref 47)]) (pc := 71) d_md_part_71 rfl (Nat.le_of_ble_eq_true rfl) rfl ?_
    refine qr_iload_n (pc := 72) d_md_part_72 rfl rfl ?_
    refine qr_if_lt (tgt := 129) (pc := 73) d_md_part_73 (by decide) (fun h => absurd h (by decide)) (fun _ => ?_)
    refine qr_iload_n (pc := 76) d_md_part_76 rfl rfl ?_
    refine qr_if_ne (tgt := 129) (pc := 77) d_md_part_77 (by decide) (fun _ => ?_) (fun h => absurd h (by decide))
    refine qr_aload_n (pc := 129) d_md_part_129 rfl rfl ?_
    refine qr_iload_n (pc := 130) d_md_part_130 rfl rfl ?_
    refine qr_putI (pc := 131) d_md_part_131 fl_md_7 (by decide) (by decide) (c_47 _ _) (Nat.le_of_ble_eq_true rfl) (qFit_i _) (fun w => rfl) ?_
    refine qr_iconst (v := 0) (pc := 134) d_md_part_134 (by decide) ?_
    exact qr_iret (pc := 135) d_md_part_135 rfl rfl ⟨rfl, rfl, rfl⟩ (Nat.zero_le _) (Nat.zero_le _)
  have hs : ¬ m_sb J 3 := h63
  rw [if_neg hs]
  refine qr_iconst (v := 0) (pc := 70) d_md_part_70 (by decide) ?_
  refine qr_istore_n (lv' := [(3, .int 0), (2, .int 3), (1, .int (nI s)), (0, .ref 47)]) (pc := 71) d_md_part_71 rfl (Nat.le_of_ble_eq_true rfl) rfl ?_
  refine qr_iload_n (pc := 72) d_md_part_72 rfl rfl ?_
  refine qr_if_lt (tgt := 129) (pc := 73) d_md_part_73 (by decide) (fun h => absurd h (by decide)) (fun _ => ?_)
  refine qr_iload_n (pc := 76) d_md_part_76 rfl rfl ?_
  refine qr_if_ne (tgt := 129) (pc := 77) d_md_part_77 (by decide) (fun h => absurd h (by decide)) (fun _ => ?_)
  refine qr_iload_n (pc := 80) d_md_part_80 rfl rfl ?_
  refine qr_iconst (v := 3) (pc := 81) d_md_part_81 (by decide) ?_
  refine qr_icmp_ne (tgt := 97) (pc := 82) d_md_part_82 (by decide) (fun h => absurd h (by decide)) (fun _ => ?_)
  refine qr_aload_n (pc := 85) d_md_part_85 rfl rfl ?_
  refine qr_get (v := .int (J 47 37)) (pc := 86) d_md_part_86 fl_md_154 (by decide) (by decide) (c_47 _ _) rfl ?_
  refine qr_iconst (v := 4) (pc := 89) d_md_part_89 (by decide) ?_
  refine qr_ishr (pc := 90) d_md_part_90 ?_
  refine qr_iconst (v := 1) (pc := 91) d_md_part_91 (by decide) ?_
  refine qr_iand (pc := 92) d_md_part_92 ?_
  refine qr_iconst (v := 1) (pc := 93) d_md_part_93 (by decide) ?_
  refine qr_icmp_eq (tgt := 129) (pc := 94) d_md_part_94 (by decide) (fun h94 => ?_) (fun h94 => ?_)
  · rw [if_pos h94]
    refine qr_aload_n (pc := 129) d_md_part_129 rfl rfl ?_
    refine qr_iload_n (pc := 130) d_md_part_130 rfl rfl ?_
    refine qr_putI (pc := 131) d_md_part_131 fl_md_7 (by decide) (by decide) (c_47 _ _) (Nat.le_of_ble_eq_true rfl) (qFit_i _) (fun w => rfl) ?_
    refine qr_iconst (v := 0) (pc := 134) d_md_part_134 (by decide) ?_
    exact qr_iret (pc := 135) d_md_part_135 rfl rfl ⟨rfl, rfl, rfl⟩ (Nat.zero_le _) (Nat.zero_le _)
  rw [if_neg h94]
  refine qr_iload_n (pc := 97) d_md_part_97 rfl rfl ?_
  refine qr_iconst (v := 4) (pc := 98) d_md_part_98 (by decide) ?_
  refine qr_icmp_ne (tgt := 114) (pc := 99) d_md_part_99 (by decide) (fun _ => ?_) (fun h => absurd h (by decide))
  refine qr_iload_n (pc := 114) d_md_part_114 rfl rfl ?_
  refine qr_iconst (v := 4) (pc := 115) d_md_part_115 (by decide) ?_
  refine qr_icmp_ne (tgt := 136) (pc := 116) d_md_part_116 (by decide) (fun _ => ?_) (fun h => absurd h (by decide))
  refine qr_aload_n (pc := 136) d_md_part_136 rfl rfl ?_
  refine qr_dup (pc := 137) d_md_part_137 rfl ?_
  refine qr_get (v := .int (J 47 37)) (pc := 138) d_md_part_138 fl_md_154 (by decide) (by decide) (c_47 _ _) rfl ?_
  refine qr_iconst (v := 1) (pc := 141) d_md_part_141 (by decide) ?_
  refine qr_iload_n (pc := 142) d_md_part_142 rfl rfl ?_
  refine qr_ishl (pc := 143) d_md_part_143 ?_
  refine qr_ior (pc := 144) d_md_part_144 ?_
  refine qr_putI (pc := 145) d_md_part_145 fl_md_154 (by decide) (by decide) (c_47 _ _) (Nat.le_of_ble_eq_true rfl) (qFit_i _) (fun w => rfl) ?_
  refine qr_iload_n (pc := 148) d_md_part_148 rfl rfl ?_
  refine qr_iconst (v := 4) (pc := 149) d_md_part_149 (by decide) ?_
  refine qr_icmp_ne (tgt := 183) (pc := 150) d_md_part_150 (by decide) (fun _ => ?_) (fun h => absurd h (by decide))
  refine qr_iconst (v := 1) (pc := 183) d_md_part_183 (by decide) ?_
  refine qr_istore (lv' := [(4, .int 1), (3, .int 0), (2, .int 3), (1, .int (nI s)), (0, .ref 47)]) (pc := 184) d_md_part_184 (Nat.le_of_ble_eq_true rfl) rfl ?_
  refine qr_aload_n (pc := 186) d_md_part_186 rfl rfl ?_
  refine qr_iload_n (pc := 187) d_md_part_187 rfl rfl ?_
  refine qr_iconst (v := 3) (pc := 188) d_md_part_188 (by decide) ?_
  refine qr_icmp_ne (tgt := 196) (pc := 189) d_md_part_189 (by decide) (fun h => absurd h (by decide)) (fun _ => ?_)
  refine qr_iconst (v := 1) (pc := 192) d_md_part_192 (by decide) ?_
  refine qr_goto (tgt := 207) (pc := 193) d_md_part_193 (by decide) ?_
  refine qr_callV (q := 47) (As := [.int 1]) (pc := 207) d_md_part_207 lk_md_157 im_md_number se_md_number rfl (by decide) (by decide) (c_47 _ _) (s_md_numberF _ x (m_o1 J 3) L e n ((wI_ne (by omega)).trans ha) ((wI_ne (by omega)).trans hn) ha2 hn2 1) rfl rfl (Nat.le_of_ble_eq_true rfl) (Nat.le_of_ble_eq_true rfl) (Nat.le_of_ble_eq_true rfl) (Nat.zero_le _) (Nat.zero_le _) (fun h => ⟨h, rfl, Or.inl rfl⟩) (fun v n9 f9 hE => ?_)
  obtain ⟨rfl, rfl, rfl⟩ := hE
  refine qr_istore (lv' := [(5, .int (m_rv (m_o1 J 3) e n 1)), (4, .int 1), (3, .int 0), (2, .int 3), (1, .int (nI s)), (0, .ref 47)]) (pc := 210) d_md_part_210 (Nat.le_of_ble_eq_true rfl) rfl ?_
  refine qr_iload (pc := 212) d_md_part_212 rfl ?_
  refine qr_if_ge (tgt := 219) (pc := 214) d_md_part_214 (by decide) (fun h214 => ?_) (fun h214 => ?_)
  rotate_left
  · have hv : (m_rv (m_o1 J 3) e n 1) < 0 := Int32.not_le.mp h214
    refine qr_iconst (v := 0) (pc := 217) d_md_part_217 (by decide) ?_
    exact qr_iret (pc := 218) d_md_part_218 rfl rfl ⟨by rw [m_ptwo, if_pos hv], rfl, by rw [m_ptwo, if_pos hv]⟩ (Nat.zero_le _) (Nat.zero_le _)
  have hv : ¬ (m_rv (m_o1 J 3) e n 1) < 0 := Int32.not_lt.mpr h214
  have hn3 : (m_rw (m_o1 J 3) e n 1) 47 4 = nI n := (m_rw_ne (by omega)).trans ((wI_ne (by omega)).trans hn)
  refine qr_iload_n (pc := 219) d_md_part_219 rfl rfl ?_
  refine qr_iconst (v := 3) (pc := 220) d_md_part_220 (by decide) ?_
  refine qr_icmp_eq (tgt := 229) (pc := 221) d_md_part_221 (by decide) (fun _ => ?_) (fun h => absurd h (by decide))
  refine qr_aload_n (pc := 229) d_md_part_229 rfl rfl ?_
  refine qr_iconst (v := 0) (pc := 230) d_md_part_230 (by decide) ?_
  refine qr_callV (q := 47) (As := [.int 0]) (pc := 231) d_md_part_231 lk_md_157 im_md_number se_md_number rfl (by decide) (by decide) (c_47 _ _) (s_md_numberF _ x (m_rw (m_o1 J 3) e n 1) L (m_ra (m_o1 J 3) e n) n m_rw_at hn3 (m_ra_le _ ha2) hn2 0) rfl rfl (Nat.le_of_ble_eq_true rfl) (Nat.le_of_ble_eq_true rfl) (Nat.le_of_ble_eq_true rfl) (Nat.zero_le _) (Nat.zero_le _) (fun h => ⟨h, rfl, Or.inl rfl⟩) (fun v n9 f9 hE => ?_)
  obtain ⟨rfl, rfl, rfl⟩ := hE
  refine qr_goto (tgt := 238) (pc := 234) d_md_part_234 (by decide) ?_
  refine qr_istore (lv' := [(6, .int (m_rv (m_rw (m_o1 J 3) e n 1) (m_ra (m_o1 J 3) e n) n 0)), (5, .int (m_rv (m_o1 J 3) e n 1)), (4, .int 1), (3, .int 0), (2, .int 3), (1, .int (nI s)), (0, .ref 47)]) (pc := 238) d_md_part_238 (Nat.le_of_ble_eq_true rfl) rfl ?_
  refine qr_iload (pc := 240) d_md_part_240 rfl ?_
  refine qr_if_ge (tgt := 247) (pc := 242) d_md_part_242 (by decide) (fun h242 => ?_) (fun h242 => ?_)
  rotate_left
  · have hp : (m_rv (m_rw (m_o1 J 3) e n 1) (m_ra (m_o1 J 3) e n) n 0) < 0 := Int32.not_le.mp h242
    refine qr_iconst (v := 0) (pc := 245) d_md_part_245 (by decide) ?_
    exact qr_iret (pc := 246) d_md_part_246 rfl rfl ⟨by rw [m_ptwo, if_neg hv, if_pos hp], rfl, by rw [m_ptwo, if_neg hv, if_pos hp]⟩ (Nat.zero_le _) (Nat.zero_le _)
  have hp : ¬ (m_rv (m_rw (m_o1 J 3) e n 1) (m_ra (m_o1 J 3) e n) n 0) < 0 := Int32.not_lt.mpr h242
  rw [m_ptwo, if_neg hv, if_neg hp]
  have hn4 : (m_rw (m_rw (m_o1 J 3) e n 1) (m_ra (m_o1 J 3) e n) n 0) 47 4 = nI n := (m_rw_ne (by omega)).trans hn3
  refine qr_iload_n (pc := 247) d_md_part_247 rfl rfl ?_
  refine qr_tableIn (x := 3) (off := 69) (tgt := 317) (pc := 248) d_md_part_248 (by decide) (by decide) (by decide) (by decide) ?_
  refine qr_aload_n (pc := 317) d_md_part_317 rfl rfl ?_
  refine qr_get (v := .ref 52) (pc := 318) d_md_part_318 fl_md_26 (by decide) (by decide) (c_47 _ _) rfl ?_
  refine qr_iconst (v := 3) (pc := 321) d_md_part_321 (by decide) ?_
  refine qr_iload (pc := 322) d_md_part_322 rfl ?_
  refine qr_iastMN (j := 3) (pc := 324) d_md_part_324 (by decide) (by decide) (c_52 _ _) (by omega) (by decide) (fun w => rfl) ?_
  refine qr_aload_n (pc := 325) d_md_part_325 rfl rfl ?_
  refine qr_get (v := .ref 53) (pc := 326) d_md_part_326 fl_md_29 (by decide) (by decide) (c_47 _ _) rfl ?_
  refine qr_iconst (v := 3) (pc := 329) d_md_part_329 (by decide) ?_
  refine qr_iload (pc := 330) d_md_part_330 rfl ?_
  refine qr_iastMN (j := 3) (pc := 332) d_md_part_332 (by decide) (by decide) (c_53 _ _) (by omega) (by decide) (fun w => rfl) ?_
  refine qr_goto (tgt := 389) (pc := 333) d_md_part_333 (by decide) ?_
  exact m_pend l x (m_F3 (m_rw (m_rw (m_o1 J 3) e n 1) (m_ra (m_o1 J 3) e n) n 0) (m_rv (m_o1 J 3) e n 1) (m_rv (m_rw (m_o1 J 3) e n 1) (m_ra (m_o1 J 3) e n) n 0)) L (m_ra (m_rw (m_o1 J 3) e n 1) (m_ra (m_o1 J 3) e n) n) n ((wI_ne (by omega)).trans ((wI_ne (by omega)).trans m_rw_at)) ((wI_ne (by omega)).trans ((wI_ne (by omega)).trans hn4)) (m_ra_le _ (m_ra_le _ ha2)) hn2 _ rfl
set_option maxRecDepth 10000 in
theorem m_p45_4 (l : Launch) (x : Bool) (J : qJ) (L : Nat → Nat → Int64) (s e n z : Nat) (ha : J 47 36 = nI e) (hn : J 47 4 = nI n) (ha2 : e ≤ n) (hn2 : n ≤ 60) (hz : J 54 3 = nI z) (hz2 : z ≤ 4) : qR (l, y_md_part.cls, b_md_part, 7, (some .boolean), false, x, 4, 0, 0, 77, q0) (qD (some (.int (m_ppt J s e n z 4).1)) 77 (fm (m_ppt J s e n z 4).2 L)) (fun _ _ _ => False) 45 [(2, .int 4), (1, .int (nI s)), (0, .ref 47)] [] 77 0 0 (fm J L) := by
  have hE : m_ppt J s e n z 4 = if m_sb J 3 then m_pno J s else if z = 4 then m_pno J s else m_ptwo (m_o1 J 4) e n (m_plow J z) (m_F4 z) := by rw [m_ppt, if_neg (by decide), if_neg (by decide), if_neg (by decide), if_neg (by decide), if_pos rfl]
  rw [hE]
  refine qr_iload_n (pc := 45) d_md_part_45 rfl rfl ?_
  refine qr_if_lt (tgt := 70) (pc := 46) d_md_part_46 (by decide) (fun h => absurd h (by decide)) (fun _ => ?_)
  refine qr_iload_n (pc := 49) d_md_part_49 rfl rfl ?_
  refine qr_iconst (v := 4) (pc := 50) d_md_part_50 (by decide) ?_
  refine qr_icmp_eq (tgt := 70) (pc := 51) d_md_part_51 (by decide) (fun _ => ?_) (fun h => absurd h (by decide))
  refine qr_iconst (v := 0) (pc := 70) d_md_part_70 (by decide) ?_
  refine qr_istore_n (lv' := [(3, .int 0), (2, .int 4), (1, .int (nI s)), (0, .ref 47)]) (pc := 71) d_md_part_71 rfl (Nat.le_of_ble_eq_true rfl) rfl ?_
  refine qr_iload_n (pc := 72) d_md_part_72 rfl rfl ?_
  refine qr_if_lt (tgt := 129) (pc := 73) d_md_part_73 (by decide) (fun h => absurd h (by decide)) (fun _ => ?_)
  refine qr_iload_n (pc := 76) d_md_part_76 rfl rfl ?_
  refine qr_if_ne (tgt := 129) (pc := 77) d_md_part_77 (by decide) (fun h => absurd h (by decide)) (fun _ => ?_)
  refine qr_iload_n (pc := 80) d_md_part_80 rfl rfl ?_
  refine qr_iconst (v := 3) (pc := 81) d_md_part_81 (by decide) ?_
  refine qr_icmp_ne (tgt := 97) (pc := 82) d_md_part_82 (by decide) (fun _ => ?_) (fun h => absurd h (by decide))
  refine qr_iload_n (pc := 97) d_md_part_97 rfl rfl ?_
  refine qr_iconst (v := 4) (pc := 98) d_md_part_98 (by decide) ?_
  refine qr_icmp_ne (tgt := 114) (pc := 99) d_md_part_99 (by decide) (fun h => absurd h (by decide)) (fun _ => ?_)
  refine qr_aload_n (pc := 102) d_md_part_102 rfl rfl ?_
  refine qr_get (v := .int (J 47 37)) (pc := 103) d_md_part_103 fl_md_154 (by decide) (by decide) (c_47 _ _) rfl ?_
  refine qr_iconst (v := 3) (pc := 106) d_md_part_106 (by decide) ?_
  refine qr_ishr (pc := 107) d_md_part_107 ?_
  refine qr_iconst (v := 1) (pc := 108) d_md_part_108 (by decide) ?_
  refine qr_iand (pc := 109) d_md_part_109 ?_
  refine qr_iconst (v := 1) (pc := 110) d_md_part_110 (by decide) ?_
  refine qr_icmp_eq (tgt := 129) (pc := 111) d_md_part_111 (by decide) (fun h111 => ?_) (fun h111 => ?_)
  · rw [if_pos h111]
    refine qr_aload_n (pc := 129) d_md_part_129 rfl rfl ?_
    refine qr_iload_n (pc := 130) d_md_part_130 rfl rfl ?_
    refine qr_putI (pc := 131) d_md_part_131 fl_md_7 (by decide) (by decide) (c_47 _ _) (Nat.le_of_ble_eq_true rfl) (qFit_i _) (fun w => rfl) ?_
    refine qr_iconst (v := 0) (pc := 134) d_md_part_134 (by decide) ?_
    exact qr_iret (pc := 135) d_md_part_135 rfl rfl ⟨rfl, rfl, rfl⟩ (Nat.zero_le _) (Nat.zero_le _)
  rw [if_neg h111]
  refine qr_iload_n (pc := 114) d_md_part_114 rfl rfl ?_
  refine qr_iconst (v := 4) (pc := 115) d_md_part_115 (by decide) ?_
  refine qr_icmp_ne (tgt := 136) (pc := 116) d_md_part_116 (by decide) (fun h => absurd h (by decide)) (fun _ => ?_)
  refine qr_aload_n (pc := 119) d_md_part_119 rfl rfl ?_
  refine qr_get (v := .ref 54) (pc := 120) d_md_part_120 fl_md_32 (by decide) (by decide) (c_47 _ _) rfl ?_
  refine qr_iconst (v := 3) (pc := 123) d_md_part_123 (by decide) ?_
  refine qr_ialdN (j := 3) (pc := 124) d_md_part_124 (by decide) (by decide) (c_54 _ _) (by decide) (by decide) ?_
  refine qR_st (st' := [.int (nI z)]) rfl (congrArg (fun t => [Value.int t]) hz) rfl ?_
  refine qr_iconst (v := 4) (pc := 125) d_md_part_125 (by decide) ?_
  refine qr_icmp_ne (tgt := 136) (pc := 126) d_md_part_126 (by decide) (fun h126 => ?_) (fun h126 => ?_)
  rotate_left
  · have hz4 : z = 4 := (nI_eq (by omega) (by omega)).mp (by first | exact h126 | exact Decidable.not_not.mp h126)
    rw [if_pos hz4]
    refine qr_aload_n (pc := 129) d_md_part_129 rfl rfl ?_
    refine qr_iload_n (pc := 130) d_md_part_130 rfl rfl ?_
    refine qr_putI (pc := 131) d_md_part_131 fl_md_7 (by decide) (by decide) (c_47 _ _) (Nat.le_of_ble_eq_true rfl) (qFit_i _) (fun w => rfl) ?_
    refine qr_iconst (v := 0) (pc := 134) d_md_part_134 (by decide) ?_
    exact qr_iret (pc := 135) d_md_part_135 rfl rfl ⟨rfl, rfl, rfl⟩ (Nat.zero_le _) (Nat.zero_le _)
  have hz4 : ¬ z = 4 := fun q => h126 (by rw [q]; rfl)
  rw [if_neg hz4]
  have hz1 : (m_o1 J 4) 54 3 = nI z := (wI_ne (by omega)).trans hz
  have t184 : qR (l, y_md_part.cls, b_md_part, 7, (some .boolean), false, x, 4, 0, 0, 77, q0) (qD (some (.int (m_ptwo (m_o1 J 4) e n (m_plow J z) (m_F4 z)).1)) 77 (fm (m_ptwo (m_o1 J 4) e n (m_plow J z) (m_F4 z)).2 L)) (fun _ _ _ => False) 184 [(3, .int 0), (2, .int 4), (1, .int (nI s)), (0, .ref 47)] [.int (m_plow J z)] 77 0 0 (fm (m_o1 J 4) L) := by
    refine qr_istore (lv' := [(4, .int (m_plow J z)), (3, .int 0), (2, .int 4), (1, .int (nI s)), (0, .ref 47)]) (pc := 184) d_md_part_184 (Nat.le_of_ble_eq_true rfl) rfl ?_
    refine qr_aload_n (pc := 186) d_md_part_186 rfl rfl ?_
    refine qr_iload_n (pc := 187) d_md_part_187 rfl rfl ?_
    refine qr_iconst (v := 3) (pc := 188) d_md_part_188 (by decide) ?_
    refine qr_icmp_ne (tgt := 196) (pc := 189) d_md_part_189 (by decide) (fun _ => ?_) (fun h => absurd h (by decide))
    refine qr_iload_n (pc := 196) d_md_part_196 rfl rfl ?_
    refine qr_iconst (v := 4) (pc := 197) d_md_part_197 (by decide) ?_
    refine qr_icmp_ne (tgt := 206) (pc := 198) d_md_part_198 (by decide) (fun h => absurd h (by decide)) (fun _ => ?_)
    refine qr_iload (pc := 201) d_md_part_201 rfl ?_
    refine qr_goto (tgt := 207) (pc := 203) d_md_part_203 (by decide) ?_
    refine qr_callV (q := 47) (As := [.int (m_plow J z)]) (pc := 207) d_md_part_207 lk_md_157 im_md_number se_md_number rfl (by decide) (by decide) (c_47 _ _) (s_md_numberF _ x (m_o1 J 4) L e n ((wI_ne (by omega)).trans ha) ((wI_ne (by omega)).trans hn) ha2 hn2 (m_plow J z)) rfl rfl (Nat.le_of_ble_eq_true rfl) (Nat.le_of_ble_eq_true rfl) (Nat.le_of_ble_eq_true rfl) (Nat.zero_le _) (Nat.zero_le _) (fun h => ⟨h, rfl, Or.inl rfl⟩) (fun v n9 f9 hE => ?_)
    obtain ⟨rfl, rfl, rfl⟩ := hE
    refine qr_istore (lv' := [(5, .int (m_rv (m_o1 J 4) e n (m_plow J z))), (4, .int (m_plow J z)), (3, .int 0), (2, .int 4), (1, .int (nI s)), (0, .ref 47)]) (pc := 210) d_md_part_210 (Nat.le_of_ble_eq_true rfl) rfl ?_
    refine qr_iload (pc := 212) d_md_part_212 rfl ?_
    refine qr_if_ge (tgt := 219) (pc := 214) d_md_part_214 (by decide) (fun h214 => ?_) (fun h214 => ?_)
    rotate_left
    · have hv : (m_rv (m_o1 J 4) e n (m_plow J z)) < 0 := Int32.not_le.mp h214
      refine qr_iconst (v := 0) (pc := 217) d_md_part_217 (by decide) ?_
      exact qr_iret (pc := 218) d_md_part_218 rfl rfl ⟨by rw [m_ptwo, if_pos hv], rfl, by rw [m_ptwo, if_pos hv]⟩ (Nat.zero_le _) (Nat.zero_le _)
    have hv : ¬ (m_rv (m_o1 J 4) e n (m_plow J z)) < 0 := Int32.not_lt.mpr h214
    have hn3 : (m_rw (m_o1 J 4) e n (m_plow J z)) 47 4 = nI n := (m_rw_ne (by omega)).trans ((wI_ne (by omega)).trans hn)
    refine qr_iload_n (pc := 219) d_md_part_219 rfl rfl ?_
    refine qr_iconst (v := 3) (pc := 220) d_md_part_220 (by decide) ?_
    refine qr_icmp_eq (tgt := 229) (pc := 221) d_md_part_221 (by decide) (fun h => absurd h (by decide)) (fun _ => ?_)
    refine qr_iload_n (pc := 224) d_md_part_224 rfl rfl ?_
    refine qr_iconst (v := 4) (pc := 225) d_md_part_225 (by decide) ?_
    refine qr_icmp_ne (tgt := 237) (pc := 226) d_md_part_226 (by decide) (fun h => absurd h (by decide)) (fun _ => ?_)
    refine qr_aload_n (pc := 229) d_md_part_229 rfl rfl ?_
    refine qr_iconst (v := 0) (pc := 230) d_md_part_230 (by decide) ?_
    refine qr_callV (q := 47) (As := [.int 0]) (pc := 231) d_md_part_231 lk_md_157 im_md_number se_md_number rfl (by decide) (by decide) (c_47 _ _) (s_md_numberF _ x (m_rw (m_o1 J 4) e n (m_plow J z)) L (m_ra (m_o1 J 4) e n) n m_rw_at hn3 (m_ra_le _ ha2) hn2 0) rfl rfl (Nat.le_of_ble_eq_true rfl) (Nat.le_of_ble_eq_true rfl) (Nat.le_of_ble_eq_true rfl) (Nat.zero_le _) (Nat.zero_le _) (fun h => ⟨h, rfl, Or.inl rfl⟩) (fun v n9 f9 hE => ?_)
    obtain ⟨rfl, rfl, rfl⟩ := hE
    refine qr_goto (tgt := 238) (pc := 234) d_md_part_234 (by decide) ?_
    refine qr_istore (lv' := [(6, .int (m_rv (m_rw (m_o1 J 4) e n (m_plow J z)) (m_ra (m_o1 J 4) e n) n 0)), (5, .int (m_rv (m_o1 J 4) e n (m_plow J z))), (4, .int (m_plow J z)), (3, .int 0), (2, .int 4), (1, .int (nI s)), (0, .ref 47)]) (pc := 238) d_md_part_238 (Nat.le_of_ble_eq_true rfl) rfl ?_
    refine qr_iload (pc := 240) d_md_part_240 rfl ?_
    refine qr_if_ge (tgt := 247) (pc := 242) d_md_part_242 (by decide) (fun h242 => ?_) (fun h242 => ?_)
    rotate_left
    · have hp : (m_rv (m_rw (m_o1 J 4) e n (m_plow J z)) (m_ra (m_o1 J 4) e n) n 0) < 0 := Int32.not_le.mp h242
      refine qr_iconst (v := 0) (pc := 245) d_md_part_245 (by decide) ?_
      exact qr_iret (pc := 246) d_md_part_246 rfl rfl ⟨by rw [m_ptwo, if_neg hv, if_pos hp], rfl, by rw [m_ptwo, if_neg hv, if_pos hp]⟩ (Nat.zero_le _) (Nat.zero_le _)
    have hp : ¬ (m_rv (m_rw (m_o1 J 4) e n (m_plow J z)) (m_ra (m_o1 J 4) e n) n 0) < 0 := Int32.not_lt.mpr h242
    rw [m_ptwo, if_neg hv, if_neg hp]
    have hn4 : (m_rw (m_rw (m_o1 J 4) e n (m_plow J z)) (m_ra (m_o1 J 4) e n) n 0) 47 4 = nI n := (m_rw_ne (by omega)).trans hn3
    have hz3 : (m_rw (m_rw (m_o1 J 4) e n (m_plow J z)) (m_ra (m_o1 J 4) e n) n 0) 54 3 = nI z := (m_rw_ne (by omega)).trans ((m_rw_ne (by omega)).trans hz1)
    have ix : (12 : Int32) + nI z = nI (12 + z) := nI_add 12 z
    refine qr_iload_n (pc := 247) d_md_part_247 rfl rfl ?_
    refine qr_tableIn (x := 4) (off := 88) (tgt := 336) (pc := 248) d_md_part_248 (by decide) (by decide) (by decide) (by decide) ?_
    refine qr_aload_n (pc := 336) d_md_part_336 rfl rfl ?_
    refine qr_get (v := .ref 56) (pc := 337) d_md_part_337 fl_md_38 (by decide) (by decide) (c_47 _ _) rfl ?_
    refine qr_bipush (v := 12) (pc := 340) d_md_part_340 (by decide) ?_
    refine qr_aload_n (pc := 342) d_md_part_342 rfl rfl ?_
    refine qr_get (v := .ref 54) (pc := 343) d_md_part_343 fl_md_32 (by decide) (by decide) (c_47 _ _) rfl ?_
    refine qr_iconst (v := 3) (pc := 346) d_md_part_346 (by decide) ?_
    refine qr_ialdN (j := 3) (pc := 347) d_md_part_347 (by decide) (by decide) (c_54 _ _) (by decide) (by decide) ?_
    refine qR_st (st' := .int (nI z) :: [.int 12, .ref 56]) rfl (congrArg (fun t => Value.int t :: [.int 12, .ref 56]) hz3) rfl ?_
    refine qr_iadd (pc := 348) d_md_part_348 ?_
    refine qR_st (st' := [.int (nI (12 + z)), .ref 56]) rfl (congrArg (fun t => [Value.int t, .ref 56]) ix) rfl ?_
    refine qr_iload (pc := 349) d_md_part_349 rfl ?_
    refine qr_iastMN (j := 12 + z) (pc := 351) d_md_part_351 (by decide) (by decide) (c_56 _ _) (by omega) (by decide) (fun w => rfl) ?_
    refine qr_aload_n (pc := 352) d_md_part_352 rfl rfl ?_
    refine qr_get (v := .ref 57) (pc := 353) d_md_part_353 fl_md_41 (by decide) (by decide) (c_47 _ _) rfl ?_
    refine qr_bipush (v := 12) (pc := 356) d_md_part_356 (by decide) ?_
    refine qr_aload_n (pc := 358) d_md_part_358 rfl rfl ?_
    refine qr_get (v := .ref 54) (pc := 359) d_md_part_359 fl_md_32 (by decide) (by decide) (c_47 _ _) rfl ?_
    refine qr_iconst (v := 3) (pc := 362) d_md_part_362 (by decide) ?_
    refine qr_ialdN (j := 3) (pc := 363) d_md_part_363 (by decide) (by decide) (c_54 _ _) (by decide) (by decide) ?_
    refine qR_st (st' := .int (nI z) :: [.int 12, .ref 57]) rfl (congrArg (fun t => Value.int t :: [.int 12, .ref 57]) ((wI_ne (by omega)).trans hz3)) rfl ?_
    refine qr_iadd (pc := 364) d_md_part_364 ?_
    refine qR_st (st' := [.int (nI (12 + z)), .ref 57]) rfl (congrArg (fun t => [Value.int t, .ref 57]) ix) rfl ?_
    refine qr_iload (pc := 365) d_md_part_365 rfl ?_
    refine qr_iastMN (j := 12 + z) (pc := 367) d_md_part_367 (by decide) (by decide) (c_57 _ _) (by omega) (by decide) (fun w => rfl) ?_
    refine qr_aload_n (pc := 368) d_md_part_368 rfl rfl ?_
    refine qr_get (v := .ref 54) (pc := 369) d_md_part_369 fl_md_32 (by decide) (by decide) (c_47 _ _) rfl ?_
    refine qr_iconst (v := 3) (pc := 372) d_md_part_372 (by decide) ?_
    refine qr_dup2_11 (pc := 373) d_md_part_373 rfl rfl ?_
    refine qr_ialdN (j := 3) (pc := 374) d_md_part_374 (by decide) (by decide) (c_54 _ _) (by decide) (by decide) ?_
    refine qR_st (st' := .int (nI z) :: [.int 3, .ref 54]) rfl (congrArg (fun t => Value.int t :: [.int 3, .ref 54]) ((wI_ne (by omega)).trans ((wI_ne (by omega)).trans hz3))) rfl ?_
    refine qr_iconst (v := 1) (pc := 375) d_md_part_375 (by decide) ?_
    refine qr_iadd (pc := 376) d_md_part_376 ?_
    refine qR_st (st' := [.int (nI (z + 1)), .int 3, .ref 54]) rfl (congrArg (fun t => [Value.int t, .int 3, .ref 54]) (nI_1 z)) rfl ?_
    refine qr_iastMN (j := 3) (pc := 377) d_md_part_377 (by decide) (by decide) (c_54 _ _) (by omega) (by decide) (fun w => rfl) ?_
    refine qr_goto (tgt := 389) (pc := 378) d_md_part_378 (by decide) ?_
    exact m_pend l x (m_F4 z (m_rw (m_rw (m_o1 J 4) e n (m_plow J z)) (m_ra (m_o1 J 4) e n) n 0) (m_rv (m_o1 J 4) e n (m_plow J z)) (m_rv (m_rw (m_o1 J 4) e n (m_plow J z)) (m_ra (m_o1 J 4) e n) n 0)) L (m_ra (m_rw (m_o1 J 4) e n (m_plow J z)) (m_ra (m_o1 J 4) e n) n) n ((wI_ne (by omega)).trans ((wI_ne (by omega)).trans ((wI_ne (by omega)).trans m_rw_at))) ((wI_ne (by omega)).trans ((wI_ne (by omega)).trans ((wI_ne (by omega)).trans hn4))) (m_ra_le _ (m_ra_le _ ha2)) hn2 _ rfl
  refine qr_aload_n (pc := 136) d_md_part_136 rfl rfl ?_
  refine qr_dup (pc := 137) d_md_part_137 rfl ?_
  refine qr_get (v := .int (J 47 37)) (pc := 138) d_md_part_138 fl_md_154 (by decide) (by decide) (c_47 _ _) rfl ?_
  refine qr_iconst (v := 1) (pc := 141) d_md_part_141 (by decide) ?_
  refine qr_iload_n (pc := 142) d_md_part_142 rfl rfl ?_
  refine qr_ishl (pc := 143) d_md_part_143 ?_
  refine qr_ior (pc := 144) d_md_part_144 ?_
  refine qr_putI (pc := 145) d_md_part_145 fl_md_154 (by decide) (by decide) (c_47 _ _) (Nat.le_of_ble_eq_true rfl) (qFit_i _) (fun w => rfl) ?_
  refine qr_iload_n (pc := 148) d_md_part_148 rfl rfl ?_
  refine qr_iconst (v := 4) (pc := 149) d_md_part_149 (by decide) ?_
  refine qr_icmp_ne (tgt := 183) (pc := 150) d_md_part_150 (by decide) (fun h => absurd h (by decide)) (fun _ => ?_)
  refine qr_aload_n (pc := 153) d_md_part_153 rfl rfl ?_
  refine qr_get (v := .ref 54) (pc := 154) d_md_part_154 fl_md_32 (by decide) (by decide) (c_47 _ _) rfl ?_
  refine qr_iconst (v := 3) (pc := 157) d_md_part_157 (by decide) ?_
  refine qr_ialdN (j := 3) (pc := 158) d_md_part_158 (by decide) (by decide) (c_54 _ _) (by decide) (by decide) ?_
  refine qR_st (st' := [.int (nI z)]) rfl (congrArg (fun t => [Value.int t]) hz1) rfl ?_
  refine qr_if_le (tgt := 183) (pc := 159) d_md_part_159 (by decide) (fun h159 => ?_) (fun h159 => ?_)
  · have hz0 : z = 0 := by
      have := (nI_leI (a := z) (b := 0) (by omega) (by decide)).mp h159
      omega
    refine qr_iconst (v := 1) (pc := 183) d_md_part_183 (by decide) ?_
    refine qR_st (st' := [.int (m_plow J z)]) rfl (by rw [m_plow, if_pos hz0]) rfl ?_
    exact t184
  have hz0 : ¬ z = 0 := fun q => h159 (by rw [q]; decide)
  have ix : (12 : Int32) + nI z - 1 = nI (12 + z - 1) := by rw [show (12 : Int32) + nI z = nI (12 + z) from nI_add 12 z]; exact nI_sb (a := 12 + z) (b := 1) (by omega)
  refine qr_aload_n (pc := 162) d_md_part_162 rfl rfl ?_
  refine qr_get (v := .ref 56) (pc := 163) d_md_part_163 fl_md_38 (by decide) (by decide) (c_47 _ _) rfl ?_
  refine qr_bipush (v := 12) (pc := 166) d_md_part_166 (by decide) ?_
  refine qr_aload_n (pc := 168) d_md_part_168 rfl rfl ?_
  refine qr_get (v := .ref 54) (pc := 169) d_md_part_169 fl_md_32 (by decide) (by decide) (c_47 _ _) rfl ?_
  refine qr_iconst (v := 3) (pc := 172) d_md_part_172 (by decide) ?_
  refine qr_ialdN (j := 3) (pc := 173) d_md_part_173 (by decide) (by decide) (c_54 _ _) (by decide) (by decide) ?_
  refine qR_st (st' := .int (nI z) :: [.int 12, .ref 56]) rfl (congrArg (fun t => Value.int t :: [.int 12, .ref 56]) hz1) rfl ?_
  refine qr_iadd (pc := 174) d_md_part_174 ?_
  refine qr_iconst (v := 1) (pc := 175) d_md_part_175 (by decide) ?_
  refine qr_isub (pc := 176) d_md_part_176 ?_
  refine qR_st (st' := [.int (nI (12 + z - 1)), .ref 56]) rfl (congrArg (fun t => [Value.int t, .ref 56]) ix) rfl ?_
  refine qr_ialdN (j := 12 + z - 1) (pc := 177) d_md_part_177 (by decide) (by decide) (c_56 _ _) (by omega) (by decide) ?_
  refine qr_iconst (v := 1) (pc := 178) d_md_part_178 (by decide) ?_
  refine qr_iadd (pc := 179) d_md_part_179 ?_
  refine qr_goto (tgt := 184) (pc := 180) d_md_part_180 (by decide) ?_
  refine qR_st (st' := [.int (m_plow J z)]) rfl (by rw [m_plow, if_neg hz0, wI_ne (by omega)]) rfl ?_
  exact t184
set_option maxRecDepth 10000 in
theorem m_p45_m1 (l : Launch) (x : Bool) (J : qJ) (L : Nat → Nat → Int64) (s e n z : Nat) (ha : J 47 36 = nI e) (hn : J 47 4 = nI n) (ha2 : e ≤ n) (hn2 : n ≤ 60) (hz : J 54 3 = nI z) (hz2 : z ≤ 4) : qR (l, y_md_part.cls, b_md_part, 7, (some .boolean), false, x, 4, 0, 0, 77, q0) (qD (some (.int (m_ppt J s e n z (-1)).1)) 77 (fm (m_ppt J s e n z (-1)).2 L)) (fun _ _ _ => False) 45 [(2, .int (-1)), (1, .int (nI s)), (0, .ref 47)] [] 77 0 0 (fm J L) := by
  have hE : m_ppt J s e n z (-1) = m_pno J s := by rw [m_ppt, if_neg (by decide), if_neg (by decide), if_neg (by decide), if_neg (by decide), if_neg (by decide), if_neg (by decide)]
  rw [hE]
  refine qr_iload_n (pc := 45) d_md_part_45 rfl rfl ?_
  refine qr_if_lt (tgt := 70) (pc := 46) d_md_part_46 (by decide) (fun _ => ?_) (fun h => absurd h (by decide))
  refine qr_iconst (v := 0) (pc := 70) d_md_part_70 (by decide) ?_
  refine qr_istore_n (lv' := [(3, .int 0), (2, .int (-1)), (1, .int (nI s)), (0, .ref 47)]) (pc := 71) d_md_part_71 rfl (Nat.le_of_ble_eq_true rfl) rfl ?_
  refine qr_iload_n (pc := 72) d_md_part_72 rfl rfl ?_
  refine qr_if_lt (tgt := 129) (pc := 73) d_md_part_73 (by decide) (fun _ => ?_) (fun h => absurd h (by decide))
  refine qr_aload_n (pc := 129) d_md_part_129 rfl rfl ?_
  refine qr_iload_n (pc := 130) d_md_part_130 rfl rfl ?_
  refine qr_putI (pc := 131) d_md_part_131 fl_md_7 (by decide) (by decide) (c_47 _ _) (Nat.le_of_ble_eq_true rfl) (qFit_i _) (fun w => rfl) ?_
  refine qr_iconst (v := 0) (pc := 134) d_md_part_134 (by decide) ?_
  exact qr_iret (pc := 135) d_md_part_135 rfl rfl ⟨rfl, rfl, rfl⟩ (Nat.zero_le _) (Nat.zero_le _)
def m_p1 (I : qJ) (a n : Nat) : qJ := wI I 47 36 (nI (m_bl I a n))
def m_pe (I : qJ) (a n : Nat) : Nat := m_lt I (m_bl I a n) n
def m_p2 (I : qJ) (a n : Nat) : qJ := wI I 47 36 (nI (m_pe I a n))
def m_part (I : qJ) (a n z : Nat) : Int32 × qJ := m_ppt (m_p2 I a n) (m_bl I a n) (m_pe I a n) n z (m_wd (m_p2 I a n) (m_bl I a n) (m_pe I a n))
theorem m_pe_ok {I : qJ} {a n : Nat} (h : a ≤ n) : m_bl I a n ≤ m_pe I a n ∧ m_pe I a n ≤ n := ⟨(m_lt_ok I (m_bl_ok I h).2.2.2).1, (m_lt_ok I (m_bl_ok I h).2.2.2).2.2.2⟩
set_option maxRecDepth 10000 in
theorem s_md_part (l : Launch) (x : Bool) (I : qJ) (L : Nat → Nat → Int64) (a n z : Nat) (ha : I 47 36 = nI a) (hn : I 47 4 = nI n) (ha2 : a ≤ n) (hn2 : n ≤ 60) (hz : I 54 3 = nI z) (hz2 : z ≤ 4) : qSp l y_md_part b_md_part 7 (some .boolean) x 4 0 0 [.ref 47] 77 (fm I L) (qD (some (.int (m_part I a n z).1)) 77 (fm (m_part I a n z).2 L)) := by
  have hb := m_bl_ok I ha2
  have hpe := m_pe_ok (I := I) ha2
  have hlt := m_lt_ok I hb.2.2.2
  have h236 : m_p2 I a n 47 36 = nI (m_pe I a n) := wI_at _ _ _ _
  have h24 : m_p2 I a n 47 4 = nI n := (wI_ne (by omega)).trans hn
  have h2z : m_p2 I a n 54 3 = nI z := (wI_ne (by omega)).trans hz
  have t45 : qR (l, y_md_part.cls, b_md_part, 7, (some .boolean), false, x, 4, 0, 0, 77, q0) (qD (some (.int (m_part I a n z).1)) 77 (fm (m_part I a n z).2 L)) (fun _ _ _ => False) 45 [(2, .int (m_wd (m_p2 I a n) (m_bl I a n) (m_pe I a n))), (1, .int (nI (m_bl I a n))), (0, .ref 47)] [] 77 0 0 (fm (m_p2 I a n) L) := by
    unfold m_part
    rcases m_wd_cases (m_p2 I a n) (m_bl I a n) (m_pe I a n) with h | h | h | h | h | h | h
    · rw [h]; exact m_p45_0 l x (m_p2 I a n) L (m_bl I a n) (m_pe I a n) n z h236 h24 hpe.2 hn2 h2z hz2
    · rw [h]; exact m_p45_1 l x (m_p2 I a n) L (m_bl I a n) (m_pe I a n) n z h236 h24 hpe.2 hn2 h2z hz2
    · rw [h]; exact m_p45_2 l x (m_p2 I a n) L (m_bl I a n) (m_pe I a n) n z h236 h24 hpe.2 hn2 h2z hz2
    · rw [h]; exact m_p45_3 l x (m_p2 I a n) L (m_bl I a n) (m_pe I a n) n z h236 h24 hpe.2 hn2 h2z hz2
    · rw [h]; exact m_p45_4 l x (m_p2 I a n) L (m_bl I a n) (m_pe I a n) n z h236 h24 hpe.2 hn2 h2z hz2
    · rw [h]; exact m_p45_5 l x (m_p2 I a n) L (m_bl I a n) (m_pe I a n) n z h236 h24 hpe.2 hn2 h2z hz2
    · rw [h]; exact m_p45_m1 l x (m_p2 I a n) L (m_bl I a n) (m_pe I a n) n z h236 h24 hpe.2 hn2 h2z hz2
  have loop : ∀ (j b : Nat), (m_pe I a n) - b < j → (m_bl I a n) ≤ b → b ≤ (m_pe I a n) → qR (l, y_md_part.cls, b_md_part, 7, (some .boolean), false, x, 4, 0, 0, 77, q0) (qD (some (.int (m_part I a n z).1)) 77 (fm (m_part I a n z).2 L)) (fun _ _ _ => False) 9 [(1, .int (nI (m_bl I a n))), (0, .ref 47)] [] 77 0 0 (fm (wI I 47 36 (nI b)) L) := by
    intro j
    induction j with
    | zero => intro b hj; omega
    | succ j ih =>
      intro b hj hb1 hb2
      refine qr_aload_n (pc := 9) d_md_part_9 rfl rfl ?_
      refine qr_callV (q := 47) (As := []) (pc := 10) d_md_part_10 lk_md_120 im_md_look se_md_look rfl (by decide) (by decide) (c_47 _ _) (s_md_look _ x (wI I 47 36 (nI b)) L b n (wI_at _ _ _ _) ((wI_ne (by omega)).trans hn) (by omega) hn2) rfl rfl (Nat.le_of_ble_eq_true rfl) (Nat.le_of_ble_eq_true rfl) (Nat.le_of_ble_eq_true rfl) (Nat.zero_le _) (Nat.zero_le _) (fun h => ⟨h, rfl, Or.inl rfl⟩) (fun v n9 f9 hE => ?_)
      obtain ⟨rfl, rfl, rfl⟩ := hE
      refine qr_i2l (pc := 13) d_md_part_13 ?_
      refine qr_ldc2 (v := 97) (pc := 14) d_md_part_14 kl_md_147 ?_
      refine qr_ldc2 (v := 122) (pc := 17) d_md_part_17 kl_md_149 ?_
      refine qr_callS (As := [.long (Int32.toInt64 (m_lc (wI I 47 36 (nI b)) b n)), .long 97, .long 122]) (pc := 20) d_md_part_20 lk_md_106 sm_md_in (s_md_in _ x _ _ (Int32.toInt64 (m_lc (wI I 47 36 (nI b)) b n)) 97 122) rfl rfl (Nat.le_of_ble_eq_true rfl) (Nat.le_of_ble_eq_true rfl) (Nat.le_of_ble_eq_true rfl) (Nat.zero_le _) (Nat.zero_le _) (fun h => ⟨h, rfl, Or.inl rfl⟩) (fun v n9 f9 hE => ?_)
      obtain ⟨rfl, rfl, rfl⟩ := hE
      have hlc : m_lc (wI I 47 36 (nI b)) b n = m_lc I b n := by unfold m_lc; rw [wI_ne (by omega)]
      rw [hlc]
      refine qr_if_eq (tgt := 39) (pc := 23) d_md_part_23 (by decide) (fun h23 => ?_) (fun h23 => ?_)
      · simp only [b01, Decidable.not_not] at h23
        have hbe : b = (m_pe I a n) := by
          rcases Nat.lt_or_ge b (m_pe I a n) with q | q
          · have q2 := hlt.2.1 b hb1 q
            exfalso
            apply h23
            unfold m_lc
            rw [if_neg (by omega)]
            exact of_decide_eq_true q2.2
          · omega
        subst hbe
        refine qr_aload_n (pc := 39) d_md_part_39 rfl rfl ?_
        refine qr_iload_n (pc := 40) d_md_part_40 rfl rfl ?_
        refine qr_callV (q := 47) (As := [.int (nI (m_bl I a n))]) (pc := 41) d_md_part_41 lk_md_151 im_md_word se_md_word rfl (by decide) (by decide) (c_47 _ _) (s_md_word _ x (m_p2 I a n) L (m_bl I a n) (m_pe I a n) h236 hpe.1 (by omega)) rfl rfl (Nat.le_of_ble_eq_true rfl) (Nat.le_of_ble_eq_true rfl) (Nat.le_of_ble_eq_true rfl) (Nat.zero_le _) (Nat.zero_le _) (fun h => ⟨h, rfl, Or.inl rfl⟩) (fun v n9 f9 hE => ?_)
        obtain ⟨rfl, rfl, rfl⟩ := hE
        refine qr_istore_n (lv' := [(2, .int (m_wd (m_p2 I a n) (m_bl I a n) (m_pe I a n))), (1, .int (nI (m_bl I a n))), (0, .ref 47)]) (pc := 44) d_md_part_44 rfl (Nat.le_of_ble_eq_true rfl) rfl ?_
        exact t45
      · simp only [b01, Decidable.not_not] at h23
        have hbe : b < (m_pe I a n) := by
          rcases Nat.lt_or_ge b (m_pe I a n) with q | q
          · exact q
          · have q1 : b = (m_pe I a n) := by omega
            have hbn : b < n := by
              rcases Nat.lt_or_ge b n with r | r
              · exact r
              · unfold m_lc at h23
                rw [if_pos r] at h23
                exact absurd h23.1 (by decide)
            unfold m_lc at h23
            rw [if_neg (by omega)] at h23
            exact absurd (show m_lt I (m_bl I a n) n < n ∧ m_isl (I 48 (m_lt I (m_bl I a n) n)) = true from by
              have q3 : m_lt I (m_bl I a n) n = b := q1.symm
              rw [q3]
              exact ⟨hbn, decide_eq_true h23⟩) hlt.2.2.1
        refine qr_aload_n (pc := 26) d_md_part_26 rfl rfl ?_
        refine qr_dup (pc := 27) d_md_part_27 rfl ?_
        refine qr_get (v := .int (nI b)) (pc := 28) d_md_part_28 fl_md_117 (by decide) (by decide) (c_47 _ _) (congrArg (fun t => some (Value.int t)) (wI_at _ _ _ _)) ?_
        refine qr_iconst (v := 1) (pc := 31) d_md_part_31 (by decide) ?_
        refine qr_iadd (pc := 32) d_md_part_32 ?_
        refine qr_putI (pc := 33) d_md_part_33 fl_md_117 (by decide) (by decide) (c_47 _ _) (Nat.le_of_ble_eq_true rfl) (qFit_i _) (fun w => rfl) ?_
        refine qr_goto (tgt := 9) (pc := 36) d_md_part_36 (by decide) ?_
        refine qR_st (f' := fm (wI I 47 36 (nI (b + 1))) L) rfl rfl (by rw [wI_wI9, nI_1]) ?_
        exact ih (b + 1) (by omega) (by omega) (by omega)
  refine qSp_of (ini := false) (by decide +kernel) (fun h => nomatch h) (Nat.le_of_ble_eq_true rfl) ?_
  refine qr_aload_n (pc := 0) d_md_part_0 rfl rfl ?_
  refine qr_callV (q := 47) (As := []) (pc := 1) d_md_part_1 lk_md_128 im_md_blanks se_md_blanks rfl (by decide) (by decide) (c_47 _ _) (s_md_blanksF _ x I L a n ha hn ha2 hn2) rfl rfl (Nat.le_of_ble_eq_true rfl) (Nat.le_of_ble_eq_true rfl) (Nat.le_of_ble_eq_true rfl) (Nat.zero_le _) (Nat.zero_le _) (fun h => ⟨h, rfl, Or.inl rfl⟩) (fun v n9 f9 hE => ?_)
  obtain ⟨rfl, rfl, rfl⟩ := hE
  refine qr_aload_n (pc := 4) d_md_part_4 rfl rfl ?_
  refine qr_get (v := .int (nI (m_bl I a n))) (pc := 5) d_md_part_5 fl_md_117 (by decide) (by decide) (c_47 _ _) (congrArg (fun t => some (Value.int t)) (wI_at _ _ _ _)) ?_
  refine qr_istore_n (lv' := [(1, .int (nI (m_bl I a n))), (0, .ref 47)]) (pc := 8) d_md_part_8 rfl (Nat.le_of_ble_eq_true rfl) rfl ?_
  exact loop ((m_pe I a n) - (m_bl I a n) + 1) (m_bl I a n) (by omega) (Nat.le_refl _) hpe.1
