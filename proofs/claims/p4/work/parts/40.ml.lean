/-- the first place from a on (at most f further) where P ends -/
def skp (P : Int32 → Bool) (t : Nat → Int32) (n : Nat) : Nat → Nat → Nat
  | 0, a => a
  | f + 1, a => if a < n ∧ P (t a) = true then skp P t n f (a + 1) else a
theorem skp_ge {P : Int32 → Bool} {t : Nat → Int32} {n : Nat} : ∀ f a, a ≤ skp P t n f a
  | 0, a => Nat.le_refl a
  | f + 1, a => by
    unfold skp
    split
    · exact Nat.le_trans (Nat.le_succ a) (skp_ge f (a + 1))
    · exact Nat.le_refl a
theorem skp_le {P : Int32 → Bool} {t : Nat → Int32} {n : Nat} : ∀ f a, skp P t n f a ≤ a + f
  | 0, a => Nat.le_refl a
  | f + 1, a => by
    unfold skp
    split
    · have := skp_le (P := P) (t := t) (n := n) f (a + 1)
      omega
    · omega
theorem skp_in {P : Int32 → Bool} {t : Nat → Int32} {n : Nat} : ∀ f a i, a ≤ i → i < skp P t n f a → i < n ∧ P (t i) = true
  | 0, a, i, h1, h2 => by unfold skp at h2; omega
  | f + 1, a, i, h1, h2 => by
    unfold skp at h2
    split at h2
    next h =>
      by_cases e : a = i
      · subst e; exact h
      · exact skp_in f (a + 1) i (by omega) h2
    next h => omega
theorem skp_out {P : Int32 → Bool} {t : Nat → Int32} {n : Nat} : ∀ f a, skp P t n f a < a + f → ¬ (skp P t n f a < n ∧ P (t (skp P t n f a)) = true)
  | 0, a, h => by unfold skp at h; omega
  | f + 1, a, h => by
    unfold skp at h ⊢
    split
    next h1 =>
      rw [if_pos h1] at h
      exact skp_out f (a + 1) (by omega)
    next h1 => exact h1
theorem skp_n {P : Int32 → Bool} {t : Nat → Int32} {n f a : Nat} (ha : a ≤ n) : skp P t n f a ≤ n := by
  rcases Nat.lt_or_ge n (skp P t n f a) with q | q
  · have h0 := skp_ge (P := P) (t := t) (n := n) f a
    have := (skp_in (P := P) (t := t) (n := n) f a (skp P t n f a - 1) (by omega) (by omega)).1
    omega
  · exact q
def m_lc (I : Nat → Nat → Int32) (a n : Nat) : Int32 := if n ≤ a then 0 else I 48 a
theorem wI_self {I : Nat → Nat → Int32} {k j : Nat} {v : Int32} (h : I k j = v) : wI I k j v = I := by
  funext a b
  by_cases h1 : a = k
  · subst h1
    by_cases h2 : b = j
    · subst h2; rw [wI_at, h]
    · rw [wI_ne (Or.inr h2)]
  · rw [wI_ne (Or.inl h1)]
set_option maxRecDepth 10000 in
theorem s_md_look (l : Launch) (x : Bool) (I : Nat → Nat → Int32) (L : Nat → Nat → Int64) (a n : Nat) (ha : I 47 36 = nI a) (hn : I 47 4 = nI n) (ha2 : a ≤ n) (hn2 : n ≤ 60) : qSp l y_md_look b_md_look 1 (some .int) x 1 0 0 [.ref 47] 77 (fm I L) (qD (some (.int (m_lc I a n))) 77 (fm I L)) := by
  refine qSp_of (ini := false) (by decide +kernel) (fun h => nomatch h) (Nat.le_of_ble_eq_true rfl) ?_
  show qR _ _ _ 0 [(0, .ref 47)] [] _ _ _ _
  refine qr_aload_n (pc := 0) d_md_look_0 rfl rfl ?_
  refine qr_get (v := .int (nI a)) (pc := 1) d_md_look_1 fl_md_117 (by decide) (by decide) (c_47 _ _) (congrArg (fun t => some (Value.int t)) ha) ?_
  refine qr_aload_n (pc := 4) d_md_look_4 rfl rfl ?_
  refine qr_get (v := .int (nI n)) (pc := 5) d_md_look_5 fl_md_114 (by decide) (by decide) (c_47 _ _) (congrArg (fun t => some (Value.int t)) hn) ?_
  refine qr_icmp_ge (tgt := 23) (pc := 8) d_md_look_8 (by decide) (fun h8 => ?_) (fun h8 => ?_)
  · skip
    have g8 : n ≤ a := (nI_leI (by omega) (by omega)).mp h8
    refine qr_iconst (v := 0) (pc := 23) d_md_look_23 (by decide) ?_
    exact qr_iret (pc := 24) d_md_look_24 rfl rfl ⟨(by simp [m_lc, *]), rfl, rfl⟩ (Nat.zero_le _) (Nat.zero_le _)
  · skip
    have g8 : ¬ n ≤ a := fun q => h8 (nI_le q (by omega))
    refine qr_aload_n (pc := 11) d_md_look_11 rfl rfl ?_
    refine qr_get (v := .ref 48) (pc := 12) d_md_look_12 fl_md_13 (by decide) (by decide) (c_47 _ _) rfl ?_
    refine qr_aload_n (pc := 15) d_md_look_15 rfl rfl ?_
    refine qr_get (v := .int (nI a)) (pc := 16) d_md_look_16 fl_md_117 (by decide) (by decide) (c_47 _ _) (congrArg (fun t => some (Value.int t)) ha) ?_
    refine qr_ialdN (j := a) (pc := 19) d_md_look_19 (by decide) (by decide) (c_48 _ _) (by omega) (by decide) ?_
    refine qr_goto (tgt := 24) (pc := 20) d_md_look_20 (by decide) ?_
    exact qr_iret (pc := 24) d_md_look_24 rfl rfl ⟨(by simp [m_lc, *]), rfl, rfl⟩ (Nat.zero_le _) (Nat.zero_le _)
set_option maxRecDepth 10000 in
theorem s_md_blanks (l : Launch) (x : Bool) (I : Nat → Nat → Int32) (L : Nat → Nat → Int64) (a n : Nat) (ha : I 47 36 = nI a) (hn : I 47 4 = nI n) (ha2 : a ≤ n) (hn2 : n ≤ 60) (a2 : Nat) (hb1 : a ≤ a2) (hb2 : ∀ i, a ≤ i → i < a2 → i < n ∧ I 48 i = 32) (hb3 : ¬ (a2 < n ∧ I 48 a2 = 32)) (hb4 : a2 ≤ n) : qSp l y_md_blanks b_md_blanks 1 none x 2 0 0 [.ref 47] 77 (fm I L) (qD none 77 (fm (wI I 47 36 (nI a2)) L)) := by
  refine qSp_of (ini := false) (by decide +kernel) (fun h => nomatch h) (Nat.le_of_ble_eq_true rfl) ?_
  show qR _ _ _ 0 [(0, .ref 47)] [] _ _ _ _
  have loop0 : ∀ (j b : Nat), n - b < j → a ≤ b → b ≤ a2 → qR (l, y_md_blanks.cls, b_md_blanks, 1, none, false, x, 2, 0, 0, 77, q0) (qD none 77 (fm (wI I 47 36 (nI a2)) L)) (fun _ _ _ => False) 0 [(0, .ref 47)] [] 77 0 0 (fm (wI I 47 36 (nI b)) L) := by
    intro j
    induction j with
    | zero => intro b hj; omega
    | succ j ih =>
    intro b hj hx1 hx2
    refine qr_aload_n (pc := 0) d_md_blanks_0 rfl rfl ?_
    refine qr_callV (q := 47) (As := []) (pc := 1) d_md_blanks_1 lk_md_120 im_md_look se_md_look rfl (by decide) (by decide) (c_47 _ _) (s_md_look _ x (wI I 47 36 (nI b)) L b n (wI_at I 47 36 (nI b)) hn (by omega) hn2) rfl rfl (Nat.le_of_ble_eq_true rfl) (Nat.le_of_ble_eq_true rfl) (Nat.le_of_ble_eq_true rfl) (Nat.zero_le _) (Nat.zero_le _) (fun h => ⟨h, rfl, Or.inl rfl⟩) (fun v n9 f9 hE1 => ?_)
    obtain ⟨rfl, rfl, rfl⟩ := hE1
    refine qr_bipush (v := 32) (pc := 4) d_md_blanks_4 (by decide) ?_
    refine qr_icmp_ne (tgt := 22) (pc := 6) d_md_blanks_6 (by decide) (fun h6 => ?_) (fun h6 => ?_)
    · skip
      have hbe : b = a2 := by
        rcases Nat.lt_or_ge b a2 with q | q
        · have h9 := hb2 b hx1 q
          exact absurd (show m_lc (wI I 47 36 (nI b)) b n = 32 by rw [m_lc, if_neg (by omega)]; exact h9.2) h6
        · omega
      subst hbe
      exact qr_vret (pc := 22) d_md_blanks_22 rfl ⟨rfl, rfl, rfl⟩ (Nat.zero_le _) (Nat.zero_le _)
    · skip
      have hbn : b < n ∧ I 48 b = 32 := by
        unfold m_lc at h6
        split at h6
        · exact absurd h6 (by decide)
        · exact ⟨by omega, h6⟩
      have hbe : b < a2 := by
        rcases Nat.lt_or_ge b a2 with q | q
        · exact q
        · have e : b = a2 := by omega
          subst e
          exact absurd hbn hb3
      refine qr_aload_n (pc := 9) d_md_blanks_9 rfl rfl ?_
      refine qr_dup (pc := 10) d_md_blanks_10 rfl ?_
      refine qr_get (v := .int (nI b)) (pc := 11) d_md_blanks_11 fl_md_117 (by decide) (by decide) (c_47 _ _) (congrArg (fun t => some (Value.int t)) (wI_at I 47 36 (nI b))) ?_
      refine qr_iconst (v := 1) (pc := 14) d_md_blanks_14 (by decide) ?_
      refine qr_iadd (pc := 15) d_md_blanks_15 ?_
      refine qr_putI (pc := 16) d_md_blanks_16 fl_md_117 (by decide) (by decide) (c_47 _ _) (Nat.le_of_ble_eq_true rfl) (qFit_i _) (fun w => rfl) ?_
      refine qr_goto (tgt := 0) (pc := 19) d_md_blanks_19 (by decide) ?_
      exact qR_st rfl rfl (by rw [nI_1, wI_wI9]) (ih (b + 1) (by omega) (by omega) (by omega))
  exact qR_st rfl rfl (by rw [wI_self ha]) (loop0 (n - a + 1) a (by omega) (by omega) (by omega))
