/-! both sides, held together -/
section PT5
variable {J M : qJ} {a b n z s e B : Nat} {v p w : Int32}
theorem nar_b1 : vp_nar .boolean 1 = 1 := by decide +kernel
theorem nar_b0 : vp_nar .boolean 0 = 0 := by decide +kernel
def p_OUT (n a : Nat) (P : qJ) (r : (qJ → Int32 × qJ) → Int32 × qJ) : Prop :=
  (¬ P 1 6 = -2 ∧ ∃ M', ∀ k, r k = (0, M')) ∨ (P 1 6 = -2 ∧ ¬ P 3 5 = 0 ∧ ∃ M', (∀ k, r k = (1, M')) ∧ p_FIN (wI P 1 5 (P 1 5 + 1)) M') ∨
  (∃ b z B M', a < b ∧ b ≤ n ∧ M' 47 36 = nI b ∧ B.testBit 5 = false ∧ (∀ k, r k = k M') ∧ p_AR n (wI P 1 5 (P 1 5 + 1)) M' b z B)
def p_fin4 (p4 : qJ) (n : Nat) (w : Int32) : qJ := if ¬ p4 1 6 = -2 then p4 else u_ew p4 (u_bl p4 (aof p4) n) n w
theorem rs_0 (k : qJ → Int32 × qJ) (M' : qJ) : m_rs n k (0, M') = (0, M') := by
  unfold m_rs
  exact if_pos rfl
theorem fin_ok (hA : p_AR n J M b z B) (hab : a ≤ b) (hb : b ≤ n) (hn : n ≤ 60) (hw : ¬ w = 5 → B.testBit 5 = false) (hw5 : w = 5 → B.testBit 5 = true ∧ J 4 8 = M 55 3 ∧ p_rg (J 4 8)) : p_OUT n a (p_fin4 J n w) (fun k => m_rs n k (m_pfin M b n)) := by
  have h6 := hA.1.2.2.2.1
  have hao : aof J = b := by unfold aof; rw [hA.1.2.1]; exact nI_clamp (by omega)
  unfold p_fin4
  rw [if_neg (fun q => q h6), hao]
  have h3 := hA.2.1.2.2.1 5 (by omega) (by omega)
  rcases end_eq hA hb hn hw hw5 with ⟨q1, M', q2⟩ | ⟨q0, q1, q2, M', q3, q4⟩ | ⟨q1, b', M', q2, q3, q4, q5, q6⟩
  · exact Or.inl ⟨q1, M', q2⟩
  · refine Or.inr (Or.inl ⟨q1, ?_, M', q3, q4⟩)
    rw [q2, h3, (hw5 q0).1]
    decide
  · refine Or.inr (Or.inr ⟨b', z, B, M', by omega, q3, q4, ?_, q5, q6⟩)
    have g := q6.2.1.2.2.1 5 (by omega) (by omega)
    by_cases w5 : w = 5
    · exfalso
      have t := (hw5 w5).1
      /- the end of w = 5 never goes on -/
      have e := q5 (fun _ => (0, M))
      have e2 := q5 (fun _ => (1, M))
      unfold m_pfin m_rs at e e2
      simp only [if_neg (show ¬ (1 : Int32) = 0 by decide)] at e e2
      have hs : m_sb (wI (m_pinc M) 47 36 (nI (m_bl (m_pinc M) b n))) 5 := by
        have := (sb_of hA.2.1).2.2.2.2.2.mpr t
        unfold m_sb at this ⊢
        rw [wI_ne (by omega), m_pinc, wI_ne (by omega)]
        exact this
      by_cases c1 : wI (m_pinc M) 47 36 (nI (m_bl (m_pinc M) b n)) 47 36 = wI (m_pinc M) 47 36 (nI (m_bl (m_pinc M) b n)) 47 4
      · rw [if_pos ⟨hs, c1⟩] at e
        exact absurd (congrArg Prod.fst e) (show ¬ (1 : Int32) = 0 by decide)
      · rw [if_neg (fun q => c1 q.2), if_pos (Or.inl hs)] at e2
        exact absurd (congrArg Prod.fst e2) (show ¬ (0 : Int32) = 1 by decide)
    · exact hw w5
/-- a word with one number -/
theorem one_out {jc mc : Nat} {p4 : qJ} (ht : J 2 = M 48) (hab : a ≤ e) (he : e ≤ n) (hn : n ≤ 60) (hp : p4 = if ¬ u_rw J e n 0 1 6 = -2 then u_rw J e n 0 else wI (u_rw J e n 0) 4 jc (u_rv J e n 0)) (hw : ¬ w = 5 → B.testBit 5 = false)
    (hA : ∀ v b, p_rg v → p_AR n (wI (wI J 1 4 (nI b)) 4 jc v) (wI (wI M 47 36 (nI b)) mc 3 v) b z B) (h6 : J 1 6 = -2) (hw5 : w = 5 → B.testBit 5 = true ∧ jc = 8 ∧ mc = 55) : p_OUT n a (p_fin4 p4 n w) (fun k => m_rs n k (m_pone M e n mc)) := by
  subst hp
  rcases num_eq (low := 0) ht he hn with ⟨q1, q2⟩ | ⟨v, b, q1, q2, q3, q4, q5, q6, q7, q8, q9, q10, q11⟩
  · left
    unfold p_fin4 m_pone
    rw [if_pos q1, if_pos q1]
    refine ⟨q1, m_rw M e n 0, fun k => ?_⟩
    dsimp only
    rw [if_pos q2]
    exact rs_0 _ _
  · have g : ¬ (¬ u_rw J e n 0 1 6 = -2) := by rw [q1, wI_ne (by omega)]; exact fun q => q h6
    have g2 : ¬ m_rv M e n 0 < 0 := by rw [q5, Int32.lt_iff_toInt_lt, k32_0]; omega
    unfold m_pone
    rw [if_neg g, if_neg g2, q1, q2, q4, q5, q6]
    exact fin_ok (hA v b ⟨q9, q10⟩) (by omega) q8 hn hw (fun w5 => by
      obtain ⟨r1, r2, r3⟩ := hw5 w5
      subst r2; subst r3
      exact ⟨r1, by rw [wI_at, wI_at], by rw [wI_at]; exact ⟨q9, q10⟩⟩)
/-- a word with two -/
theorem two_out {p4 : qJ} {G F : qJ → Int32 → Int32 → qJ} {low : Int32} (ht : J 2 = M 48) (hab : a ≤ e) (he : e ≤ n) (hn : n ≤ 60) (hp : p4 = if ¬ u_rw J e n low 1 6 = -2 then u_rw J e n low else if ¬ u_rw (u_rw J e n low) (u_ra J e n) n 0 1 6 = -2 then u_rw (u_rw J e n low) (u_ra J e n) n 0 else G (u_rw (u_rw J e n low) (u_ra J e n) n 0) (u_rv J e n low) (u_rv (u_rw J e n low) (u_ra J e n) n 0)) (hw : B.testBit 5 = false) (hw5 : ¬ w = 5)
    (hA : ∀ v p b c, p_rg v → p_rg p → low.toInt ≤ v.toInt → p_AR n (G (wI (wI J 1 4 (nI c)) 1 4 (nI b)) v p) (F (wI (wI M 47 36 (nI c)) 47 36 (nI b)) v p) b z B) (h6 : J 1 6 = -2) : p_OUT n a (p_fin4 p4 n w) (fun k => m_rs n k (m_ptwo M e n low F)) := by
  subst hp
  rcases num_eq (low := low) ht he hn with ⟨q1, q2⟩ | ⟨v, c, q1, q2, q3, q4, q5, q6, q7, q8, q9, q10, q11⟩
  · left
    unfold p_fin4 m_ptwo
    rw [if_pos q1, if_pos q1]
    refine ⟨q1, m_rw M e n low, fun k => ?_⟩
    dsimp only
    rw [if_pos q2]
    exact rs_0 _ _
  · have g : ¬ (¬ u_rw J e n low 1 6 = -2) := by rw [q1, wI_ne (by omega)]; exact fun q => q h6
    have g2 : ¬ m_rv M e n low < 0 := by rw [q5, Int32.lt_iff_toInt_lt, k32_0]; omega
    unfold m_ptwo
    rw [if_neg g, if_neg g2, q1, q2, q3, q4, q5, q6]
    have ht2 : wI J 1 4 (nI c) 2 = wI M 47 36 (nI c) 48 := by rw [wI_c9 (by decide), wI_c9 (by decide)]; exact ht
    rcases num_eq (low := 0) ht2 q8 hn with ⟨s1, s2⟩ | ⟨p, b, s1, s2, s3, s4, s5, s6, s7, s8, s9, s10, s11⟩
    · left
      unfold p_fin4
      rw [if_pos s1, if_pos s1]
      refine ⟨s1, m_rw (wI M 47 36 (nI c)) c n 0, fun k => ?_⟩
      dsimp only
      rw [if_pos s2]
      exact rs_0 _ _
    · have g3 : ¬ (¬ u_rw (wI J 1 4 (nI c)) c n 0 1 6 = -2) := by rw [s1, wI_ne (by omega), wI_ne (by omega)]; exact fun q => q h6
      have g4 : ¬ m_rv (wI M 47 36 (nI c)) c n 0 < 0 := by rw [s5, Int32.lt_iff_toInt_lt, k32_0]; omega
      rw [if_neg g3, if_neg g4, s1, s2, s4, s5, s6]
      exact fin_ok (hA v p b c ⟨q9, q10⟩ ⟨s9, s10⟩ q11) (by omega) s8 hn (fun _ => hw) (fun q => absurd q hw5)
theorem can_0 : u_can J 0 = if J 3 0 = 0 then 1 else 0 := by
  unfold u_can; rw [if_neg (by decide), if_neg (by decide), if_neg (by simp)]; rfl
theorem can_1 : u_can J 1 = if J 3 1 = 0 then 1 else 0 := by
  unfold u_can; rw [if_neg (by decide), if_neg (by decide), if_neg (by simp)]; rfl
theorem can_2 : u_can J 2 = if J 3 2 = 0 then 1 else 0 := by
  unfold u_can; rw [if_neg (by decide), if_neg (by decide), if_neg (by simp)]; rfl
theorem can_5 : u_can J 5 = if J 3 5 = 0 then 1 else 0 := by
  unfold u_can; rw [if_neg (by decide), if_neg (by decide), if_neg (by simp)]; rfl
theorem can_3 : u_can J 3 = if 0 < J 4 5 then 0 else if J 3 3 = 0 then 1 else 0 := by
  unfold u_can; rw [if_neg (by decide), if_neg (by decide)]; simp
theorem can_4 : u_can J 4 = if 0 < J 4 3 ∨ 4 ≤ J 4 5 then 0 else 1 := by
  unfold u_can; rw [if_neg (by decide), if_pos rfl]
theorem can_m : u_can J (-1) = 0 := by
  unfold u_can; rw [if_pos (by decide)]
theorem rns_0 : u_rns J a n z 0 = if ¬ u_rw J a n 0 1 6 = -2 then u_rw J a n 0 else wI (u_rw J a n 0) 4 0 (u_rv J a n 0) := by
  unfold u_rns; rw [if_neg (by decide)]; simp
theorem rns_1 : u_rns J a n z 1 = if ¬ u_rw J a n 0 1 6 = -2 then u_rw J a n 0 else wI (u_rw J a n 0) 4 1 (u_rv J a n 0) := by
  unfold u_rns; rw [if_neg (by decide)]; simp [show ¬ (1 : Int32) = 0 by decide]
theorem rns_2 : u_rns J a n z 2 = if ¬ u_rw J a n 0 1 6 = -2 then u_rw J a n 0 else wI (u_rw J a n 0) 4 2 (u_rv J a n 0) := by
  unfold u_rns; rw [if_neg (by decide)]; simp [show ¬ (2 : Int32) = 0 by decide, show ¬ (2 : Int32) = 1 by decide]
theorem rns_5 : u_rns J a n z 5 = if ¬ u_rw J a n 0 1 6 = -2 then u_rw J a n 0 else wI (u_rw J a n 0) 4 8 (u_rv J a n 0) := by
  unfold u_rns; rw [if_neg (by decide)]; simp [show ¬ (5 : Int32) = 0 by decide, show ¬ (5 : Int32) = 1 by decide, show ¬ (5 : Int32) = 2 by decide]
theorem rns_3 : u_rns J a n z 3 = if ¬ u_rw J a n 1 1 6 = -2 then u_rw J a n 1 else if ¬ u_rw (u_rw J a n 1) (u_ra J a n) n 0 1 6 = -2 then u_rw (u_rw J a n 1) (u_ra J a n) n 0 else wI (wI (u_rw (u_rw J a n 1) (u_ra J a n) n 0) 4 3 (u_rv J a n 1)) 4 4 (u_rv (u_rw J a n 1) (u_ra J a n) n 0) := by
  unfold u_rns u_two u_two2; rw [if_pos (by decide), if_neg (show ¬ (3 : Int32) = 4 by decide), if_neg (show ¬ (3 : Int32) = 4 by decide)]
theorem rns_4 (hz : z < 4) {low : Int32} (hl : low = (if z = 0 then 0 else J 5 (z - 1)) + 1) : u_rns J a n z 4 = if ¬ u_rw J a n low 1 6 = -2 then u_rw J a n low else if ¬ u_rw (u_rw J a n low) (u_ra J a n) n 0 1 6 = -2 then u_rw (u_rw J a n low) (u_ra J a n) n 0 else wI (wI (wI (u_rw (u_rw J a n low) (u_ra J a n) n 0) 5 z (u_rv J a n low)) 6 z (u_rv (u_rw J a n low) (u_ra J a n) n 0)) 4 5 (nI (z + 1)) := by
  subst hl
  unfold u_rns u_two u_two2; rw [if_pos (by decide), if_pos rfl, if_pos rfl, if_neg (show ¬ (4 : Int32) ≤ nI z from nI_ge (a := z) (b := 4) hz (by decide))]
end PT5
