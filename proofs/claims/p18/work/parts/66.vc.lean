/-! both sides, held together -/
section PT
variable {J M : qJ} {a b n z s e B : Nat}
theorem sb_tab : ∀ B, B < 64 → ((((nI B >>> ((0 : Int32) &&& 31)) &&& 1 = 1) ↔ B.testBit 0 = true) ∧ (((nI B >>> ((1 : Int32) &&& 31)) &&& 1 = 1) ↔ B.testBit 1 = true) ∧ (((nI B >>> ((2 : Int32) &&& 31)) &&& 1 = 1) ↔ B.testBit 2 = true) ∧ (((nI B >>> ((3 : Int32) &&& 31)) &&& 1 = 1) ↔ B.testBit 3 = true) ∧ (((nI B >>> ((4 : Int32) &&& 31)) &&& 1 = 1) ↔ B.testBit 4 = true) ∧ (((nI B >>> ((5 : Int32) &&& 31)) &&& 1 = 1) ↔ B.testBit 5 = true)) := by decide +kernel
theorem o1_tab : ∀ B, B < 64 → (nI B ||| ((1 : Int32) <<< ((0 : Int32) &&& 31)) = nI (B ||| 1) ∧ nI B ||| ((1 : Int32) <<< ((1 : Int32) &&& 31)) = nI (B ||| 2) ∧ nI B ||| ((1 : Int32) <<< ((2 : Int32) &&& 31)) = nI (B ||| 4) ∧ nI B ||| ((1 : Int32) <<< ((3 : Int32) &&& 31)) = nI (B ||| 8) ∧ nI B ||| ((1 : Int32) <<< ((4 : Int32) &&& 31)) = nI (B ||| 16) ∧ nI B ||| ((1 : Int32) <<< ((5 : Int32) &&& 31)) = nI (B ||| 32)) := by decide +kernel
theorem or_tab : ∀ B, B < 64 → (B ||| 1) < 64 ∧ (B ||| 2) < 64 ∧ (B ||| 4) < 64 ∧ (B ||| 8) < 64 ∧ (B ||| 16) < 64 ∧ (B ||| 32) < 64 := by decide +kernel
/-- bit w is set, the others stay -/
theorem bt_tab : ∀ B, B < 64 → ∀ k, k < 6 → (B ||| 1).testBit k = (B.testBit k || k == 0) ∧ (B ||| 2).testBit k = (B.testBit k || k == 1) ∧ (B ||| 4).testBit k = (B.testBit k || k == 2) ∧ (B ||| 8).testBit k = (B.testBit k || k == 3) ∧ (B ||| 16).testBit k = (B.testBit k || k == 4) ∧ (B ||| 32).testBit k = (B.testBit k || k == 5) := by decide +kernel
theorem sp_lc {i : Nat} (hi : i < 6) (h : ¬ u_sp J i s e = 0) : e - s ≤ 4 ∧ 3 ≤ e - s ∧ ∀ k, k < e - s → p_lc (J 2 (s + k)) := by
  unfold u_sp at h
  split at h
  · rename_i g
    obtain ⟨g1, g2⟩ := g
    rw [g1]
    have lcs : ∀ (c d : Int32) (k : Int), d.toInt = k → 97 ≤ k ∧ k ≤ 122 → c = d → p_lc c := fun c d k h1 h2 h3 => by unfold p_lc; rw [h3, h1]; exact h2
    match i, hi with
    | 0, _ =>
      simp [u_spb] at g2 ⊢
      intro k hk
      match k, hk with
      | 0, _ => exact lcs _ _ 102 (by decide) (by decide) g2.1.1
      | 1, _ => exact lcs _ _ 101 (by decide) (by decide) g2.1.2
      | 2, _ => exact lcs _ _ 101 (by decide) (by decide) g2.2
    | 1, _ =>
      simp [u_spb] at g2 ⊢
      intro k hk
      match k, hk with
      | 0, _ => exact lcs _ _ 102 (by decide) (by decide) g2.1.1.1
      | 1, _ => exact lcs _ _ 114 (by decide) (by decide) g2.1.1.2
      | 2, _ => exact lcs _ _ 101 (by decide) (by decide) g2.1.2
      | 3, _ => exact lcs _ _ 101 (by decide) (by decide) g2.2
    | 2, _ =>
      simp [u_spb] at g2 ⊢
      intro k hk
      match k, hk with
      | 0, _ => exact lcs _ _ 109 (by decide) (by decide) g2.1.1
      | 1, _ => exact lcs _ _ 105 (by decide) (by decide) g2.1.2
      | 2, _ => exact lcs _ _ 110 (by decide) (by decide) g2.2
    | 3, _ =>
      simp [u_spb] at g2 ⊢
      intro k hk
      match k, hk with
      | 0, _ => exact lcs _ _ 112 (by decide) (by decide) g2.1.1
      | 1, _ => exact lcs _ _ 101 (by decide) (by decide) g2.1.2
      | 2, _ => exact lcs _ _ 114 (by decide) (by decide) g2.2
    | 4, _ =>
      simp [u_spb] at g2 ⊢
      intro k hk
      match k, hk with
      | 0, _ => exact lcs _ _ 116 (by decide) (by decide) g2.1.1.1
      | 1, _ => exact lcs _ _ 105 (by decide) (by decide) g2.1.1.2
      | 2, _ => exact lcs _ _ 101 (by decide) (by decide) g2.1.2
      | 3, _ => exact lcs _ _ 114 (by decide) (by decide) g2.2
    | 5, _ =>
      simp [u_spb] at g2 ⊢
      intro k hk
      match k, hk with
      | 0, _ => exact lcs _ _ 114 (by decide) (by decide) g2.1.1.1
      | 1, _ => exact lcs _ _ 101 (by decide) (by decide) g2.1.1.2
      | 2, _ => exact lcs _ _ 115 (by decide) (by decide) g2.1.2
      | 3, _ => exact lcs _ _ 116 (by decide) (by decide) g2.2
  · exact absurd rfl h
/-- a word that the class knows has small letters alone -/
theorem word_lc (h : ¬ u_word J s e = -1) : 3 ≤ e - s ∧ ∀ k, k < e - s → p_lc (J 2 (s + k)) := by
  have go : ∀ i, i < 6 → ¬ u_sp J i s e = 0 → 3 ≤ e - s ∧ ∀ k, k < e - s → p_lc (J 2 (s + k)) := fun i hi g => (sp_lc hi g).2
  unfold u_word at h
  by_cases h0 : ¬ u_sp J 0 s e = 0
  · exact go 0 (by omega) h0
  by_cases h1 : ¬ u_sp J 1 s e = 0
  · exact go 1 (by omega) h1
  by_cases h2 : ¬ u_sp J 2 s e = 0
  · exact go 2 (by omega) h2
  by_cases h3 : ¬ u_sp J 3 s e = 0
  · exact go 3 (by omega) h3
  by_cases h4 : ¬ u_sp J 4 s e = 0
  · exact go 4 (by omega) h4
  by_cases h5 : ¬ u_sp J 5 s e = 0
  · exact go 5 (by omega) h5
  rw [if_neg h0, if_neg h1, if_neg h2, if_neg h3, if_neg h4, if_neg h5] at h
  exact absurd rfl h
theorem let_lc (c : Int32) : m_isl c = true ↔ p_lc c := by
  unfold m_isl p_lc
  rw [decide_eq_true_eq, Int64.le_iff_toInt_le, Int64.le_iff_toInt_le, Int32.toInt_toInt64, show (97 : Int64).toInt = 97 by decide, show (122 : Int64).toInt = 122 by decide]
theorem let_u (c : Int32) : (¬ u_let c = 0) ↔ (p_lc c ∨ (65 ≤ c.toInt ∧ c.toInt ≤ 90)) := by
  unfold u_let p_lc
  simp only [Int32.lt_iff_toInt_lt, Int32.le_iff_toInt_le, show (97 : Int32).toInt = 97 by decide, show (122 : Int32).toInt = 122 by decide, show (65 : Int32).toInt = 65 by decide, show (90 : Int32).toInt = 90 by decide]
  split
  · rename_i g
    exact ⟨fun _ => by omega, fun _ => by decide⟩
  · rename_i g
    exact ⟨fun q => absurd rfl q, fun q => absurd q (by omega)⟩
/-- where the letters end: at one place, or the reference's at a capital -/
theorem pe_eq (h : J 2 = M 48) (ha : a ≤ n) : m_pe M a n = u_pe J a n ∨ (m_pe M a n < u_pe J a n ∧ m_pe M a n < n ∧ 65 ≤ (M 48 (m_pe M a n)).toInt ∧ (M 48 (m_pe M a n)).toInt ≤ 90) := by
  have hb := u_bl_ok J ha
  have he := u_lt_ok (u_p1 J a n) hb.2.2.2
  have hm := m_lt_ok M (a := m_bl M a n) (n := n) (by rw [← bl_eq h]; exact hb.2.2.2)
  have ht : u_p1 J a n 2 = M 48 := by unfold u_p1; rw [wI_c9 (by decide)]; exact h
  unfold m_pe u_pe
  rw [← bl_eq h] at *
  generalize u_lt (u_p1 J a n) (u_bl J a n) n = e at *
  generalize m_lt M (u_bl J a n) n = e2 at *
  rw [ht] at he
  have h1 : ¬ e < e2 := fun q => by
    have := hm.2.1 e he.1 q
    exact he.2.2.1 ⟨this.1, (let_u _).mpr (Or.inl ((let_lc _).mp this.2))⟩
  rcases Nat.lt_or_ge e2 e with q | q
  · right
    have g1 := he.2.1 e2 hm.1 q
    refine ⟨q, g1.1, ?_⟩
    rcases (let_u _).mp g1.2 with r | r
    · exact absurd ⟨g1.1, (let_lc _).mpr r⟩ hm.2.2.1
    · exact r
  · left
    omega
end PT
