/-! both sides, held together -/
section PT4
variable {J M : qJ} {a b n z s e B : Nat} {v p : Int32}
def p_rg (v : Int32) : Prop := 0 ≤ v.toInt ∧ v.toInt ≤ 99999
def p_FR (J M : qJ) (z : Nat) : Prop := (J 4 0 = M 49 3 ∧ p_rg (J 4 0)) ∧ (J 4 1 = M 50 3 ∧ p_rg (J 4 1)) ∧ (J 4 2 = M 51 3 ∧ p_rg (J 4 2)) ∧ (J 4 3 = M 52 3 ∧ p_rg (J 4 3)) ∧ (0 < (J 4 3).toInt → J 4 4 = M 53 3 ∧ p_rg (J 4 4)) ∧ ∀ k, k < z → J 5 k = M 56 (12 + k) ∧ J 6 k = M 57 (12 + k) ∧ p_rg (J 6 k) ∧ 1 ≤ (J 5 k).toInt ∧ (J 5 k).toInt ≤ 99999 ∧ (k = 0 ∨ (J 5 (k - 1)).toInt < (J 5 k).toInt)
def p_BR (J M : qJ) (z B : Nat) : Prop := M 47 37 = nI B ∧ B < 64 ∧ (∀ w, w < 6 → w ≠ 4 → (J 3 w = 0 ↔ B.testBit w = false)) ∧ (B.testBit 4 = true ↔ 0 < z) ∧ (B.testBit 3 = true ↔ 0 < (J 4 3).toInt)
def p_AR (n : Nat) (J M : qJ) (b z B : Nat) : Prop := (J 2 = M 48 ∧ J 1 4 = nI b ∧ J 1 5 = M 47 38 ∧ J 1 6 = -2 ∧ M 47 4 = nI n) ∧ p_BR J M z B ∧ (J 4 5 = nI z ∧ M 54 3 = nI z ∧ z ≤ 4) ∧ p_FR J M z
def p_FIN (J M : qJ) : Prop := J 1 5 = M 47 38 ∧ J 4 8 = M 55 3 ∧ p_rg (J 4 8) ∧ ∃ z, z ≤ 4 ∧ J 4 5 = nI z ∧ M 54 3 = nI z ∧ p_FR J M z
theorem sb_of (h : p_BR J M z B) : (m_sb M 0 ↔ B.testBit 0 = true) ∧ (m_sb M 1 ↔ B.testBit 1 = true) ∧ (m_sb M 2 ↔ B.testBit 2 = true) ∧ (m_sb M 3 ↔ B.testBit 3 = true) ∧ (m_sb M 4 ↔ B.testBit 4 = true) ∧ (m_sb M 5 ↔ B.testBit 5 = true) := by
  unfold m_sb
  rw [h.1]
  exact sb_tab B h.2.1
theorem ne2 (j : Nat) (hj : j ≤ 70) : ¬ nI j = -2 := fun q => by
  have q2 := congrArg Int32.toInt q
  rw [nI_toInt (by omega), show (-2 : Int32).toInt = -2 by decide] at q2
  omega
/-- after the numbers of a part -/
theorem end_eq {w : Int32} (hA : p_AR n J M b z B) (hb : b ≤ n) (hn : n ≤ 60) (hw : ¬ w = 5 → B.testBit 5 = false) (hw5 : w = 5 → B.testBit 5 = true ∧ J 4 8 = M 55 3 ∧ p_rg (J 4 8)) :
    (¬ u_ew J (u_bl J b n) n w 1 6 = -2 ∧ ∃ M', ∀ k, m_rs n k (m_pfin M b n) = (0, M')) ∨
    (w = 5 ∧ u_ew J (u_bl J b n) n w 1 6 = -2 ∧ u_ew J (u_bl J b n) n w 3 = J 3 ∧ ∃ M', (∀ k, m_rs n k (m_pfin M b n) = (1, M')) ∧ p_FIN (wI (u_ew J (u_bl J b n) n w) 1 5 (u_ew J (u_bl J b n) n w 1 5 + 1)) M') ∨
    (u_ew J (u_bl J b n) n w 3 = J 3 ∧ ∃ b' M', b < b' ∧ b' ≤ n ∧ M' 47 36 = nI b' ∧ (∀ k, m_rs n k (m_pfin M b n) = k M') ∧ p_AR n (wI (u_ew J (u_bl J b n) n w) 1 5 (u_ew J (u_bl J b n) n w 1 5 + 1)) M' b' z B) := by
  obtain ⟨⟨h1, h2, h3, h4, h5⟩, hB, hz, hF⟩ := hA
  have hs := (sb_of hB).2.2.2.2.2
  have hf := u_bl_ok J hb
  have ht : m_pinc M 48 = M 48 := wI_c9 (by decide)
  have hbl : m_bl (m_pinc M) b n = u_bl J b n := (bl_eq (h1.trans ht.symm)).symm
  generalize u_bl J b n = f at *
  have hM5 : m_pfin M b n = (1, wI (m_pinc M) 47 36 (nI f)) := by unfold m_pfin; rw [hbl]
  rw [hM5]
  have hs5 : m_sb (wI (m_pinc M) 47 36 (nI f)) 5 ↔ B.testBit 5 = true := by
    rw [← hs]
    unfold m_sb
    rw [wI_ne (by omega), m_pinc, wI_ne (by omega)]
  have hpos : wI (m_pinc M) 47 36 (nI f) 47 36 = nI f := wI_at _ _ _ _
  have hlen : wI (m_pinc M) 47 36 (nI f) 47 4 = nI n := by rw [wI_ne (by omega), m_pinc, wI_ne (by omega)]; exact h5
  have hma : maof (wI (m_pinc M) 47 36 (nI f)) = f := maof_of hpos (by omega)
  have hlc : m_lc (wI (m_pinc M) 47 36 (nI f)) f n = if n ≤ f then 0 else J 2 f := by
    unfold m_lc
    rw [wI_c9 (by decide), ht, h1]
  have hrs : ∀ k, m_rs n k (1, wI (m_pinc M) 47 36 (nI f)) = if B.testBit 5 = true ∧ f = n then (1, wI (m_pinc M) 47 36 (nI f)) else if B.testBit 5 = true ∨ ¬ (f < n ∧ J 2 f = 59) then (0, wI (wI (m_pinc M) 47 36 (nI f)) 47 1 (nI f)) else k (wI (wI (m_pinc M) 47 36 (nI f)) 47 36 (nI (f + 1))) := by
    intro k
    have e9 : (¬ (if n ≤ f then (0 : Int32) else J 2 f) = 59) ↔ ¬ (f < n ∧ J 2 f = 59) := by
      rcases Nat.lt_or_ge f n with q | q
      · rw [if_neg (by omega)]
        exact ⟨fun r t => r t.2, fun r t => r ⟨q, t⟩⟩
      · rw [if_pos q]
        exact ⟨fun _ t => absurd t.1 (by omega), fun _ => by decide⟩
    simp only [m_rs, hpos, hlen, hma, hlc, hs5, nI_1, e9, nI_eq (show f < 2 ^ 31 by omega) (show n < 2 ^ 31 by omega), if_neg (show ¬ (1 : Int32) = 0 by decide)]
  by_cases w5 : w = 5
  · obtain ⟨b5, r1, r2⟩ := hw5 w5
    unfold u_ew
    rw [if_pos w5]
    rcases Nat.lt_or_ge f n with q | q
    · left
      rw [if_neg (by omega), wI_at]
      exact ⟨ne2 _ (by omega), _, fun k => by rw [hrs k, if_neg (by omega), if_pos (Or.inl b5)]⟩
    · right; left
      rw [if_pos q]
      refine ⟨w5, by rw [wI_ne (by omega)]; exact h4, wI_c9 (by decide), _, fun k => by rw [hrs k, if_pos ⟨b5, by omega⟩], ?_⟩
      obtain ⟨f1, f2, f3, f4, f5, f6⟩ := hF
      refine ⟨?_, ?_, ?_, z, hz.2.2, ?_, ?_, ?_⟩
      · simp [wI, va_up, upd, m_pinc, h3]
      · simpa [wI, va_up, upd, m_pinc] using r1
      · simpa [wI, va_up, upd] using r2
      · simpa [wI, va_up, upd] using hz.1
      · simpa [wI, va_up, upd, m_pinc] using hz.2.1
      · unfold p_FR
        simp [wI, va_up, upd, m_pinc]
        exact ⟨f1, f2, f3, f4, f5, f6⟩
  · have b5 := hw w5
    unfold u_ew
    rw [if_neg w5]
    by_cases q : f < n ∧ J 2 f = 59
    · right; right
      rw [if_pos q]
      refine ⟨by rw [wI_c9 (by decide), wI_c9 (by decide)], f + 1, _, by omega, by omega, wI_at _ _ _ _, fun k => by rw [hrs k, if_neg (by rw [b5]; simp), if_neg (by rw [b5]; simp; exact q)], ?_⟩
      obtain ⟨f1, f2, f3, f4, f5, f6⟩ := hF
      obtain ⟨B1, B2, B3, B4, B5⟩ := hB
      refine ⟨⟨?_, ?_, ?_, ?_, ?_⟩, ⟨?_, B2, ?_, B4, ?_⟩, ⟨?_, ?_, hz.2.2⟩, ?_⟩
      · simpa [wI, va_up, m_pinc] using h1
      · simp [wI, va_up, upd]
      · simp [wI, va_up, upd, m_pinc, h3]
      · simpa [wI, va_up, upd] using h4
      · simpa [wI, va_up, upd, m_pinc] using h5
      · simpa [wI, va_up, upd, m_pinc] using B1
      · simpa [wI, va_up, upd] using B3
      · simpa [wI, va_up, upd] using B5
      · simpa [wI, va_up, upd] using hz.1
      · simpa [wI, va_up, upd, m_pinc] using hz.2.1
      · unfold p_FR
        simp [wI, va_up, upd, m_pinc]
        exact ⟨f1, f2, f3, f4, f5, f6⟩
    · left
      rw [if_neg q, wI_at]
      exact ⟨ne2 _ (by omega), _, fun k => by rw [hrs k, if_neg (by rw [b5]; simp), if_pos (Or.inr q)]⟩
end PT4
