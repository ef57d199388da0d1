/-! both sides, held together -/
section PT6
variable {J M : qJ} {a b n z s e B : Nat} {v p w : Int32}
/-- bits after a word is seen -/
theorem BR_seen {J' M' : qJ} {w z' B' : Nat} (h : p_BR J M z B) (hw : w < 6) (hB' : M' 47 37 = nI B') (hB2 : B' < 64) (hb : ∀ k, k < 6 → B'.testBit k = (B.testBit k || k == w)) (h3 : ∀ k, k < 6 → k ≠ w → J' 3 k = J 3 k) (h3w : ¬ J' 3 w = 0) (hz : if w = 4 then 0 < z' else z' = z) (h43 : if w = 3 then 0 < (J' 4 3).toInt else J' 4 3 = J 4 3) : p_BR J' M' z' B' := by
  obtain ⟨b1, b2, b3, b4, b5⟩ := h
  refine ⟨hB', hB2, fun k hk hk4 => ?_, ?_, ?_⟩
  · rw [hb k hk]
    rcases Decidable.em (k = w) with q | q
    · subst q
      simp
      exact h3w
    · rw [h3 k hk q, b3 k hk hk4]
      simp [q]
  · rw [hb 4 (by omega)]
    rcases Decidable.em (w = 4) with q | q
    · subst q
      rw [if_pos rfl] at hz
      simp [hz]
    · rw [if_neg q] at hz
      subst hz
      rw [show ((4 : Nat) == w) = false by simp; omega, Bool.or_false]
      exact b4
  · rw [hb 3 (by omega)]
    rcases Decidable.em (w = 3) with q | q
    · subst q
      rw [if_pos rfl] at h43
      simp [h43]
    · rw [if_neg q] at h43
      rw [h43, show ((3 : Nat) == w) = false by simp; omega, Bool.or_false]
      exact b5
theorem AR_0 (h : p_AR n J M a z B) (hv : p_rg v) : p_AR n (wI (wI (wI (u_p2 J a n) 3 0 (vp_nar .boolean 1)) 1 4 (nI b)) 4 0 v) (wI (wI (m_o1 (m_p2 M a n) 0) 47 36 (nI b)) 49 3 v) b z (B ||| 1) := by
  obtain ⟨⟨h1, h2, h3, h4, h5⟩, hB, hz, f1, f2, f3, f4, f5, f6⟩ := h
  refine ⟨⟨?_, ?_, ?_, ?_, ?_⟩, ?_, ⟨?_, ?_, hz.2.2⟩, ?_⟩
  · simpa [wI, va_up, m_o1, m_p2, u_p2, u_p1] using h1
  · simp [wI, va_up, upd]
  · simpa [wI, va_up, upd, m_o1, m_p2, u_p2, u_p1] using h3
  · simpa [wI, va_up, upd, m_o1, m_p2, u_p2, u_p1] using h4
  · simpa [wI, va_up, upd, m_o1, m_p2, u_p2, u_p1] using h5
  · refine BR_seen (w := 0) hB (by omega) ?_ (or_tab B hB.2.1).1 (fun k hk => (bt_tab B hB.2.1 k hk).1) ?_ ?_ rfl ?_
    · simpa [wI, va_up, upd, m_o1, m_p2, hB.1] using (o1_tab B hB.2.1).1
    · intro k hk hk2
      simp [wI, va_up, upd, u_p2, u_p1, hk2]
    · simp [wI, va_up, upd, u_p2, u_p1, nar_b1]
    · simp [wI, va_up, upd, u_p2, u_p1]
  · simpa [wI, va_up, upd, u_p2, u_p1] using hz.1
  · simpa [wI, va_up, upd, m_o1, m_p2] using hz.2.1
  · unfold p_FR
    simp [wI, va_up, upd, m_o1, m_p2, u_p2, u_p1]
    exact ⟨hv, f2, f3, f4, f5, f6⟩
theorem AR_1 (h : p_AR n J M a z B) (hv : p_rg v) : p_AR n (wI (wI (wI (u_p2 J a n) 3 1 (vp_nar .boolean 1)) 1 4 (nI b)) 4 1 v) (wI (wI (m_o1 (m_p2 M a n) 1) 47 36 (nI b)) 50 3 v) b z (B ||| 2) := by
  obtain ⟨⟨h1, h2, h3, h4, h5⟩, hB, hz, f1, f2, f3, f4, f5, f6⟩ := h
  refine ⟨⟨?_, ?_, ?_, ?_, ?_⟩, ?_, ⟨?_, ?_, hz.2.2⟩, ?_⟩
  · simpa [wI, va_up, m_o1, m_p2, u_p2, u_p1] using h1
  · simp [wI, va_up, upd]
  · simpa [wI, va_up, upd, m_o1, m_p2, u_p2, u_p1] using h3
  · simpa [wI, va_up, upd, m_o1, m_p2, u_p2, u_p1] using h4
  · simpa [wI, va_up, upd, m_o1, m_p2, u_p2, u_p1] using h5
  · refine BR_seen (w := 1) hB (by omega) ?_ (or_tab B hB.2.1).2.1 (fun k hk => (bt_tab B hB.2.1 k hk).2.1) ?_ ?_ rfl ?_
    · simpa [wI, va_up, upd, m_o1, m_p2, hB.1] using (o1_tab B hB.2.1).2.1
    · intro k hk hk2
      simp [wI, va_up, upd, u_p2, u_p1, hk2]
    · simp [wI, va_up, upd, u_p2, u_p1, nar_b1]
    · simp [wI, va_up, upd, u_p2, u_p1]
  · simpa [wI, va_up, upd, u_p2, u_p1] using hz.1
  · simpa [wI, va_up, upd, m_o1, m_p2] using hz.2.1
  · unfold p_FR
    simp [wI, va_up, upd, m_o1, m_p2, u_p2, u_p1]
    exact ⟨f1, hv, f3, f4, f5, f6⟩
theorem AR_2 (h : p_AR n J M a z B) (hv : p_rg v) : p_AR n (wI (wI (wI (u_p2 J a n) 3 2 (vp_nar .boolean 1)) 1 4 (nI b)) 4 2 v) (wI (wI (m_o1 (m_p2 M a n) 2) 47 36 (nI b)) 51 3 v) b z (B ||| 4) := by
  obtain ⟨⟨h1, h2, h3, h4, h5⟩, hB, hz, f1, f2, f3, f4, f5, f6⟩ := h
  refine ⟨⟨?_, ?_, ?_, ?_, ?_⟩, ?_, ⟨?_, ?_, hz.2.2⟩, ?_⟩
  · simpa [wI, va_up, m_o1, m_p2, u_p2, u_p1] using h1
  · simp [wI, va_up, upd]
  · simpa [wI, va_up, upd, m_o1, m_p2, u_p2, u_p1] using h3
  · simpa [wI, va_up, upd, m_o1, m_p2, u_p2, u_p1] using h4
  · simpa [wI, va_up, upd, m_o1, m_p2, u_p2, u_p1] using h5
  · refine BR_seen (w := 2) hB (by omega) ?_ (or_tab B hB.2.1).2.2.1 (fun k hk => (bt_tab B hB.2.1 k hk).2.2.1) ?_ ?_ rfl ?_
    · simpa [wI, va_up, upd, m_o1, m_p2, hB.1] using (o1_tab B hB.2.1).2.2.1
    · intro k hk hk2
      simp [wI, va_up, upd, u_p2, u_p1, hk2]
    · simp [wI, va_up, upd, u_p2, u_p1, nar_b1]
    · simp [wI, va_up, upd, u_p2, u_p1]
  · simpa [wI, va_up, upd, u_p2, u_p1] using hz.1
  · simpa [wI, va_up, upd, m_o1, m_p2] using hz.2.1
  · unfold p_FR
    simp [wI, va_up, upd, m_o1, m_p2, u_p2, u_p1]
    exact ⟨f1, f2, hv, f4, f5, f6⟩
theorem AR_5 (h : p_AR n J M a z B) (_ : p_rg v) : p_AR n (wI (wI (wI (u_p2 J a n) 3 5 (vp_nar .boolean 1)) 1 4 (nI b)) 4 8 v) (wI (wI (m_o1 (m_p2 M a n) 5) 47 36 (nI b)) 55 3 v) b z (B ||| 32) := by
  obtain ⟨⟨h1, h2, h3, h4, h5⟩, hB, hz, f1, f2, f3, f4, f5, f6⟩ := h
  refine ⟨⟨?_, ?_, ?_, ?_, ?_⟩, ?_, ⟨?_, ?_, hz.2.2⟩, ?_⟩
  · simpa [wI, va_up, m_o1, m_p2, u_p2, u_p1] using h1
  · simp [wI, va_up, upd]
  · simpa [wI, va_up, upd, m_o1, m_p2, u_p2, u_p1] using h3
  · simpa [wI, va_up, upd, m_o1, m_p2, u_p2, u_p1] using h4
  · simpa [wI, va_up, upd, m_o1, m_p2, u_p2, u_p1] using h5
  · refine BR_seen (w := 5) hB (by omega) ?_ (or_tab B hB.2.1).2.2.2.2.2 (fun k hk => (bt_tab B hB.2.1 k hk).2.2.2.2.2) ?_ ?_ rfl ?_
    · simpa [wI, va_up, upd, m_o1, m_p2, hB.1] using (o1_tab B hB.2.1).2.2.2.2.2
    · intro k hk hk2
      simp [wI, va_up, upd, u_p2, u_p1, hk2]
    · simp [wI, va_up, upd, u_p2, u_p1, nar_b1]
    · simp [wI, va_up, upd, u_p2, u_p1]
  · simpa [wI, va_up, upd, u_p2, u_p1] using hz.1
  · simpa [wI, va_up, upd, m_o1, m_p2] using hz.2.1
  · unfold p_FR
    simp [wI, va_up, upd, m_o1, m_p2, u_p2, u_p1]
    exact ⟨f1, f2, f3, f4, f5, f6⟩
theorem AR_3 {c : Nat} (h : p_AR n J M a z B) (hv : p_rg v) (hp : p_rg p) (h1v : 1 ≤ v.toInt) : p_AR n (wI (wI (wI (wI (wI (u_p2 J a n) 3 3 (vp_nar .boolean 1)) 1 4 (nI c)) 1 4 (nI b)) 4 3 v) 4 4 p) (m_F3 (wI (wI (m_o1 (m_p2 M a n) 3) 47 36 (nI c)) 47 36 (nI b)) v p) b z (B ||| 8) := by
  obtain ⟨⟨h1, h2, h3, h4, h5⟩, hB, hz, f1, f2, f3, f4, f5, f6⟩ := h
  refine ⟨⟨?_, ?_, ?_, ?_, ?_⟩, ?_, ⟨?_, ?_, hz.2.2⟩, ?_⟩
  · simpa [wI, va_up, m_F3, m_o1, m_p2, u_p2, u_p1] using h1
  · simp [wI, va_up, upd]
  · simpa [wI, va_up, upd, m_F3, m_o1, m_p2, u_p2, u_p1] using h3
  · simpa [wI, va_up, upd, m_F3, m_o1, m_p2, u_p2, u_p1] using h4
  · simpa [wI, va_up, upd, m_F3, m_o1, m_p2, u_p2, u_p1] using h5
  · refine BR_seen (w := 3) hB (by omega) ?_ (or_tab B hB.2.1).2.2.2.1 (fun k hk => (bt_tab B hB.2.1 k hk).2.2.2.1) ?_ ?_ rfl ?_
    · simpa [wI, va_up, upd, m_F3, m_o1, m_p2, hB.1] using (o1_tab B hB.2.1).2.2.2.1
    · intro k hk hk2
      simp [wI, va_up, upd, u_p2, u_p1, hk2]
    · simp [wI, va_up, upd, u_p2, u_p1, nar_b1]
    · simp [wI, va_up, upd, u_p2, u_p1]
      omega
  · simpa [wI, va_up, upd, u_p2, u_p1] using hz.1
  · simpa [wI, va_up, upd, m_F3, m_o1, m_p2] using hz.2.1
  · unfold p_FR
    simp [wI, va_up, upd, m_F3, m_o1, m_p2, u_p2, u_p1]
    exact ⟨f1, f2, f3, hv, fun _ => hp, f6⟩
theorem AR_4 {c : Nat} (h : p_AR n J M a z B) (hz4 : z < 4) (hv : p_rg v) (hp : p_rg p) (h1v : 1 ≤ v.toInt) (hlo : z = 0 ∨ (J 5 (z - 1)).toInt < v.toInt) : p_AR n (wI (wI (wI (wI (wI (wI (u_p2 J a n) 3 4 (vp_nar .boolean 1)) 1 4 (nI c)) 1 4 (nI b)) 5 z v) 6 z p) 4 5 (nI (z + 1))) (m_F4 z (wI (wI (m_o1 (m_p2 M a n) 4) 47 36 (nI c)) 47 36 (nI b)) v p) b (z + 1) (B ||| 16) := by
  obtain ⟨⟨h1, h2, h3, h4, h5⟩, hB, hz, f1, f2, f3, f4, f5, f6⟩ := h
  refine ⟨⟨?_, ?_, ?_, ?_, ?_⟩, ?_, ⟨?_, ?_, by omega⟩, ?_⟩
  · simpa [wI, va_up, m_F4, m_o1, m_p2, u_p2, u_p1] using h1
  · simp [wI, va_up, upd]
  · simpa [wI, va_up, upd, m_F4, m_o1, m_p2, u_p2, u_p1] using h3
  · simpa [wI, va_up, upd, m_F4, m_o1, m_p2, u_p2, u_p1] using h4
  · simpa [wI, va_up, upd, m_F4, m_o1, m_p2, u_p2, u_p1] using h5
  · refine BR_seen (w := 4) hB (by omega) ?_ (or_tab B hB.2.1).2.2.2.2.1 (fun k hk => (bt_tab B hB.2.1 k hk).2.2.2.2.1) ?_ ?_ ?_ ?_
    · simpa [wI, va_up, upd, m_F4, m_o1, m_p2, hB.1] using (o1_tab B hB.2.1).2.2.2.2.1
    · intro k hk hk2
      simp [wI, va_up, upd, u_p2, u_p1, hk2]
    · simp [wI, va_up, upd, u_p2, u_p1, nar_b1]
    · simp
    · simp [wI, va_up, upd, u_p2, u_p1]
  · simp [wI, va_up, upd, u_p2, u_p1]
  · simp [wI, va_up, upd, m_F4, m_o1, m_p2]
  · unfold p_FR
    refine ⟨by simpa [wI, va_up, upd, m_F4, m_o1, m_p2, u_p2, u_p1] using f1, by simpa [wI, va_up, upd, m_F4, m_o1, m_p2, u_p2, u_p1] using f2, by simpa [wI, va_up, upd, m_F4, m_o1, m_p2, u_p2, u_p1] using f3, by simpa [wI, va_up, upd, m_F4, m_o1, m_p2, u_p2, u_p1] using f4, by simpa [wI, va_up, upd, m_F4, m_o1, m_p2, u_p2, u_p1] using f5, fun k hk => ?_⟩
    rcases Decidable.em (k = z) with q | q
    · subst q
      have e1 : ¬ k - 1 = k ∨ k = 0 := by omega
      rcases hlo with r | r
      · subst r
        simp [wI, va_up, upd, m_F4, m_o1, m_p2, u_p2, u_p1]
        exact ⟨hp, h1v, hv.2⟩
      · rcases e1 with e1 | e1
        · simp [wI, va_up, upd, m_F4, m_o1, m_p2, u_p2, u_p1, e1]
          exact ⟨hp, h1v, hv.2, Or.inr r⟩
        · subst e1
          simp [wI, va_up, upd, m_F4, m_o1, m_p2, u_p2, u_p1]
          exact ⟨hp, h1v, hv.2⟩
    · have e1 : ¬ k - 1 = z := by omega
      simp [wI, va_up, upd, m_F4, m_o1, m_p2, u_p2, u_p1, q, e1]
      exact f6 k (by omega)
end PT6
