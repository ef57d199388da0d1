/-! both sides, held together -/
section PT15
variable {J M J' M' : qJ} {K N K' N' : rLg} {c z zp T t F G D ne : Nat} {w d : Int32}
theorem wL_c9 {L : rLg} {k j a : Nat} {v : Int64} (h : a ≠ k) : wL L k j v a = L a := by simp [wL, va_up, h]
theorem wL_self {L : rLg} {k j : Nat} {v : Int64} (h : L k j = v) : wL L k j v = L := by
  funext a b
  rcases Decidable.em (a = k ∧ b = j) with ⟨r1, r2⟩ | r
  · subst r1; subst r2
    rw [wL_at9, h]
  · exact wL_ne9 (by omega)
/-- what paying out of credit comes to after k invoices -/
def r_SP (J M : qJ) (K N : rLg) (c : Nat) (cr : Int64) (p : Int64 × rLg) (s : Int32 × rLg) : Prop :=
  p.1 = s.2 61 c ∧ (∀ a, a ≠ 19 → p.2 a = K a) ∧ (∀ a, a ≠ 61 → a ≠ 71 → s.2 a = N a) ∧ (∀ c', c' ≠ c → s.2 61 c' = N 61 c') ∧ r_RI J M p.2 s.2 ∧ ((s.1 = 0 ∧ p.1 = cr) ∨ (s.1 = 1 ∧ 0 ≤ p.1.toInt ∧ p.1.toInt < cr.toInt))
theorem po_eq (h : r_RR J M K N) (hc : c < 5) : ∀ k, r_SP J M K N c (K (37 + 2 * c) 4) (u_po J K (nI c) (K (37 + 2 * c) 4) k) (m_se M N c k)
  | 0 => ⟨(h.2.2.2.1 c hc).2.2.2.1, fun _ _ => rfl, fun _ _ _ => rfl, fun _ _ => rfl, h.2.2.2.2.2.2.1, Or.inl ⟨rfl, rfl⟩⟩
  | k + 1 => by
    have ih := po_eq h hc k
    rw [u_po, m_se]
    generalize u_po J K (nI c) (K (37 + 2 * c) 4) k = p at *
    generalize m_se M N c k = s at *
    obtain ⟨h1, h2, h3, h4, h5, h6⟩ := id ih
    obtain ⟨g1, g2, g3, g4, g5, g6, g7⟩ := id h5
    rw [← h1]
    by_cases q : p.1 ≤ 0
    · rw [if_pos q, if_pos q]
      exact ih
    rw [if_neg q, if_neg q]
    have q0 : 0 < p.1.toInt := by
      rw [Int64.le_iff_toInt_le, k64_z] at q
      omega
    by_cases r : J 15 k = nI c
    · rw [if_pos r, if_pos (by rw [← g2]; exact r), ← g5, ← g6]
      /- what is not yet paid -/
      have hdif : (p.2 17 k - p.2 19 k).toInt = (p.2 17 k).toInt - (p.2 19 k).toInt ∧ 0 ≤ (p.2 17 k).toInt - (p.2 19 k).toInt ∧ ((p.2 17 k).toInt - (p.2 19 k).toInt = 0 ∨ 0 ≤ (p.2 19 k).toInt) := by
        rcases g7 k with ⟨a1, a2⟩ | a
        · have := (p.2 17 k).toInt_lt
          rw [Int64.toInt_sub, Int.bmod_def]
          omega
        · rw [a, Int64.sub_self]
          have : (p.2 17 k).toInt - (p.2 17 k).toInt = 0 := by omega
          rw [this]
          exact ⟨by decide, by omega, Or.inl rfl⟩
      obtain ⟨d1, d2, d3⟩ := hdif
      by_cases u : p.2 17 k - p.2 19 k ≤ 0
      · -- nothing is wanting
        rw [if_pos u]
        rw [Int64.le_iff_toInt_le, k64_z, d1] at u
        have e0 : p.2 17 k - p.2 19 k = 0 := Int64.toInt_inj.mp (by rw [d1, k64_z]; omega)
        have em : qmminl p.1 (p.2 17 k - p.2 19 k) = 0 := by
          unfold qmminl
          rw [e0, if_pos (by rw [Int64.lt_iff_toInt_lt, k64_z]; exact q0)]
        rw [em, Int64.sub_zero, Int64.add_zero, wL_self rfl]
        exact ih
      · rw [if_neg u]
        rw [Int64.le_iff_toInt_le, k64_z, d1] at u
        have em : (if p.2 17 k - p.2 19 k < p.1 then p.2 17 k - p.2 19 k else p.1) = qmminl p.1 (p.2 17 k - p.2 19 k) := rfl
        rw [em]
        have hm : (qmminl p.1 (p.2 17 k - p.2 19 k)).toInt ≤ p.1.toInt ∧ (qmminl p.1 (p.2 17 k - p.2 19 k)).toInt ≤ (p.2 17 k).toInt - (p.2 19 k).toInt ∧ 0 < (qmminl p.1 (p.2 17 k - p.2 19 k)).toInt := by
          unfold qmminl
          split
          · rename_i v
            rw [Int64.lt_iff_toInt_lt, d1] at v
            rw [d1]
            omega
          · rename_i v
            rw [Int64.lt_iff_toInt_lt, d1] at v
            omega
        generalize qmminl p.1 (p.2 17 k - p.2 19 k) = m at *
        have hs : (p.1 - m).toInt = p.1.toInt - m.toInt := by
          have := p.1.toInt_lt
          rw [Int64.toInt_sub, Int.bmod_def]
          omega
        have ha : (p.2 19 k + m).toInt = (p.2 19 k).toInt + m.toInt := by
          have := (p.2 17 k).toInt_lt
          have := (p.2 19 k).le_toInt
          rw [Int64.toInt_add, Int.bmod_def]
          omega
        refine ⟨?_, ?_, ?_, ?_, ⟨g1, g2, g3, g4, ?_, ?_, ?_⟩, Or.inr ⟨rfl, ?_, ?_⟩⟩
        · dsimp only
          rw [wL_at9]
        · intro a h19
          dsimp only
          rw [wL_c9 h19]
          exact h2 a h19
        · intro a h61 h71
          dsimp only
          rw [wL_c9 h61, wL_c9 h71]
          exact h3 a h61 h71
        · intro c' hc'
          dsimp only
          rw [wL_ne9 (Or.inr hc'), wL_ne9 (by omega)]
          exact h4 c' hc'
        · dsimp only
          rw [wL_c9 (by decide), wL_c9 (by decide), wL_c9 (by decide)]
          exact g5
        · dsimp only
          rw [wL_c9 (show 71 ≠ 61 by decide)]
          funext b
          rcases Decidable.em (b = k) with v | v
          · subst v
            rw [wL_at9, wL_at9]
          · rw [wL_ne9 (Or.inr v), wL_ne9 (Or.inr v), g6]
        · intro b
          dsimp only
          rw [wL_c9 (show 17 ≠ 19 by decide)]
          rcases Decidable.em (b = k) with v | v
          · subst v
            rw [wL_at9, ha]
            left
            omega
          · rw [wL_ne9 (Or.inr v)]
            exact g7 b
        · show 0 ≤ (p.1 - m).toInt
          omega
        · show (p.1 - m).toInt < _
          rcases h6 with ⟨-, v⟩ | ⟨-, -, v⟩
          · rw [v] at hs ⊢
            rw [v] at hm
            omega
          · omega
    · rw [if_neg r, if_neg (by rw [← g2]; exact r)]
      exact ih
theorem RR_spend (h : r_RR J M K N) (hc : c < 5) : r_RR (u_spend J K c z).1 (m_setI M N c z) (u_spend J K c z).2 (m_setL M N c z) := by
  have hp := po_eq h hc z
  unfold u_spend m_setI m_setL u_spL
  generalize u_po J K (nI c) (K (37 + 2 * c) 4) z = p at *
  generalize m_se M N c z = s at *
  obtain ⟨h1, h2, h3, h4, h5, h6⟩ := hp
  obtain ⟨⟨r1, r2⟩, r3, r4, r5, r6, r7, r8, r9⟩ := id h
  /- the state behind the payments, credit as the reference has it -/
  have base : ∀ K'' : rLg, (∀ a, a ≠ 37 + 2 * c → K'' a = p.2 a) → K'' (37 + 2 * c) 4 = p.1 → r_RR J M K'' s.2 := by
    intro K'' k1 k2
    refine ⟨⟨r1, ?_⟩, r3, r4, fun c' hc' => ?_, r6, r7, ?_, ?_⟩
    · rw [k1 _ (by omega), h2 _ (by omega), h3 _ (by omega) (by omega)]; exact r2
    · rcases Decidable.em (c' = c) with v | v
      · subst v
        obtain ⟨c1, c2, c3, c4, c5, c6⟩ := r5 c' hc'
        exact ⟨c1, c2, c3, by rw [k2, h1], c5, c6⟩
      · exact RC_congr hc' (r5 c' hc') rfl (fun _ _ _ => rfl) (by rw [k1 _ (by omega), h2 _ (by omega)]) (h4 c' v)
    · exact RI_congr h5 rfl rfl rfl rfl (fun _ _ _ => rfl) rfl (k1 _ (by omega)) (k1 _ (by omega)) rfl rfl
    · exact RP_congr r9 (fun _ _ _ => rfl) rfl (fun _ _ _ => rfl) rfl (by rw [k1 _ (by omega), h2 _ (by omega)]) (h3 _ (by omega) (by omega))
  rcases h6 with ⟨s0, e⟩ | ⟨s1, e1, e2⟩
  · rw [if_pos s0, e, Int64.sub_self, if_pos (by decide)]
    exact base p.2 (fun _ _ => rfl) (by rw [h2 _ (by omega), e])
  · have hlt : (K (37 + 2 * c) 4 - p.1).toInt = (K (37 + 2 * c) 4).toInt - p.1.toInt := by
      have := (K (37 + 2 * c) 4).toInt_lt
      rw [Int64.toInt_sub, Int.bmod_def]
      omega
    rw [if_neg (show ¬ s.1 = 0 by rw [s1]; decide), if_neg (show ¬ K (37 + 2 * c) 4 - p.1 ≤ 0 by rw [Int64.le_iff_toInt_le, k64_z, hlt]; omega)]
    have ek : p.2 (37 + 2 * c) 4 + -(K (37 + 2 * c) 4 - p.1) = p.1 := by
      rw [h2 _ (by omega), Int64.neg_sub, Int64.sub_eq_add_neg]
      rw [← Int64.add_assoc, Int64.add_comm, ← Int64.add_assoc, Int64.add_left_neg, Int64.zero_add]
    rw [ek]
    exact RR_ls (base _ (fun a ha => wL_c9 ha) (wL_at9 _ _ _ _)) hc
end PT15
