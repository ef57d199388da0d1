/-! what each method writes at most: all other places stay as they were -/
section FRM
variable {J : qJ} {L : Nat → Nat → Int64} {k j c z n t q : Nat} {d : Int32}
theorem fr_look (h : k ≠ q ∨ (j ≠ 2 ∧ j ≠ 3)) : u_look J q d k j = J k j := by
  have h2 : k ≠ q ∨ j ≠ 2 := h.imp id And.left
  have h3 : k ≠ q ∨ j ≠ 3 := h.imp id And.right
  unfold u_look
  rw [wI_ne h3]
  unfold u_look2
  split
  · rw [wI_ne h2]
    unfold u_look1
    split
    · rw [wI_ne h2]
    · rfl
  · unfold u_look1
    split
    · rw [wI_ne h2]
    · rfl
theorem fr_keep {q2 : Nat} (h : k ≠ q2) : u_keep J q q2 d k j = J k j := by
  unfold u_keep
  split
  · rfl
  split
  · rfl
  · rw [wI_ne (Or.inl h)]
theorem fr_kps (h : k < 37 ∨ k % 2 = 1 ∨ 47 ≤ k) : ∀ c, c ≤ 5 → u_kps J c k j = J k j
  | 0, _ => rfl
  | c + 1, hc => by rw [u_kps, fr_keep (by omega), fr_kps h c (by omega)]
theorem fr_lks (h : k < 37 ∨ k % 2 = 0 ∨ 47 ≤ k ∨ (j ≠ 2 ∧ j ≠ 3)) : ∀ c, c ≤ 5 → u_lks J L z c k j = J k j
  | 0, _ => rfl
  | c + 1, hc => by rw [u_lks, u_ls, fr_look (by omega), fr_lks h c (by omega)]
theorem fr_pass (h : (k < 37 ∨ 47 ≤ k ∨ (k % 2 = 1 ∧ j ≠ 2 ∧ j ≠ 3)) ∧ (k ≠ 0 ∨ j ≠ 9)) : u_pass J L z k j = J k j := by
  unfold u_pass
  rw [fr_lks (by omega) 5 (Nat.le_refl _), wI_ne h.2, fr_kps (by omega) 5 (Nat.le_refl _)]
theorem fr_tk (h : (k < 37 ∨ 47 ≤ k ∨ (k % 2 = 1 ∧ j ≠ 2 ∧ j ≠ 3)) ∧ (k ≠ 0 ∨ j ≠ 9)) : ∀ i, u_tk J L z i k j = J k j
  | 0 => rfl
  | i + 1 => by rw [u_tk, fr_pass h, fr_tk h i]
theorem fr_spend (h : k ≠ 37 + 2 * c ∨ (j ≠ 2 ∧ j ≠ 3)) : (u_spend J L c z).1 k j = J k j := by
  unfold u_spend
  split
  · rfl
  · exact fr_look h
theorem fr_cd {F T : Nat} (h : k ≠ 26) : ∀ i, u_cd J c F T i k j = J k j
  | 0 => by rw [u_cd, u_z26, wI_ne (Or.inl h), wI_ne (Or.inl h), wI_ne (Or.inl h)]
  | i + 1 => by
    rw [u_cd]
    split
    · exact fr_cd h i
    · rw [wI_ne (Or.inl h)]
      exact fr_cd h i
theorem fr_id {P F G T M ne : Nat} (h : k ≠ 26 ∧ k ≠ 15 ∧ k ≠ 16 ∧ k ≠ 18 ∧ (k ≠ 14 ∨ j ≠ 5) ∧ (k ≠ 37 + 2 * c ∨ (j ≠ 2 ∧ j ≠ 3))) : (u_id J L c P F G T M ne z).1 k j = J k j := by
  unfold u_id
  split
  · rfl
  split
  · exact fr_cd h.1 M
  · rw [fr_spend h.2.2.2.2.2, u_id2I, wI_ne h.2.2.2.2.1, wI_ne (Or.inl h.2.2.2.1), wI_ne (Or.inl h.2.2.1), wI_ne (Or.inl h.2.1), fr_cd h.1]
theorem fr_rp {FD : Nat → Nat} {T ne : Nat} {s : qIL} (h : k ≠ 26 ∧ k ≠ 15 ∧ k ≠ 16 ∧ k ≠ 18 ∧ (k ≠ 14 ∨ j ≠ 5) ∧ (k ≠ 37 + 2 * c ∨ (j ≠ 2 ∧ j ≠ 3))) : ∀ P, (u_rp FD T ne c s P).1 k j = s.1 k j
  | 0 => rfl
  | P + 1 => by
    rw [u_rp, u_r1]
    exact (fr_id h).trans (fr_rp h P)
theorem fr_rc {FD : Nat → Nat} {T ne pe : Nat} {s : qIL} (h : k ≠ 26 ∧ k ≠ 15 ∧ k ≠ 16 ∧ k ≠ 18 ∧ (k ≠ 14 ∨ j ≠ 5) ∧ (k < 37 ∨ 47 ≤ k ∨ k % 2 = 0 ∨ (j ≠ 2 ∧ j ≠ 3))) : ∀ c, c ≤ 5 → (u_rc FD T ne pe s c).1 k j = s.1 k j
  | 0, _ => rfl
  | c + 1, hc => by
    rw [u_rc]
    exact (fr_rp (by omega) pe).trans (fr_rc h c (by omega))
theorem fr_ap {w : Int64} (h : k ≠ 2 ∧ (k ≠ 1 ∨ j ≠ 3)) : ∀ i, u_ap J w n i k j = J k j
  | 0 => rfl
  | i + 1 => by
    rw [u_ap]
    split
    · exact fr_ap h i
    · rw [wI_ne h.2, wI_ne (Or.inl h.1)]
      exact fr_ap h i
theorem fr_rl (hn2 : n ≤ 60) (h : k ≠ 1 ∧ k ≠ 3 ∧ k ≠ 4 ∧ k ≠ 5 ∧ k ≠ 6) : ∀ (i : Nat) (J : qJ), rok n J J → u_rl n i J k j = J k j
  | 0, J, _ => rfl
  | i + 1, J, hr => by
    rw [u_rl]
    split
    · have hs := rok_stp hn2 hr
      rw [fr_rl hn2 h i (u_stp J n) ⟨hs.1, rfl, rfl, hs.2.2.2.1, fun _ _ _ _ _ _ => rfl⟩, hs.2.2.2.2 k h.1 h.2.1 h.2.2.1 h.2.2.2.1 h.2.2.2.2]
    · rfl
theorem fr_ra9 (hn2 : n ≤ 60) (h : k ≠ 1 ∧ k ≠ 3 ∧ k ≠ 4 ∧ k ≠ 5 ∧ k ≠ 6) : u_ra9 J n k j = J k j := by
  unfold u_ra9
  rw [fr_rl hn2 h 62 (u_ri J) ⟨⟨0, Nat.zero_le _, by simp [u_ri, wI, va_up, upd, nI_0]⟩, rfl, rfl, ⟨0, by omega, by simp [u_ri, wI, va_up, upd, nI_0]⟩, fun _ _ _ _ _ _ => rfl⟩]
  unfold u_ri
  repeat (rw [wI_ne (by omega)])
theorem fr_tr (hn2 : n ≤ 60) (ht : t < 3) (h : k = 0 ∨ k = 2 ∨ (7 ≤ k ∧ k < 28) ∨ 36 < k) : u_tr J n t k j = J k j := by
  unfold u_tr
  rw [wI_ne (by omega), u_cp_c (by omega) (by omega) (by omega), fr_ra9 hn2 (by omega)]
/-- the reference's -/
theorem fm_tk {T : Nat} (h : k ≠ 59 ∧ k ≠ 60 ∧ k ≠ 62 ∧ (k ≠ 47 ∨ j ≠ 2)) : ∀ i, m_tk J L z T i k j = J k j
  | 0 => rfl
  | i + 1 => by rw [m_tk, m_day, m_lks_ne h.1 h.2.1, wI_ne h.2.2.2, m_was_ne h.2.2.1, fm_tk h i]
theorem fm_rp {T ne : Nat} {s : qIM} (h : k ≠ 59 ∧ k ≠ 60 ∧ k ≠ 67 ∧ k ≠ 68 ∧ k ≠ 69 ∧ (k ≠ 47 ∨ j ≠ 29)) : ∀ P, (m_rp T ne c s P).1 k j = s.1 k j
  | 0 => rfl
  | P + 1 => by
    rw [m_rp]
    exact (m_r1_ne h.1 h.2.1 h.2.2.1 h.2.2.2.1 h.2.2.2.2.1 h.2.2.2.2.2).trans (fm_rp h P)
theorem fm_rc {T ne pe : Nat} {s : qIM} (h : k ≠ 59 ∧ k ≠ 60 ∧ k ≠ 67 ∧ k ≠ 68 ∧ k ≠ 69 ∧ (k ≠ 47 ∨ j ≠ 29)) : ∀ c, (m_rc T ne pe s c).1 k j = s.1 k j
  | 0 => rfl
  | c + 1 => by
    rw [m_rc]
    exact (fm_rp h pe).trans (fm_rc h c)
theorem fm_ap {w : Int64} (h : k ≠ 48 ∧ (k ≠ 47 ∨ j ≠ 4)) : ∀ i, m_ap J w n i k j = J k j
  | 0 => rfl
  | i + 1 => by
    rw [m_ap]
    split
    · exact fm_ap h i
    · rw [wI_ne h.2, wI_ne (Or.inl h.1)]
      exact fm_ap h i
theorem fm_rl (hn2 : n ≤ 60) (h : mfr k j) : ∀ (i : Nat) (J : qJ) (a z : Nat), J 47 36 = nI a → a ≤ n → z ≤ 4 → J 54 3 = nI z → J 47 4 = nI n → (m_rl n i J).2 k j = J k j
  | 0, J, a, z, _, _, _, _, _ => rfl
  | i + 1, J, a, z, ha, ha2, hz2, hz, hn => by
    obtain ⟨⟨b, hb1, hb2, hb3⟩, ⟨z2, hz3, hz4⟩, hf⟩ := mrok_part ha ha2 hz hz2
    have hn3 : (m_part J a n z).2 47 4 = nI n := (hf 47 4 (by unfold mfr; omega)).trans hn
    rw [m_rl, maof_of ha (by omega), mtof_of hz hz2, m_rs]
    split
    · exact hf k j h
    split
    · exact hf k j h
    split
    · exact (wI_ne (by unfold mfr at h; omega)).trans (hf k j h)
    · rename_i g
      have hbn : b < n := by
        rcases Nat.lt_or_ge b n with q | q
        · exact q
        · exfalso
          apply g
          right
          rw [maof_of hb3 (by omega), m_lc, if_pos q]
          decide
      rw [fm_rl hn2 h i _ (b + 1) z2 (by rw [wI_at, hb3, nI_1]) (by omega) hz3 ((wI_ne (by omega)).trans hz4) ((wI_ne (by omega)).trans hn3), wI_ne (by unfold mfr at h; omega)]
      exact hf k j h
theorem fm_read (hn : J 47 4 = nI n) (hn2 : n ≤ 60) (h : mfr k j) : (m_read J n).2 k j = J k j := by
  unfold m_read
  rw [fm_rl hn2 h (n + 1) (m_ri J) 0 0 (by simp [m_ri, wI, va_up, upd, nI_0]) (Nat.zero_le _) (by omega) (by simp [m_ri, wI, va_up, upd, nI_0]) (by simp [m_ri, wI, va_up, upd, hn])]
  unfold mfr at h
  unfold m_ri
  repeat (rw [wI_ne (by omega)])
theorem fm_tf (hn : J 47 4 = nI n) (hn2 : n ≤ 60) (t : Int32) (h : k < 47 ∨ 57 < k ∨ k = 48 ∨ (k = 47 ∧ j ≠ 0 ∧ j ≠ 1 ∧ j ≠ 4 ∧ j ≠ 36 ∧ j ≠ 37 ∧ j ≠ 38)) : (m_tf J n t).2 k j = J k j := by
  have h2 : (m_read (wI J 47 1 (-2)) n).2 k j = J k j := (fm_read ((wI_ne (by omega)).trans hn) hn2 (by unfold mfr; omega)).trans (wI_ne (by omega))
  unfold m_tf
  split
  · split
    · exact (wI_ne (by omega)).trans h2
    · show m_cp _ _ k j = _
      unfold m_cp m_cB m_cA m_c2 m_c1
      repeat (rw [wI_ne (by omega)])
      exact h2
  · exact (wI_ne (by omega)).trans (wI_ne (by omega))
end FRM
