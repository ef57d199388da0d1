/-! both sides, held together -/
section PT8
variable {J M : qJ} {a b n z s e B : Nat}
theorem rl_stop {I : qJ} (h : ¬ (I 1 6 = -2 ∧ I 3 5 = 0 ∧ ¬ 60 < I 1 5)) : ∀ j, u_rl n j I = I
  | 0 => rfl
  | j + 1 => by rw [u_rl, if_neg h]
theorem rd_eq (hn : n ≤ 60) : ∀ (j j' : Nat) (J M : qJ) (a z B : Nat), p_AR n J M a z B → M 47 36 = nI a → a ≤ n → B.testBit 5 = false → n - a < j → n - a < j' → (∃ p, J 1 5 = nI p ∧ p ≤ a) →
    (¬ u_rl n j J 1 6 = -2 ∧ (m_rl n j' M).1 = 0) ∨ (u_rl n j J 1 6 = -2 ∧ (m_rl n j' M).1 = 1 ∧ p_FIN (u_rl n j J) (m_rl n j' M).2)
  | 0, _, _, _, _, _, _, _, _, _, _, h, _, _ => absurd h (by omega)
  | _ + 1, 0, _, _, _, _, _, _, _, _, _, _, h, _ => absurd h (by omega)
  | j + 1, j' + 1, J, M, a, z, B, hA, hM, ha, h5, hj, hj', ⟨p, hp, hp2⟩ => by
    have hc : J 1 6 = -2 ∧ J 3 5 = 0 ∧ ¬ 60 < J 1 5 := ⟨hA.1.2.2.2.1, (hA.2.1.2.2.1 5 (by omega) (by omega)).mpr h5, by rw [hp]; exact fun q => absurd ((nI_ltI (a := 60) (b := p) (by omega) (by omega)).mp q) (by omega)⟩
    have hao : aof J = a := by unfold aof; rw [hA.1.2.1]; exact nI_clamp (by omega)
    have hto : tof J = z := by unfold tof; rw [hA.2.2.1.1]; exact nI_clamp (by have := hA.2.2.1.2.2; omega)
    have hma : maof M = a := maof_of hM (by omega)
    have hmt : mtof M = z := mtof_of hA.2.2.1.2.1 hA.2.2.1.2.2
    rw [u_rl, if_pos hc, m_rl, u_stp, hao, hto, hma, hmt]
    have h15 : u_part J a n z 1 5 = J 1 5 := (rok_part hn hA.1.2.1 ha hA.2.2.1.1 hA.2.2.1.2.2).2.2.1
    rcases p_step hA ha hn h5 with ⟨q1, M', q2⟩ | ⟨q1, q2, M', q3, q4⟩ | ⟨b, z2, B2, M', q1, q2, q3, q4, q5, q6⟩
    · left
      have e : wI (u_part J a n z) 1 5 (u_part J a n z 1 5 + 1) 1 6 = u_part J a n z 1 6 := wI_ne (by omega)
      rw [rl_stop (by rw [e]; exact fun r => q1 r.1), e, show m_rs n (m_rl n j') (m_part M a n z) = _ from q2 (m_rl n j')]
      exact ⟨q1, rfl⟩
    · right
      have e : wI (u_part J a n z) 1 5 (u_part J a n z 1 5 + 1) 1 6 = u_part J a n z 1 6 := wI_ne (by omega)
      have e3 : wI (u_part J a n z) 1 5 (u_part J a n z 1 5 + 1) 3 5 = u_part J a n z 3 5 := wI_ne (by omega)
      rw [rl_stop (by rw [e3]; exact fun r => q2 r.2.1), e, show m_rs n (m_rl n j') (m_part M a n z) = _ from q3 (m_rl n j')]
      exact ⟨q1, rfl, q4⟩
    · rw [show m_rs n (m_rl n j') (m_part M a n z) = _ from q5 (m_rl n j')]
      exact rd_eq hn j j' _ M' b z2 B2 q6 q3 q2 q4 (by omega) (by omega) ⟨p + 1, by rw [wI_at, h15, hp, nI_1], by omega⟩
theorem AR_init (h : J 2 = M 48) (hn : M 47 4 = nI n) : p_AR n (u_ri J) (m_ri M) 0 0 0 := by
  have z0 : p_rg 0 := ⟨by decide, by decide⟩
  refine ⟨⟨?_, ?_, ?_, ?_, ?_⟩, ⟨?_, by omega, ?_, ?_, ?_⟩, ⟨?_, ?_, by omega⟩, ?_⟩
  · simpa [u_ri, m_ri, wI, va_up] using h
  · simp [u_ri, wI, va_up, upd, nI_0]
  · simp [u_ri, m_ri, wI, va_up, upd]
  · simp [u_ri, wI, va_up, upd]
  · simpa [m_ri, wI, va_up, upd] using hn
  · simp [m_ri, wI, va_up, upd, nI_0]
  · intro w hw hw4
    have e : u_ri J 3 w = 0 := by
      match w, hw with
      | 0, _ => simp [u_ri, wI, va_up, upd, nar_b0]
      | 1, _ => simp [u_ri, wI, va_up, upd, nar_b0]
      | 2, _ => simp [u_ri, wI, va_up, upd, nar_b0]
      | 3, _ => simp [u_ri, wI, va_up, upd, nar_b0]
      | 4, _ => simp [u_ri, wI, va_up, upd, nar_b0]
      | 5, _ => simp [u_ri, wI, va_up, upd, nar_b0]
    rw [e]
    simp
  · simp
  · simp [u_ri, wI, va_up, upd]
  · simp [u_ri, wI, va_up, upd, nI_0]
  · simp [m_ri, wI, va_up, upd, nI_0]
  · refine ⟨⟨?_, ?_⟩, ⟨?_, ?_⟩, ⟨?_, ?_⟩, ⟨?_, ?_⟩, ?_, fun k hk => absurd hk (by omega)⟩
    · simp [u_ri, m_ri, wI, va_up, upd]
    · simpa [u_ri, wI, va_up, upd] using z0
    · simp [u_ri, m_ri, wI, va_up, upd]
    · simpa [u_ri, wI, va_up, upd] using z0
    · simp [u_ri, m_ri, wI, va_up, upd]
    · simpa [u_ri, wI, va_up, upd] using z0
    · simp [u_ri, m_ri, wI, va_up, upd]
    · simpa [u_ri, wI, va_up, upd] using z0
    · intro q
      exfalso
      simp [u_ri, wI, va_up, upd] at q
/-- the two readers agree: refused by both, or read by both, with the same parts -/
theorem read_eq (h : J 2 = M 48) (hn : M 47 4 = nI n) (hn2 : n ≤ 60) : (¬ u_ra9 J n 1 6 = -2 ∧ (m_read M n).1 = 0) ∨ (u_ra9 J n 1 6 = -2 ∧ (m_read M n).1 = 1 ∧ p_FIN (u_ra9 J n) (m_read M n).2) :=
  rd_eq hn2 62 (n + 1) (u_ri J) (m_ri M) 0 0 0 (AR_init h hn) (by simp [m_ri, wI, va_up, upd, nI_0]) (by omega) (by decide) (by omega) (by omega) ⟨0, by simp [u_ri, wI, va_up, upd, nI_0], by omega⟩
end PT8
