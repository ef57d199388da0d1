/-! both sides, held together -/
theorem k32_48 : (48 : Int32).toInt = 48 := by decide
theorem k32_57 : (57 : Int32).toInt = 57 := by decide
theorem k64_48 : (48 : Int64).toInt = 48 := by decide
theorem k64_57 : (57 : Int64).toInt = 57 := by decide
theorem isd_iff (c : Int32) : u_isd c = true ↔ 48 ≤ c.toInt ∧ c.toInt ≤ 57 := by
  unfold u_isd
  simp only [decide_eq_true_eq, Int32.lt_iff_toInt_lt, k32_48, k32_57]
  omega
theorem isd_eq : u_isd = m_isd := by
  funext c
  unfold u_isd m_isd
  congr 1
  simp only [Int64.le_iff_toInt_le, Int32.lt_iff_toInt_lt, Int32.toInt_toInt64, k32_48, k32_57, k64_48, k64_57]
  apply propext
  omega
section RD
variable {J M : qJ} {a b n z K : Nat} {low : Int32}
theorem bl_eq (h : J 2 = M 48) : u_bl J a n = m_bl M a n := by unfold u_bl m_bl; rw [h]
theorem kd_eq (h : J 2 = M 48) : u_kd J a n = m_kd M a n := by unfold u_kd m_kd; rw [h, isd_eq]
theorem e6_eq (h : J 2 = M 48) : u_e6 J a n = m_e6 M a n := by unfold u_e6 m_e6; rw [kd_eq h, h, isd_eq]
theorem nv_eq (h : J 2 = M 48) : ∀ K, a + K ≤ n → u_nv J a K = m_nv M n a K
  | 0, _ => rfl
  | K + 1, hK => by
    rw [u_nv, m_nv, nv_eq h K (by omega), m_lc, if_neg (by omega), h, Int32.mul_comm]
    rw [Int32.sub_eq_add_neg, Int32.sub_eq_add_neg, Int32.add_assoc]
theorem nv_rng (h : ∀ k, k < K → u_isd (J 2 (a + k)) = true) (hK : K ≤ 5) : 0 ≤ (u_nv J a K).toInt ∧ (u_nv J a K).toInt < 10 ^ K := by
  induction K with
  | zero => exact ⟨by rw [u_nv]; decide, by rw [u_nv]; decide⟩
  | succ K ih =>
    obtain ⟨h1, h2⟩ := ih (fun k hk => h k (by omega)) (by omega)
    have hd := (isd_iff _).mp (h K (by omega))
    have hp : (10 : Int) ^ K ≤ 10000 := by
      match K, hK with
      | 0, _ => decide
      | 1, _ => decide
      | 2, _ => decide
      | 3, _ => decide
      | 4, _ => decide
    rw [u_nv]
    have e : (u_nv J a K * 10 + (J 2 (a + K) - 48)).toInt = (u_nv J a K).toInt * 10 + ((J 2 (a + K)).toInt - 48) := by
      rw [Int32.toInt_add, Int32.toInt_mul, Int32.toInt_sub, k32_48, show (10 : Int32).toInt = 10 by decide]
      simp only [Int.bmod_def]
      omega
    rw [e, Int.pow_succ]
    omega
/-- a number, read by both: both refuse, or both have the same -/
theorem num_eq (h : J 2 = M 48) (ha : a ≤ n) (hn : n ≤ 60) : (¬ u_rw J a n low 1 6 = -2 ∧ m_rv M a n low < 0) ∨ ∃ v b, u_rw J a n low = wI J 1 4 (nI b) ∧ u_rv J a n low = v ∧ u_ra J a n = b ∧ m_rw M a n low = wI M 47 36 (nI b) ∧ m_rv M a n low = v ∧ m_ra M a n = b ∧ a < b ∧ b ≤ n ∧ 0 ≤ v.toInt ∧ v.toInt ≤ 99999 ∧ low.toInt ≤ v.toInt := by
  have hb := u_bl_ok J ha
  have hk := u_kd_ok J (n := n) hb.2.2.2
  have e2 : ∀ (j : Nat), j ≤ 70 → ¬ nI j = -2 := fun j hj q => by
    have q2 := congrArg Int32.toInt q
    rw [nI_toInt (by omega), show (-2 : Int32).toInt = -2 by decide] at q2
    omega
  have hn2 : u_bl J a n + u_kd J (u_bl J a n) n ≤ n := hk.2.2.2.1
  unfold u_rw u_rv m_rv m_rw u_ra m_ra u_nw u_nr m_nr m_nw
  rw [← bl_eq h, ← kd_eq h, ← e6_eq h, ← nv_eq h _ hn2]
  have hdg : ∀ k, k < u_kd J (u_bl J a n) n → u_isd (J 2 (u_bl J a n + k)) = true := fun k hk2 => by
    have := hk.1 k hk2
    unfold u_dg at this
    unfold u_isd
    rw [decide_eq_true_eq]
    exact this.2
  have hr := nv_rng hdg hk.2.1
  have hp : (10 : Int) ^ u_kd J (u_bl J a n) n ≤ 100000 := by
    have := hk.2.1
    generalize u_kd J (u_bl J a n) n = K at this
    match K, this with
    | 0, _ => decide
    | 1, _ => decide
    | 2, _ => decide
    | 3, _ => decide
    | 4, _ => decide
    | 5, _ => decide
  generalize u_kd J (u_bl J a n) n = K at *
  generalize u_bl J a n = b at *
  generalize u_e6 J b n = e at *
  generalize u_nv J b K = v at *
  by_cases he : e = true
  · left
    rw [if_pos he, if_pos (Or.inr he), wI_at]
    exact ⟨e2 _ (by omega), by decide⟩
  by_cases hK : K = 0
  · left
    rw [if_neg he, if_pos (Or.inl hK), if_pos (Or.inl hK), wI_at]
    exact ⟨e2 _ (by omega), by decide⟩
  by_cases hv : v < low
  · left
    rw [if_neg he, if_pos (Or.inr hv), if_neg (by rintro (q | q); exact hK q; exact he q), if_pos hv, wI_at]
    exact ⟨e2 _ (by omega), by decide⟩
  · right
    have g1 : ¬ (K = 0 ∨ v < low) := by rintro (q | q); exact hK q; exact hv q
    have g2 : ¬ (K = 0 ∨ e = true) := by rintro (q | q); exact hK q; exact he q
    refine ⟨v, b + K, ?_, ?_, rfl, ?_, ?_, rfl, by omega, hn2, hr.1, by omega, ?_⟩
    · rw [if_neg he, if_neg g1]
    · rw [if_neg he, if_neg g1]
    · rw [if_neg g2, if_neg hv]
    · rw [if_neg g2, if_neg hv]
    · rw [Int32.lt_iff_toInt_lt] at hv
      omega
end RD
