/-! date: the two answers are one -/
section PH
variable {l : Launch} {b Ln : Nat} {xs : Nat → Int32} {E : qE} {X : qXC}
theorem in_date (d : Int32) : (0 ≤ Int32.toInt64 d ∧ Int32.toInt64 d ≤ 100000) ↔ ¬ (d < 0 ∨ 100000 < d) := by
  simp only [Int64.le_iff_toInt_le, Int32.lt_iff_toInt_lt, Int32.toInt_toInt64, k64_0, k64_100000, k32_0, k32_100000]
  omega
theorem in_3 (w : Int32) : (0 ≤ Int32.toInt64 w ∧ Int32.toInt64 w ≤ 3) ↔ (w = 0 ∨ w = 1 ∨ w = 2 ∨ w = 3) := by
  rw [in_W (n := 3) (by decide) k64_3]
  constructor
  · rintro ⟨k, hk, rfl⟩
    match k, hk with
    | 0, _ => exact Or.inl rfl
    | 1, _ => exact Or.inr (Or.inl rfl)
    | 2, _ => exact Or.inr (Or.inr (Or.inl rfl))
    | 3, _ => exact Or.inr (Or.inr (Or.inr rfl))
  · rintro (rfl | rfl | rfl | rfl)
    · exact ⟨0, by omega, rfl⟩
    · exact ⟨1, by omega, rfl⟩
    · exact ⟨2, by omega, rfl⟩
    · exact ⟨3, by omega, rfl⟩
/-- the month of a day -/
theorem day_at {d : Int32} (h : ¬ (d < 0 ∨ 100000 < d)) : ∃ D P, D ≤ 100000 ∧ d = nI D ∧ P < 3600 ∧ nf P ≤ D ∧ D < nf (P + 1) := by
  have h1 : ¬ d < 0 := fun q => h (Or.inl q)
  have h2 : ¬ 100000 < d := fun q => h (Or.inr q)
  obtain ⟨D, hD, rfl⟩ := nI_of h1
  have h3 : ¬ nI 100000 < nI D := h2
  rw [nI_ltI (by decide) hD] at h3
  have h4 := nf_28 3600
  obtain ⟨P, h5, h6⟩ := nf_find (D := D) 3600 (by omega)
  exact ⟨D, P, by omega, rfl, h5, h6⟩
theorem nd_le (k : Nat) : nd k ≤ 31 := by
  have := nlp_le (k / 12)
  unfold nd nmo
  split
  · omega
  · split <;> omega
theorem date_u {D P : Nat} (hD : D ≤ 100000) (hP : P < 3600) (h1 : nf P ≤ D) (h2 : D < nf (P + 1)) :
    (2000 + nI D / 366 = nI (2000 + D / 366)) ∧ (2000 + D / 366 ≤ 2000 + P / 12) ∧ (2000 + P / 12 ≤ 2400) ∧ (∀ y, 2000 + D / 366 ≤ y → y < 2000 + P / 12 → u_fdy (nI y + 1) ≤ nI D) ∧ (2000 + P / 12 < 2400 → ¬ u_fdy (nI (2000 + P / 12) + 1) ≤ nI D) ∧ (P % 12 ≤ 11) ∧ (∀ k, k < P % 12 → u_dim (nI (2000 + P / 12)) (nI (k + 1)) ≤ u_lf (nI D - u_fdy (nI (2000 + P / 12))) (nI (2000 + P / 12)) k) ∧ (P % 12 < 11 → ¬ u_dim (nI (2000 + P / 12)) (nI (P % 12 + 1)) ≤ u_lf (nI D - u_fdy (nI (2000 + P / 12))) (nI (2000 + P / 12)) (P % 12)) ∧ ((nI (2000 + P / 12) - 2000) * 12 + nI (P % 12 + 1) - 1 = nI P) ∧ ((nI P - nI P / 12 * 12) + 1 = nI (P % 12 + 1)) := by
  have hq : P / 12 < 400 := by omega
  have hPm : 12 * (P / 12) + P % 12 = P := by omega
  have hnd := nd_pos P
  have hnd2 := nd_le P
  have hs : nf (P + 1) = nf P + nd P := rfl
  have hlow : nf (12 * (P / 12)) ≤ D := Nat.le_trans (nf_mono (by omega)) h1
  have hup : D < nf (12 * (P / 12 + 1)) := Nat.lt_of_lt_of_le h2 (nf_mono (by omega))
  have hu := nf_366 (P / 12 + 1)
  have e0 : nI D - u_fdy (nI (2000 + P / 12)) = nI (D - nf (12 * (P / 12))) := by
    rw [u_fdy_n _ (by omega), nI_sub hlow]
  have e1 : nI P / 12 = nI (P / 12) := nI_div (b := 12) (by omega) (by decide)
  refine ⟨?_, by omega, by omega, fun y hy1 hy2 => ?_, fun _ => ?_, by omega, fun k hk => ?_, fun _ => ?_, ?_, ?_⟩
  · have : nI D / 366 = nI (D / 366) := nI_div (b := 366) (by omega) (by decide)
    rw [this]
    show nI 2000 + nI (D / 366) = _
    rw [nI_add]
  · obtain ⟨r, rfl⟩ : ∃ r, y = 2000 + r := ⟨y - 2000, by omega⟩
    have e2 : nI (2000 + r) + 1 = nI (2000 + (r + 1)) := nI_1 (2000 + r)
    rw [e2, u_fdy_n (r + 1) (by omega)]
    have h3 : nf (12 * (r + 1)) ≤ D := Nat.le_trans (nf_mono (by omega)) h1
    exact (nI_leI (by omega) (by omega)).mpr h3
  · have e2 : nI (2000 + P / 12) + 1 = nI (2000 + (P / 12 + 1)) := nI_1 (2000 + P / 12)
    have hb : nf (12 * (P / 12 + 1)) ≤ 366 * (P / 12 + 1) := hu
    rw [e2, u_fdy_n (P / 12 + 1) (by omega), nI_leI (by omega) (by omega)]
    omega
  · have h3 : nf (12 * (P / 12) + (k + 1)) ≤ D := Nat.le_trans (nf_mono (by omega)) h1
    have h4 : nf (12 * (P / 12) + (k + 1)) = nf (12 * (P / 12) + k) + nd (12 * (P / 12) + k) := rfl
    rw [e0, u_lf_n hq k (by omega) (by omega), u_dim_n hq (by omega), ← nd_12 (P / 12) k (by omega), nI_leI (by omega) (by omega)]
    omega
  · rw [e0, u_lf_n hq (P % 12) (by omega) (by rw [hPm]; exact h1), u_dim_n hq (by omega), ← nd_12 (P / 12) (P % 12) (by omega), hPm, nI_leI (by omega) (by omega)]
    omega
  · have e2 : nI (2000 + P / 12) - 2000 = nI (P / 12) := by
      show nI (2000 + P / 12) - nI 2000 = _
      rw [nI_sub (by omega), show 2000 + P / 12 - 2000 = P / 12 by omega]
    rw [e2]
    show nI (P / 12) * nI 12 + nI (P % 12 + 1) - nI 1 = _
    rw [nI_mul, nI_add, nI_sub (by omega)]
    congr 1
    omega
  · rw [e1]
    show nI P - nI (P / 12) * nI 12 + nI 1 = _
    rw [nI_mul, nI_sub (by omega), nI_add]
    congr 1
    omega
theorem date_m {D P : Nat} (hD : D ≤ 100000) (hP : P < 3600) (h1 : nf P ≤ D) (h2 : D < nf (P + 1)) : (∀ k, k < P → m_days (nI k) ≤ m_left (nI D) k) ∧ m_left (nI D) P < m_days (nI P) := by
  have hs : nf (P + 1) = nf P + nd P := rfl
  have h9 := nf_28 0
  have hb : ∀ k, nd k ≤ 31 := fun k => by
    have := nlp_le (k / 12)
    unfold nd nmo
    split
    · omega
    · split <;> omega
  refine ⟨fun k hk => ?_, ?_⟩
  · have h3 : nf (k + 1) ≤ D := Nat.le_trans (nf_mono (by omega)) h1
    have h4 : nf (k + 1) = nf k + nd k := rfl
    have := hb k
    rw [m_left_n k (by omega) (by omega), m_days_n (by omega), nI_leI (by omega) (by omega)]
    omega
  · have := hb P
    rw [m_left_n P (by omega) h1, m_days_n (by omega), nI_ltI (by omega) (by omega)]
    omega
theorem f_date (hfl : l.flags = pinnedFlags ++ [noTraceFlag]) (hL : 5 ≤ Ln) (hLn : Ln < 2 ^ 31) (kk : kkT l b Ln xs E X) : qR (qKL l b Ln xs) E X 1131 (lwV 0) [] 77 77 5632 (fm I0 L0) := by
  by_cases hd : xs (0 + 1) < 0 ∨ 100000 < xs (0 + 1)
  · refine lc_date (a := 0) hL hLn (by omega) (by omega) (fun _ _ => True) (w_date (qSp2_of hfl (by decide +kernel) (Nat.le_of_ble_eq_true rfl) (by omega) (r_bf_date l false I0 L0 (xs (0 + 1)) (xs (0 + 2)) 0 0 0 (fun h => absurd hd h))) (fun En h => h.1)) ?_ (fun I2 L2 _ => kk I2 L2)
    revert hd
    generalize xs (0 + 1) = d
    generalize xs (0 + 2) = w
    intro hd
    rintro v n f ⟨rfl, h⟩
    rcases h with ⟨⟨hc1, -⟩, rfl, rfl⟩ | ⟨q, hq, ⟨-, hp⟩, rfl, rfl⟩
    · exact absurd hd hc1
    · simp only [List.mem_cons, List.not_mem_nil, or_false] at hq
      subst hq
      refine ⟨_, _, _, _, _, _, rfl, rfl, rfl, s_md_date l false _ _ d w 0 (fun h => absurd hd ((in_date d).mp h.1)), ?_, fun h => absurd h (by decide), trivial⟩
      rw [if_neg (fun h => absurd hd ((in_date d).mp h.1))]
      exact wI_at _ _ _ _
  · obtain ⟨D, P, hD, hdD, hP, h1, h2⟩ := day_at hd
    obtain ⟨g1, g2, g3, g4, g5, g6, g7, g8, g9, g10⟩ := date_u hD hP h1 h2
    have hq : P / 12 < 400 := by omega
    refine lc_date (a := 0) hL hLn (by omega) (by omega) (fun _ _ => True) (w_date (qSp2_of hfl (by decide +kernel) (Nat.le_of_ble_eq_true rfl) (by omega) (r_bf_date l false I0 L0 (xs (0 + 1)) (xs (0 + 2)) (2000 + D / 366) (2000 + P / 12) (P % 12) (fun _ => by
      rw [hdD, g9]
      exact ⟨g1, g2, g3, g4, g5, g6, g7, g8, g10⟩))) (fun En h => h.1)) ?_ (fun I2 L2 _ => kk I2 L2)
    revert hd hdD
    generalize xs (0 + 1) = d
    generalize xs (0 + 2) = w
    intro hd hdD
    rintro v n f ⟨rfl, h⟩
    rcases h with ⟨⟨hc1, hc2⟩, rfl, rfl⟩ | ⟨q, hq, ⟨-, hp⟩, rfl, rfl⟩
    · refine ⟨0, _, _, _, _, _, rfl, rfl, rfl, s_md_date l false _ _ d w P (fun _ => by rw [hdD]; exact date_m hD hP h1 h2), ?_, fun _ => ?_, trivial⟩
      · rw [if_pos ⟨(in_date d).mpr hd, (in_3 w).mpr hc2⟩]
        exact wI_at _ _ _ _
      · rw [wL_at9, g9]
        rw [if_pos (show (0 ≤ Int32.toInt64 d ∧ Int32.toInt64 d ≤ 100000) ∧ (0 ≤ Int32.toInt64 w ∧ Int32.toInt64 w ≤ 3) from ⟨(in_date d).mpr hd, (in_3 w).mpr hc2⟩)]
        congr 1
        unfold m_date
        by_cases w0 : w = 0
        · rw [if_pos w0, if_pos w0]
        rw [if_neg w0, if_neg w0]
        by_cases w1 : w = 1
        · rw [if_pos w1, if_pos w1]
        rw [if_neg w1, if_neg w1]
        by_cases w2 : w = 2
        · rw [if_pos w2, if_pos w2, hdD, m_left_n P (by omega) h1]
          have e1 : nI P / 12 = nI (P / 12) := nI_div (b := 12) (by omega) (by decide)
          have e2 : 2000 + nI P / 12 = nI (2000 + P / 12) := by
            rw [e1]
            show nI 2000 + nI (P / 12) = _
            rw [nI_add]
          rw [e2, u_md_n (by omega) (P % 12) (by omega), show 12 * (P / 12) + P % 12 = P by omega, nI_sub h1]
        · rw [if_neg w2, if_neg w2]
    · simp only [List.mem_cons, List.not_mem_nil, or_false] at hq
      subst hq
      refine ⟨_, _, _, _, _, _, rfl, rfl, rfl, s_md_date l false _ _ d w P (fun _ => by rw [hdD]; exact date_m hD hP h1 h2), ?_, fun h => absurd h (by decide), trivial⟩
      rw [if_neg (fun h => hp ⟨(in_date d).mp h.1, (in_3 w).mp h.2⟩)]
      exact wI_at _ _ _ _
end PH
