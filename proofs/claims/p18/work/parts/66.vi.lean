/-! both sides, held together -/
section PT9
variable {J M : qJ} {a b n z t B : Nat} {u x y : Int64}
/-- one tariff, on both sides -/
def r_TR (J M : qJ) (t : Nat) : Prop := (J (28 + 3 * t) 0 = M 49 t ∧ p_rg (J (28 + 3 * t) 0)) ∧ (J (28 + 3 * t) 1 = M 50 t ∧ p_rg (J (28 + 3 * t) 1)) ∧ (J (28 + 3 * t) 2 = M 51 t ∧ p_rg (J (28 + 3 * t) 2)) ∧ (J (28 + 3 * t) 3 = M 52 t ∧ p_rg (J (28 + 3 * t) 3)) ∧ (0 < (J (28 + 3 * t) 3).toInt → J (28 + 3 * t) 4 = M 53 t ∧ p_rg (J (28 + 3 * t) 4)) ∧ (J (28 + 3 * t) 8 = M 55 t ∧ p_rg (J (28 + 3 * t) 8)) ∧ ∃ z, z ≤ 4 ∧ J (28 + 3 * t) 5 = nI z ∧ M 54 t = nI z ∧ ∀ k, k < z → J (29 + 3 * t) k = M 56 (4 * t + k) ∧ J (30 + 3 * t) k = M 57 (4 * t + k) ∧ p_rg (J (30 + 3 * t) k) ∧ 1 ≤ (J (29 + 3 * t) k).toInt ∧ (J (29 + 3 * t) k).toInt ≤ 99999 ∧ (k = 0 ∨ (J (29 + 3 * t) (k - 1)).toInt < (J (29 + 3 * t) k).toInt)
theorem TR_congr {J' M' : qJ} (h : r_TR J M t) (hJ : ∀ k, 28 + 3 * t ≤ k → k ≤ 30 + 3 * t → J' k = J k) (hM : ∀ k j, 49 ≤ k → k ≤ 57 → (k ≤ 55 → j = t) → (56 ≤ k → 4 * t ≤ j ∧ j < 4 * t + 4) → M' k j = M k j) : r_TR J' M' t := by
  obtain ⟨h0, h1, h2, h3, h4, h8, z, hz, h5, h54, h6⟩ := h
  unfold r_TR
  rw [hJ (28 + 3 * t) (by omega) (by omega), hJ (29 + 3 * t) (by omega) (by omega), hJ (30 + 3 * t) (by omega) (by omega), hM 49 t (by omega) (by omega) (by omega) (by omega), hM 50 t (by omega) (by omega) (by omega) (by omega), hM 51 t (by omega) (by omega) (by omega) (by omega), hM 52 t (by omega) (by omega) (by omega) (by omega), hM 53 t (by omega) (by omega) (by omega) (by omega), hM 54 t (by omega) (by omega) (by omega) (by omega), hM 55 t (by omega) (by omega) (by omega) (by omega)]
  refine ⟨h0, h1, h2, h3, h4, h8, z, hz, h5, h54, fun k hk => ?_⟩
  rw [hM 56 (4 * t + k) (by omega) (by omega) (by omega) (by omega), hM 57 (4 * t + k) (by omega) (by omega) (by omega) (by omega)]
  exact h6 k hk
/-- tiers -/
theorem pt_eq {e p e' p' : Nat → Int32} {v : Int64} (hv : 0 ≤ v.toInt) : ∀ z, (∀ k, k < z → e k = e' k ∧ p k = p' k ∧ 1 ≤ (e k).toInt ∧ (k = 0 ∨ (e (k - 1)).toInt < (e k).toInt)) → u_pt e p v z = m_pt e' p' v z ∧ 0 ≤ (u_pt e p v z).2.toInt ∧ (u_pt e p v z).2.toInt ≤ v.toInt ∧ (z = 0 ∧ (u_pt e p v z).2 = 0 ∨ 0 < z ∧ (u_pt e p v z).2.toInt ≤ (e (z - 1)).toInt)
  | 0, _ => ⟨rfl, by rw [u_pt]; decide, by rw [u_pt]; exact hv, Or.inl ⟨rfl, rfl⟩⟩
  | z + 1, h => by
    obtain ⟨h1, h2, h3, h4⟩ := pt_eq hv z (fun k hk => h k (by omega))
    obtain ⟨g1, g2, g3, g4⟩ := h z (by omega)
    rw [u_pt, m_pt, ← h1, ← g1, ← g2]
    have em : (if v < Int32.toInt64 (e z) then v else Int32.toInt64 (e z)) = qmminl v (Int32.toInt64 (e z)) := by
      unfold qmminl
      by_cases q : Int32.toInt64 (e z) < v
      · rw [if_pos q, if_neg (by rw [Int64.lt_iff_toInt_lt] at q ⊢; omega)]
      · rw [if_neg q]
        by_cases r : v < Int32.toInt64 (e z)
        · rw [if_pos r]
        · rw [if_neg r]
          rw [Int64.lt_iff_toInt_lt] at q r
          exact Int64.toInt_inj.mp (by omega)
    have hm : (qmminl v (Int32.toInt64 (e z))).toInt ≤ v.toInt ∧ (qmminl v (Int32.toInt64 (e z))).toInt ≤ (e z).toInt ∧ ((qmminl v (Int32.toInt64 (e z))).toInt = v.toInt ∨ (qmminl v (Int32.toInt64 (e z))).toInt = (e z).toInt) := by
      unfold qmminl
      split
      · rename_i q
        rw [Int64.lt_iff_toInt_lt, Int32.toInt_toInt64] at q
        rw [Int32.toInt_toInt64]
        omega
      · rename_i q
        rw [Int64.lt_iff_toInt_lt, Int32.toInt_toInt64] at q
        omega
    rw [em]
    generalize qmminl v (Int32.toInt64 (e z)) = m at *
    generalize u_pt e p v z = r at *
    have hr : r.2.toInt ≤ (e z).toInt ∧ r.2.toInt ≤ v.toInt := by
      rcases h4 with ⟨q1, q2⟩ | ⟨q1, q2⟩
      · rw [q2, show (0 : Int64).toInt = 0 by decide]
        omega
      · omega
    refine ⟨?_, ?_, ?_, Or.inr ⟨by omega, ?_⟩⟩
    · by_cases q : r.2 < m
      · rw [if_pos q]
      · rw [if_neg q]
        rw [Int64.lt_iff_toInt_lt] at q
        have e2 : m = r.2 := Int64.toInt_inj.mp (by omega)
        rw [e2, Int64.sub_self, Int64.zero_mul, Int64.add_zero]
    · show 0 ≤ m.toInt
      omega
    · show m.toInt ≤ v.toInt
      omega
    · show m.toInt ≤ (e z).toInt
      omega
theorem share_eq (a d : Int64) {D : Int64} (h : 1 ≤ D) : u_share a d D = a * d / D := by unfold u_share; rw [if_pos h]
/-- what use costs: one number on both sides -/
theorem use_eq (h : r_TR J M t) {u : Int64} {d D : Int32} {x y : Int64} (hx : u_share (Int32.toInt64 (J (28 + 3 * t) 1)) (Int32.toInt64 d) (Int32.toInt64 D) = x) (hy : u_share (Int32.toInt64 (J (28 + 3 * t) 2)) (Int32.toInt64 d) (Int32.toInt64 D) = y) (hu : 0 ≤ u.toInt) (hu2 : u.toInt ≤ 10000000) (hx1 : 0 ≤ x.toInt) (hx2 : x.toInt ≤ 10000000) : u_use J (28 + 3 * t) (29 + 3 * t) (30 + 3 * t) (ctz J t) u d D = m_priced M t (tz M t) u x y := by
  obtain ⟨h0, h1, h2, h3, h4, h8, z, hz, h5, h54, h6⟩ := h
  have hc : ctz J t = z := by unfold ctz; rw [h5]; exact nI_clamp (by omega)
  have hm : tz M t = z := by unfold tz; rw [h54]; exact nI_clamp (by omega)
  have hs : (u - x).toInt = u.toInt - x.toInt := by
    rw [Int64.toInt_sub, Int.bmod_def]
    omega
  have hp : u_paid J (28 + 3 * t) u d D = m_v u x ∧ 0 ≤ (m_v u x).toInt := by
    unfold u_paid m_v qmmaxl
    rw [hx]
    by_cases q : u ≤ x
    · rw [if_pos q]
      rw [Int64.le_iff_toInt_le] at q
      refine ⟨?_, by decide⟩
      by_cases r : u - x < 0
      · rw [if_pos r]
      · rw [if_neg r]
        rw [Int64.lt_iff_toInt_lt, hs, show (0 : Int64).toInt = 0 by decide] at r
        exact Int64.toInt_inj.mp (by rw [hs, show (0 : Int64).toInt = 0 by decide]; omega)
    · rw [if_neg q]
      rw [Int64.le_iff_toInt_le] at q
      rw [if_neg (by rw [Int64.lt_iff_toInt_lt, hs, show (0 : Int64).toInt = 0 by decide]; omega), hs]
      exact ⟨rfl, by omega⟩
  unfold u_use m_priced
  rw [hy, hp.1, hc, hm]
  have hsum : (if J (28 + 3 * t) 3 ≤ 0 then u_tiers J (28 + 3 * t) (29 + 3 * t) (30 + 3 * t) z (m_v u x) else u_packs J (28 + 3 * t) (m_v u x)) = m_sum M t z (m_v u x) := by
    unfold m_sum
    rw [← h3.1]
    by_cases q : J (28 + 3 * t) 3 ≤ 0
    · rw [if_pos q, if_pos q]
      unfold u_tiers
      rw [(pt_eq (e' := fun k => M 56 (4 * t + k)) (p' := fun k => M 57 (4 * t + k)) hp.2 z (fun k hk => ⟨(h6 k hk).1, (h6 k hk).2.1, (h6 k hk).2.2.2.1, (h6 k hk).2.2.2.2.2⟩)).1, h8.1]
    · rw [if_neg q, if_neg q]
      rw [Int32.le_iff_toInt_le, k32_0] at q
      unfold u_packs
      rw [if_pos (by rw [Int32.le_iff_toInt_le, k32_1]; omega), (h4 (by omega)).1]
  rw [hsum]
  generalize m_sum M t z (m_v u x) = s
  unfold qmmaxl
  by_cases q : y < s
  · rw [if_pos q, if_neg (by rw [Int64.lt_iff_toInt_lt] at q ⊢; omega)]
  · rw [if_neg q]
    by_cases r : s < y
    · rw [if_pos r]
    · rw [if_neg r]
      rw [Int64.lt_iff_toInt_lt] at q r
      exact Int64.toInt_inj.mp (by omega)
end PT9
