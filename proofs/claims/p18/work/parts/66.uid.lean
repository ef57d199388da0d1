/-! the states that a run reaches: Inv; the reference's calls in them -/
def Inv (I : qJ) : Prop := CI I ∧ MI I
section IV
variable {I J : qJ} {L : Nat → Nat → Int64} {T n z : Nat} {d day : Int32}
theorem CF_self (h : CI I) : CF I I := ⟨h, fun _ _ => rfl⟩
theorem MF_self (h : MI I) : MF I I := ⟨h, fun _ _ => rfl⟩
theorem Inv_C (h : Inv I) (g : CF I J) : Inv J := by
  refine ⟨g.1, ?_⟩
  obtain ⟨q1, q2, q3, q4, q5, q6, q7⟩ := h.2
  have e : ∀ a b, 47 ≤ a → J a b = I a b := fun a b ha => congrFun (g.2 a ha) b
  refine ⟨by rw [e _ _ (by omega)]; exact q1, by rw [e _ _ (by omega)]; exact q2, fun k hk => by rw [e _ _ (by omega)]; exact q3 k hk, fun t ht => by rw [e _ _ (by omega)]; exact q4 t ht, by rw [e _ _ (by omega)]; exact q5, ?_, by rw [e _ _ (by omega)]; exact q7⟩
  obtain ⟨z, r1, r2, r3⟩ := q6
  exact ⟨z, r1, (e _ _ (by omega)).trans r2, fun i hi => by rw [e _ _ (by omega)]; exact r3 i hi⟩
theorem Inv_M (h : Inv I) (g : MF I J) : Inv J := by
  refine ⟨?_, g.1⟩
  obtain ⟨q1, q2, q3, q4, q5, q6, q7, q8⟩ := h.1
  have e : ∀ a b, a < 47 → J a b = I a b := fun a b ha => congrFun (g.2 a ha) b
  exact ⟨fun P hP => by rw [e _ _ (by omega)]; exact q1 P hP, by rw [e _ _ (by omega)]; exact q2, by rw [e _ _ (by omega)]; exact q3, fun t ht => by rw [e _ _ (by omega)]; exact q4 t ht, by rw [e _ _ (by omega)]; exact q5, by rw [e _ _ (by omega)]; exact q6, by rw [e _ _ (by omega)]; exact q7, fun c hc => by rw [e _ _ (by omega)]; exact q8 c hc⟩
theorem mT_of (h : MI I) : mT I := by
  intro t ht
  obtain ⟨z, h1, h2⟩ := h.2.2.2.1 t ht
  have e : tz I t = z := by unfold tz; rw [h2]; exact nI_clamp (by omega)
  rw [e]
  exact ⟨h2, h1⟩
theorem cT_of (h : CI I) : cT I := by
  intro t ht
  obtain ⟨z, h1, h2⟩ := h.2.2.2.1 t ht
  have e : ctz I t = z := by unfold ctz; rw [h2]; exact nI_clamp (by omega)
  rw [e]
  exact ⟨h2, h1⟩
theorem mE_of (h : MI I) {ne : Nat} (hne : ne ≤ 80) : mE I ne := by
  intro e he
  obtain ⟨z, h1, h2⟩ := h.2.2.1 e (by omega)
  have q : dn I e = z := by unfold dn; rw [h2]; exact nI_clamp (by omega)
  rw [q]
  exact ⟨h2, h1⟩
theorem pe_ex (Q : Nat → Prop) : ∀ m, ∃ pe, pe ≤ m ∧ (∀ P, P < pe → Q P) ∧ (pe < m → ¬ Q pe)
  | 0 => ⟨0, Nat.le_refl _, fun P hP => absurd hP (by omega), fun h => absurd h (by omega)⟩
  | m + 1 => by
    obtain ⟨pe, h1, h2, h3⟩ := pe_ex Q m
    rcases Nat.lt_or_ge pe m with g | g
    · exact ⟨pe, by omega, h2, fun _ => h3 g⟩
    · rcases Classical.em (Q pe) with q | q
      · exact ⟨pe + 1, by omega, fun P hP => by
          rcases Nat.lt_or_ge P pe with r | r
          · exact h2 P r
          · have e : P = pe := by omega
            rw [e]; exact q, fun r => absurd r (by omega)⟩
      · exact ⟨pe, by omega, h2, fun _ => q⟩
theorem day_b (hT : T ≤ 400) (h1 : ¬ nI T < day) (h2 : 0 ≤ day) : ∃ d, d ≤ 400 ∧ day = nI d := by
  obtain ⟨j, hj, rfl⟩ := nI_of (Int32.not_lt.mpr h2)
  refine ⟨j, ?_, rfl⟩
  rcases Nat.lt_or_ge T j with q | q
  · exact absurd (nI_lt q hj) h1
  · omega
theorem tick_b (hT : T ≤ 400) (h1 : ¬ (d < 1 ∨ 40 < d)) (h2 : ¬ 400 < nI T + d) : T + d.toNatClampNeg ≤ 400 := by
  have h3 := h1
  simp only [Int32.lt_iff_toInt_lt, k32_1, k32_40] at h3
  have h0 : ¬ d < 0 := by
    rw [Int32.lt_iff_toInt_lt, k32_0]
    omega
  obtain ⟨j, hj, rfl⟩ := nI_of h0
  rw [nI_toInt hj] at h3
  rw [nI_clamp hj]
  rcases Nat.lt_or_ge 400 (T + j) with q | q
  · rw [nI_add] at h2
    exact absurd (nI_lt (a := 400) q (by omega)) h2
  · exact q
theorem one_le (h : 1 ≤ Int32.toInt64 d ∧ Int32.toInt64 d ≤ 400) : 1 ≤ d := by
  have h1 := h.1
  rw [Int64.le_iff_toInt_le, Int32.toInt_toInt64, k64_1] at h1
  rw [Int32.le_iff_toInt_le, k32_1]
  exact h1
theorem MF_plan {c : Int32} {v : Int32} (h : MF I J) (hz : J 47 34 = nI z) (hz2 : z < 10) (hd : 1 ≤ d) : MF I (wI (wI (wI (wI J 72 z c) 73 z d) 74 z v) 47 34 (nI (z + 1))) := by
  obtain ⟨⟨q1, q2, q3, q4, q5, q6, q7⟩, q8⟩ := h
  obtain ⟨z', r1, r2, r3⟩ := q6
  have hzz : z' = z := (nI_eq (by omega) (by omega)).mp (r2.symm.trans hz)
  subst hzz
  have e : ∀ a b, a ≠ 72 → a ≠ 73 → a ≠ 74 → (a ≠ 47 ∨ b ≠ 34) → wI (wI (wI (wI J 72 z' c) 73 z' d) 74 z' v) 47 34 (nI (z' + 1)) a b = J a b := fun a b g1 g2 g3 g4 => by rw [wI_ne g4, wI_ne (Or.inl g3), wI_ne (Or.inl g2), wI_ne (Or.inl g1)]
  refine ⟨⟨by rw [e _ _ (by omega) (by omega) (by omega) (by omega)]; exact q1, by rw [e _ _ (by omega) (by omega) (by omega) (by omega)]; exact q2, fun k hk => by rw [e _ _ (by omega) (by omega) (by omega) (by omega)]; exact q3 k hk, fun t ht => by rw [e _ _ (by omega) (by omega) (by omega) (by omega)]; exact q4 t ht, by rw [e _ _ (by omega) (by omega) (by omega) (by omega)]; exact q5, ⟨z' + 1, by omega, wI_at _ _ _ _, fun i hi => ?_⟩, by rw [e _ _ (by omega) (by omega) (by omega) (by omega)]; exact q7⟩, fun a ha => ?_⟩
  · rw [wI_ne (by omega), wI_ne (by omega)]
    rcases Nat.lt_or_ge i z' with g | g
    · rw [wI_ne (by omega), wI_ne (by omega)]
      exact r3 i g
    · have e2 : i = z' := by omega
      rw [e2, wI_at]
      exact hd
  · rw [← q8 a ha]
    funext b
    exact e a b (by omega) (by omega) (by omega) (by omega)
end IV
