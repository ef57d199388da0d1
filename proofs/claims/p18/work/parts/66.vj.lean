/-! both sides, held together -/
section PT10
variable {I J M : qJ} {a b n z t B q e p : Nat} {u x y : Int64}
theorem cp_q (h1 : q ≠ e) (h2 : q ≠ p) {j : Nat} : ∀ k, u_cp I q e p k q j = u_cpF I q q j
  | 0 => rfl
  | k + 1 => by rw [u_cp, wI_ne (Or.inl h2), wI_ne (Or.inl h1), cp_q h1 h2 k]
theorem cp_e (h1 : q ≠ e) (h2 : e ≠ p) (hq : 7 ≤ q) (he : 7 ≤ e) (hp : 7 ≤ p) {i : Nat} : ∀ k, i < k → u_cp I q e p k e i = I 5 i
  | 0, h => absurd h (by omega)
  | k + 1, h => by
    rw [u_cp, wI_ne (Or.inl h2), u_cp_c (by omega) (by omega) (by omega)]
    rcases Decidable.em (i = k) with r | r
    · rw [r, wI_at]
    · rw [wI_ne (Or.inr r)]
      exact cp_e h1 h2 hq he hp k (by omega)
theorem cp_p (h1 : q ≠ p) (h2 : e ≠ p) (hq : 7 ≤ q) (he : 7 ≤ e) (hp : 7 ≤ p) {i : Nat} : ∀ k, i < k → u_cp I q e p k p i = I 6 i
  | 0, h => absurd h (by omega)
  | k + 1, h => by
    rw [u_cp]
    rcases Decidable.em (i = k) with r | r
    · rw [r, wI_at, u_cp_c (by omega) (by omega) (by omega)]
    · rw [wI_ne (Or.inr r), wI_ne (Or.inl (fun r => h2 r.symm))]
      exact cp_p h1 h2 hq he hp k (by omega)
theorem cpF_v (_ : q ≠ 4) : u_cpF I q q 0 = I 4 0 ∧ u_cpF I q q 1 = I 4 1 ∧ u_cpF I q q 2 = I 4 2 ∧ u_cpF I q q 3 = I 4 3 ∧ u_cpF I q q 4 = I 4 4 ∧ u_cpF I q q 5 = I 4 5 ∧ u_cpF I q q 8 = I 4 8 := by
  simp [u_cpF, wI, va_up, upd]
/-- the reference's copy -/
theorem mcp_1 {c : Nat} (hc : 49 ≤ c ∧ c ≤ 55) (ht : t < 3) : m_cp M t c t = M c 3 := by
  have h2 : ∀ (X : qJ) (k : Nat), m_cB X t k c t = X c t := fun X k => by
    unfold m_cB m_c2
    rw [wI_ne (by omega), wI_ne (by omega)]
  have h1 : ∀ (X : qJ) (d : Nat), d ≠ c → m_c1 d X t c t = X c t := fun X d hd => by
    unfold m_c1
    rw [wI_ne (by omega)]
  have h3 : ∀ (X : qJ) (d : Nat), m_c1 d X t c 3 = X c 3 := fun X d => by
    unfold m_c1
    rw [wI_ne (by omega)]
  have h0 : ∀ (X : qJ), m_c1 c X t c t = X c 3 := fun X => wI_at _ _ _ _
  unfold m_cp
  rw [wI_ne (by omega), h2, h2, h2, h2]
  unfold m_cA
  rcases (show c = 49 ∨ c = 50 ∨ c = 51 ∨ c = 52 ∨ c = 53 ∨ c = 54 ∨ c = 55 by omega) with r | r | r | r | r | r | r
  · subst r
    rw [h1 _ 55 (by omega), h1 _ 54 (by omega), h1 _ 53 (by omega), h1 _ 52 (by omega), h1 _ 51 (by omega), h1 _ 50 (by omega), h0, wI_ne (by omega)]
  · subst r
    rw [h1 _ 55 (by omega), h1 _ 54 (by omega), h1 _ 53 (by omega), h1 _ 52 (by omega), h1 _ 51 (by omega), h0, h3, wI_ne (by omega)]
  · subst r
    rw [h1 _ 55 (by omega), h1 _ 54 (by omega), h1 _ 53 (by omega), h1 _ 52 (by omega), h0, h3, h3, wI_ne (by omega)]
  · subst r
    rw [h1 _ 55 (by omega), h1 _ 54 (by omega), h1 _ 53 (by omega), h0, h3, h3, h3, wI_ne (by omega)]
  · subst r
    rw [h1 _ 55 (by omega), h1 _ 54 (by omega), h0, h3, h3, h3, h3, wI_ne (by omega)]
  · subst r
    rw [h1 _ 55 (by omega), h0, h3, h3, h3, h3, h3, wI_ne (by omega)]
  · subst r
    rw [h0, h3, h3, h3, h3, h3, h3, wI_ne (by omega)]
theorem mcA_2 {c j : Nat} (hc : 56 ≤ c) : m_cA M t c j = M c j := by
  have h1 : ∀ (X : qJ) (d : Nat), d ≤ 55 → m_c1 d X t c j = X c j := fun X d hd => by
    unfold m_c1
    rw [wI_ne (by omega)]
  unfold m_cA
  rw [h1 _ 55 (by omega), h1 _ 54 (by omega), h1 _ 53 (by omega), h1 _ 52 (by omega), h1 _ 51 (by omega), h1 _ 50 (by omega), h1 _ 49 (by omega), wI_ne (by omega)]
theorem mcp_2 {c k : Nat} (hc : c = 56 ∨ c = 57) (ht : t < 3) (hk : k < 4) : m_cp M t c (4 * t + k) = M c (12 + k) := by
  have hB : ∀ (X : qJ) (i : Nat), i ≠ k → m_cB X t i c (4 * t + k) = X c (4 * t + k) := fun X i hi => by
    unfold m_cB m_c2
    rw [wI_ne (by omega), wI_ne (by omega)]
  have hC : ∀ (X : qJ) (i : Nat), i < 4 → m_cB X t i c (12 + k) = X c (12 + k) := fun X i hi => by
    unfold m_cB m_c2
    rw [wI_ne (by omega), wI_ne (by omega)]
  have hD : ∀ (X : qJ), m_cB X t k c (4 * t + k) = X c (12 + k) := fun X => by
    unfold m_cB m_c2
    rcases hc with r | r
    · subst r
      rw [wI_ne (by omega), wI_at]
    · subst r
      rw [wI_at, wI_ne (by omega)]
  unfold m_cp
  rw [wI_ne (by omega)]
  rcases (show k = 0 ∨ k = 1 ∨ k = 2 ∨ k = 3 by omega) with r | r | r | r
  · subst r
    rw [hB _ 3 (by omega), hB _ 2 (by omega), hB _ 1 (by omega), hD, mcA_2 (by omega)]
  · subst r
    rw [hB _ 3 (by omega), hB _ 2 (by omega), hD, hC _ 0 (by omega), mcA_2 (by omega)]
  · subst r
    rw [hB _ 3 (by omega), hD, hC _ 1 (by omega), hC _ 0 (by omega), mcA_2 (by omega)]
  · subst r
    rw [hD, hC _ 2 (by omega), hC _ 1 (by omega), hC _ 0 (by omega), mcA_2 (by omega)]
/-- what the copy leaves -/
theorem mcp_ne {c j : Nat} (h : (c ≠ 47 ∨ (j ≠ 0 ∧ j ≠ 4)) ∧ (49 ≤ c → c ≤ 55 → j ≠ t) ∧ (c = 56 ∨ c = 57 → j < 4 * t ∨ 4 * t + 4 ≤ j)) : m_cp M t c j = M c j := by
  have hB : ∀ (X : qJ) (i : Nat), i < 4 → m_cB X t i c j = X c j := fun X i hi => by
    unfold m_cB m_c2
    rw [wI_ne (by omega), wI_ne (by omega)]
  have h1 : ∀ (X : qJ) (d : Nat), 49 ≤ d → d ≤ 55 → m_c1 d X t c j = X c j := fun X d hd hd2 => by
    unfold m_c1
    rw [wI_ne (by omega)]
  unfold m_cp
  rw [wI_ne (by omega), hB _ 3 (by omega), hB _ 2 (by omega), hB _ 1 (by omega), hB _ 0 (by omega)]
  unfold m_cA
  rw [h1 _ 55 (by omega) (by omega), h1 _ 54 (by omega) (by omega), h1 _ 53 (by omega) (by omega), h1 _ 52 (by omega) (by omega), h1 _ 51 (by omega) (by omega), h1 _ 50 (by omega) (by omega), h1 _ 49 (by omega) (by omega), wI_ne (by omega)]
theorem cp_TR (hF : p_FIN J M) (ht : t < 3) : r_TR (u_cp J (28 + 3 * t) (29 + 3 * t) (30 + 3 * t) 4) (m_cp M t) t := by
  obtain ⟨-, h8, h9, z, hz, h5, h54, f0, f1, f2, f3, f4, f6⟩ := hF
  obtain ⟨v0, v1, v2, v3, v4, v5, v8⟩ := cpF_v (I := J) (q := 28 + 3 * t) (by omega)
  unfold r_TR
  rw [cp_q (by omega) (by omega), cp_q (by omega) (by omega), cp_q (by omega) (by omega), cp_q (by omega) (by omega), cp_q (by omega) (by omega), cp_q (by omega) (by omega), cp_q (by omega) (by omega), v0, v1, v2, v3, v4, v5, v8]
  rw [mcp_1 (c := 49) (by omega) ht, mcp_1 (c := 50) (by omega) ht, mcp_1 (c := 51) (by omega) ht, mcp_1 (c := 52) (by omega) ht, mcp_1 (c := 53) (by omega) ht, mcp_1 (c := 54) (by omega) ht, mcp_1 (c := 55) (by omega) ht]
  refine ⟨f0, f1, f2, f3, f4, ⟨h8, h9⟩, z, hz, h5, h54, fun k hk => ?_⟩
  rw [cp_e (by omega) (by omega) (by omega) (by omega) (by omega) 4 (by omega), cp_p (by omega) (by omega) (by omega) (by omega) (by omega) 4 (by omega), mcp_2 (Or.inl rfl) ht (by omega), mcp_2 (Or.inr rfl) ht (by omega)]
  obtain ⟨g1, g2, g3, g4, g5, g6⟩ := f6 k hk
  refine ⟨g1, g2, g3, g4, g5, ?_⟩
  rcases Decidable.em (k = 0) with r | r
  · exact Or.inl r
  · right
    rw [cp_e (by omega) (by omega) (by omega) (by omega) (by omega) 4 (by omega)]
    exact g6.resolve_left r
end PT10
