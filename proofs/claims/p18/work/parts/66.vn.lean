/-! both sides, held together -/
section PT14
variable {J M J' M' : qJ} {K N K' N' : rLg} {c z zp T t F G D ne : Nat} {w d : Int32}
/-- a change of one customer alone -/
theorem RR_cu (h : r_RR J M K N) (hc : c < 5) (hJ : ∀ k, k ≠ 37 + 2 * c → J' k = J k) (hM : ∀ k j, ¬ (58 ≤ k ∧ k ≤ 60 ∧ j = c) → (k ≠ 47 ∨ j ≠ 0) → M' k j = M k j) (hK : ∀ k, k ≠ 37 + 2 * c → K' k = K k) (hN : ∀ k j, ¬ (k = 61 ∧ j = c) → N' k j = N k j) (hR : r_RC J' M' K' N' c) : r_RR J' M' K' N' := by
  obtain ⟨⟨h1, h2⟩, h3, h4, h5, h6, h7, h8, h9⟩ := h
  have hMk : ∀ k, k < 58 ∨ 60 < k → k ≠ 47 → M' k = M k := fun k hk hk2 => funext fun j => hM k j (by omega) (by omega)
  have hNk : ∀ k, k ≠ 61 → N' k = N k := fun k hk => funext fun j => hN k j (by omega)
  refine ⟨⟨?_, ?_⟩, ⟨?_, ?_⟩, fun t ht => TR_congr (h4 t ht) (fun k _ _ => hJ k (by omega)) (fun k j _ _ _ _ => hM k j (by omega) (by omega)), fun c' hc' => ?_, RH_congr h6 (by rw [hJ _ (by omega)]) (fun c hc => hJ _ (by omega)) (hMk _ (by omega) (by omega)), RE_congr h7 (fun k _ _ => hJ k (by omega)) (by rw [hJ _ (by omega)]) (fun k _ _ => hMk k (by omega) (by omega)) (hM _ _ (by omega) (by omega)), RI_congr h8 (hJ _ (by omega)) (hJ _ (by omega)) (hJ _ (by omega)) (by rw [hJ _ (by omega)]) (fun k _ _ => hMk k (by omega) (by omega)) (hM _ _ (by omega) (by omega)) (hK _ (by omega)) (hK _ (by omega)) (hNk _ (by omega)) (hNk _ (by omega)), RP_congr h9 (fun k _ _ => hJ k (by omega)) (by rw [hJ _ (by omega)]) (fun k _ _ => hMk k (by omega) (by omega)) (hM _ _ (by omega) (by omega)) (hK _ (by omega)) (hNk _ (by omega))⟩
  · rw [hJ _ (by omega), hM _ _ (by omega) (by omega)]; exact h1
  · rw [hK _ (by omega), hN _ _ (by omega)]; exact h2
  · rw [hJ _ (by omega), hM _ _ (by omega) (by omega)]; exact h3.1
  · rw [hJ _ (by omega), hMk _ (by omega) (by omega)]; exact h3.2
  · rcases Decidable.em (c' = c) with q | q
    · rw [q]; exact hR
    · exact RC_congr hc' (h5 c' hc') (hJ _ (by omega)) (fun k _ _ => hM _ _ (by omega) (by omega)) (by rw [hK _ (by omega)]) (hN _ _ (by omega))
theorem stage_r (d : Int32) : 1 ≤ (u_stage d).toInt ∧ (u_stage d).toInt ≤ 3 := by
  unfold u_stage
  split
  · split
    · decide
    · decide
  · decide
theorem next_eq (h : r_RC J M K N c) (hd : 0 ≤ d.toInt) : u_next J (37 + 2 * c) d = m_next M c d ∧ 0 ≤ (m_next M c d).toInt ∧ (m_next M c d).toInt ≤ 3 := by
  obtain ⟨c1, c2, c3, c4, c5, c6, c7⟩ := h
  unfold u_next m_next m_st
  rw [← c3]
  by_cases q : d = 0
  · rw [if_pos q, if_pos q, if_neg (by rw [q]; exact fun r => absurd r.1 (by decide))]
    exact ⟨rfl, by decide, by decide⟩
  · have hp : 0 < d := by
      rw [Int32.lt_iff_toInt_lt, k32_0]
      have : ¬ d.toInt = 0 := fun r => q (Int32.toInt_inj.mp (by rw [r]; decide))
      omega
    have hs := stage_r d
    rw [if_neg q, if_neg q]
    show qmmax (J (37 + 2 * c) 3) (u_stage d) = (if 0 < d ∧ u_stage d < J (37 + 2 * c) 3 then J (37 + 2 * c) 3 else u_stage d) ∧ 0 ≤ (if 0 < d ∧ u_stage d < J (37 + 2 * c) 3 then J (37 + 2 * c) 3 else u_stage d).toInt ∧ (if 0 < d ∧ u_stage d < J (37 + 2 * c) 3 then J (37 + 2 * c) 3 else u_stage d).toInt ≤ 3
    rw [qmm_r]
    by_cases r : u_stage d < J (37 + 2 * c) 3
    · rw [if_pos (show 0 < d ∧ u_stage d < J (37 + 2 * c) 3 from ⟨hp, r⟩), if_neg (by rw [Int32.lt_iff_toInt_lt] at r ⊢; omega)]
      exact ⟨rfl, c6, c7⟩
    · rw [if_neg (show ¬ (0 < d ∧ u_stage d < J (37 + 2 * c) 3) from fun s => r s.2)]
      by_cases s : J (37 + 2 * c) 3 < u_stage d
      · rw [if_pos s]
        exact ⟨rfl, by omega, hs.2⟩
      · rw [if_neg s]
        rw [Int32.lt_iff_toInt_lt] at r s
        exact ⟨Int32.toInt_inj.mp (by omega), by omega, hs.2⟩
theorem RC_look (h : r_RC J M K N c) (hd : 0 ≤ d.toInt) : r_RC (u_look J (37 + 2 * c) d) (m_lk M c d) K N c := by
  obtain ⟨e, e1, e2⟩ := next_eq h hd
  obtain ⟨c1, c2, c3, c4, c5, c6, c7⟩ := h
  unfold u_look m_lk
  rw [e]
  generalize m_next M c d = x at *
  have h3 : (¬ J (37 + 2 * c) 3 = 3) ↔ M 60 c < 3 := by
    rw [c3] at *
    rw [Int32.lt_iff_toInt_lt, show (3 : Int32).toInt = 3 by decide]
    constructor
    · intro q
      have : ¬ (M 60 c).toInt = 3 := fun r => q (Int32.toInt_inj.mp (by rw [r]; decide))
      omega
    · intro q r
      rw [r] at q
      exact absurd q (by decide)
  have hJ1 : ∀ j, j ≠ 2 → j ≠ 3 → wI (u_look2 J (37 + 2 * c) x) (37 + 2 * c) 3 x (37 + 2 * c) j = J (37 + 2 * c) j := by
    intro j g2 g3
    rw [wI_ne (by omega)]
    unfold u_look2 u_look1
    split <;> split <;> simp [wI, va_up, upd, g2]
  have hM1 : wI (m_look2 M c x) 60 c x 58 c = M 58 c := by
    rw [wI_ne (by omega)]
    unfold m_look2 m_look1
    split <;> split <;> simp [wI, va_up, upd]
  have h2 : wI (u_look2 J (37 + 2 * c) x) (37 + 2 * c) 3 x (37 + 2 * c) 2 = wI (m_look2 M c x) 60 c x 59 c := by
    rw [wI_ne (by omega), wI_ne (by omega)]
    unfold u_look2 m_look2
    rw [← c3]
    by_cases q : x = 0 ∧ J (37 + 2 * c) 3 = 3
    · rw [if_pos q, if_pos q, wI_at, wI_at]
    · rw [if_neg q, if_neg q]
      unfold u_look1 m_look1
      by_cases r : x = 3 ∧ ¬ J (37 + 2 * c) 3 = 3
      · rw [if_pos r, if_pos ⟨r.1, h3.mp r.2⟩, wI_at, wI_at]
      · rw [if_neg r, if_neg (fun s => r ⟨s.1, h3.mpr s.2⟩)]
        exact c2
  refine ⟨?_, h2, ?_, c4, ?_, ?_, ?_⟩
  · rw [hJ1 1 (by omega) (by omega), hM1]; exact c1
  · rw [wI_at, wI_at]
  · rw [hJ1 1 (by omega) (by omega)]; exact c5
  · rw [wI_at]; exact e1
  · rw [wI_at]; exact e2
theorem over_0 (k : Nat) : 0 ≤ (m_over M N k).toInt := by
  unfold m_over
  split
  · decide
  split
  · decide
  · rename_i q
    rw [Int32.le_iff_toInt_le, k32_0] at q
    omega
theorem most_0 (x : Int32) : ∀ z, 0 ≤ (m_most M N x z).toInt
  | 0 => by rw [m_most]; decide
  | z + 1 => by
    rw [m_most]
    split
    · split
      · exact over_0 z
      · exact most_0 x z
    · exact most_0 x z
theorem RR_look (h : r_RR J M K N) (hc : c < 5) (hd : 0 ≤ d.toInt) : r_RR (u_look J (37 + 2 * c) d) (m_lk M c d) K N := by
  refine RR_cu h hc (fun k hk => u_look_c hk) (fun k j hk _ => ?_) (fun _ _ => rfl) (fun _ _ _ => rfl) (RC_look (h.2.2.2.1 c hc) hd)
  unfold m_lk
  rw [wI_ne (by omega)]
  unfold m_look2 m_look1
  split
  · split
    · rw [wI_ne (by omega), wI_ne (by omega)]
    · rw [wI_ne (by omega)]
  · split
    · rw [wI_ne (by omega)]
    · rfl
theorem RR_ls (h : r_RR J M K N) (hc : c < 5) : r_RR (u_ls J K c z) (m_look M N c z) K N := by
  unfold u_ls m_look
  rw [most_eq h.2.2.2.2.2.2.1 h.1.1]
  exact RR_look h hc (most_0 _ _)
theorem RR_lks (h : r_RR J M K N) : ∀ c, c ≤ 5 → r_RR (u_lks J K z c) (m_lks M N z c) K N
  | 0, _ => h
  | c + 1, hc => by
    rw [u_lks, m_lks]
    exact RR_ls (RR_lks h c (by omega)) (by omega)
end PT14
