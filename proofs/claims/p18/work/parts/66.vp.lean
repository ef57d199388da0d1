/-! both sides, held together -/
section PT16
variable {J M J' M' : qJ} {K N K' N' : rLg} {c z zp T t F G D ne : Nat} {w d : Int32}
theorem nar_live {x : Int32} (h : -1 ≤ x.toInt) (h2 : x.toInt ≤ 2) : vp_nar .byte ((Int32.toInt8 x).toInt32) = x := by
  rcases (show x.toInt = -1 ∨ x.toInt = 0 ∨ x.toInt = 1 ∨ x.toInt = 2 by omega) with q | q | q | q
  · have e : x = -1 := Int32.toInt_inj.mp q
    rw [e]; decide +kernel
  · have e : x = 0 := Int32.toInt_inj.mp q
    rw [e]; decide +kernel
  · have e : x = 1 := Int32.toInt_inj.mp q
    rw [e]; decide +kernel
  · have e : x = 2 := Int32.toInt_inj.mp q
    rw [e]; decide +kernel
/-- today's rows are written down -/
theorem kps_at (hB : ∀ c, c < 5 → qB (J (37 + 2 * c) 2)) (hR : ∀ c, c < 5 → r_RC J M K N c) (hT : J 0 9 = nI T) (hT2 : T ≤ 400) : ∀ n, n ≤ 5 → ∀ c, c < 5 → ∀ d, u_kps J n (38 + 2 * c) d = if c < n ∧ d = T then u_liveNow J (37 + 2 * c) else J (38 + 2 * c) d
  | 0, _, c, _, d => by rw [u_kps, if_neg (by omega)]
  | n + 1, hn, c, hc, d => by
    have ih := kps_at hB hR hT hT2 n (by omega)
    have h09 : u_kps J n 0 9 = nI T := (fr_kps (by omega) n (by omega)).trans hT
    have hl : u_liveNow (u_kps J n) (37 + 2 * n) = u_liveNow J (37 + 2 * n) := by
      unfold u_liveNow
      rw [fr_kps (by omega) n (by omega), fr_kps (by omega) n (by omega)]
    have hr : -1 ≤ (u_liveNow J (37 + 2 * n)).toInt ∧ (u_liveNow J (37 + 2 * n)).toInt ≤ 2 := by
      unfold u_liveNow
      split
      · exact (hR n (by omega)).2.2.2.2.1
      · decide
    rw [u_kps, u_keep, h09, if_neg (nI_pos (by omega)), if_neg (show ¬ (401 : Int32) ≤ nI T from fun r => absurd ((nI_leI (a := 401) (b := T) (by omega) (by omega)).mp r) (by omega)), nI_clamp (by omega), hl, nar_live hr.1 hr.2]
    rcases Decidable.em (c = n ∧ d = T) with ⟨q1, q2⟩ | q
    · subst q1; subst q2
      rw [wI_at, if_pos ⟨by omega, rfl⟩]
    · rw [wI_ne (by omega), ih c hc d]
      by_cases r : c < n ∧ d = T
      · rw [if_pos r, if_pos ⟨by omega, r.2⟩]
      · rw [if_neg r, if_neg (by omega)]
theorem was_at (hT2 : T ≤ 400) : ∀ n, n ≤ 5 → ∀ c, c < 5 → ∀ d, d ≤ 400 → m_was M T n 62 (401 * c + d) = if c < n ∧ d = T then (if M 59 c = 1 then 0 else M 58 c + 1) else M 62 (401 * c + d)
  | 0, _, c, _, d, _ => by rw [m_was, if_neg (by omega)]
  | n + 1, hn, c, hc, d, hd => by
    have ih := was_at hT2 n (by omega)
    rw [m_was, m_was_ne (by omega), m_was_ne (by omega)]
    rcases Decidable.em (c = n ∧ d = T) with ⟨q1, q2⟩ | q
    · subst q1; subst q2
      rw [wI_at, if_pos (show c < c + 1 ∧ d = d from ⟨by omega, rfl⟩)]
    · rw [wI_ne (by omega), ih c hc d hd]
      by_cases r : c < n ∧ d = T
      · rw [if_pos r, if_pos (show c < n + 1 ∧ d = T from ⟨by omega, r.2⟩)]
      · rw [if_neg r, if_neg (show ¬ (c < n + 1 ∧ d = T) by omega)]
theorem RR_pass (h : r_RR J M K N) (hB : ∀ c, c < 5 → qB (J (37 + 2 * c) 2)) (hT : J 0 9 = nI T) (hT2 : T < 400) : r_RR (u_pass J K z) (m_day M N z T) K N := by
  unfold u_pass m_day
  refine RR_lks ?_ 5 (Nat.le_refl _)
  obtain ⟨⟨h1, h2⟩, h3, h4, h5, h6, h7, h8, h9⟩ := h
  have hJ : ∀ k, k < 37 ∨ k % 2 = 1 ∨ 47 ≤ k → k ≠ 0 → wI (u_kps J 5) 0 9 (u_kps J 5 0 9 + 1) k = J k := fun k hk h0 => by
    rw [wI_c9 h0]
    exact funext fun j => fr_kps hk 5 (Nat.le_refl _)
  have hM : ∀ k j, k ≠ 62 → (k ≠ 47 ∨ j ≠ 2) → wI (m_was M T 5) 47 2 (nI (T + 1)) k j = M k j := fun k j hk hj => by
    rw [wI_ne (by omega), m_was_ne hk]
  have hMk : ∀ k, k ≠ 62 → k ≠ 47 → wI (m_was M T 5) 47 2 (nI (T + 1)) k = M k := fun k hk hj => funext fun j => hM k j hk (Or.inl hj)
  have h09 : wI (u_kps J 5) 0 9 (u_kps J 5 0 9 + 1) 0 9 = nI (T + 1) := by
    rw [wI_at, fr_kps (by omega) 5 (Nat.le_refl _), hT, nI_1]
  refine ⟨⟨?_, h2⟩, ⟨?_, ?_⟩, fun t ht => TR_congr (h4 t ht) (fun k _ _ => hJ k (by omega) (by omega)) (fun k j _ _ _ _ => hM k j (by omega) (by omega)), fun c hc => RC_congr hc (h5 c hc) (hJ _ (by omega) (by omega)) (fun k _ _ => hM _ _ (by omega) (by omega)) rfl rfl, ?_, RE_congr h7 (fun k _ _ => hJ k (by omega) (by omega)) (by rw [hJ _ (by omega) (by omega)]) (fun k _ _ => hMk k (by omega) (by omega)) (hM _ _ (by omega) (by omega)), RI_congr h8 (hJ _ (by omega) (by omega)) (hJ _ (by omega) (by omega)) (hJ _ (by omega) (by omega)) (by rw [hJ _ (by omega) (by omega)]) (fun k _ _ => hMk k (by omega) (by omega)) (hM _ _ (by omega) (by omega)) rfl rfl rfl rfl, RP_congr h9 (fun k _ _ => hJ k (by omega) (by omega)) (by rw [hJ _ (by omega) (by omega)]) (fun k _ _ => hMk k (by omega) (by omega)) (hM _ _ (by omega) (by omega)) rfl rfl⟩
  · rw [h09, wI_at]
  · rw [hJ _ (by omega) (by omega), hM _ _ (by omega) (by omega)]; exact h3.1
  · rw [hJ _ (by omega) (by omega), hMk _ (by omega) (by omega)]; exact h3.2
  · intro c hc d hd
    have hd2 : d ≤ T := by
      unfold r_tO at hd
      rw [h09, nI_clamp (by omega)] at hd
      omega
    rw [wI_ne (by omega), wI_ne (by omega), kps_at hB h5 hT (by omega) 5 (Nat.le_refl _) c hc d, was_at (by omega) 5 (Nat.le_refl _) c hc d (by omega)]
    by_cases q : d = T
    · rw [if_pos ⟨hc, q⟩, if_pos ⟨hc, q⟩]
      obtain ⟨c1, c2, c3, c4, c5, c6⟩ := h5 c hc
      unfold u_liveNow
      rw [← c1, ← c2]
      rcases hB c hc with r | r
      · rw [r, if_pos rfl, if_neg (by decide), Int32.add_sub_cancel]
        exact ⟨rfl, c5⟩
      · rw [r, if_neg (by decide), if_pos rfl]
        exact ⟨by decide, by decide⟩
    · rw [if_neg (fun r => q r.2), if_neg (fun r => q r.2)]
      exact h6 c hc d (by unfold r_tO; rw [hT, nI_clamp (by omega)]; omega)
/-- both sides, day by day -/
theorem RR_tk {I : qJ} (h : r_RR J M K N) (hC : CF I J) (hT : J 0 9 = nI T) : ∀ k, T + k ≤ 400 → r_RR (u_tk J K z k) (m_tk M N z T k) K N
  | 0, _ => h
  | k + 1, hk => by
    rw [u_tk, m_tk]
    have hk2 := CF_tk (L := K) (z := z) hC hT k (by omega)
    exact RR_pass (RR_tk h hC hT k (by omega)) hk2.1.2.2.2.2.2.2.2 (by rw [u_tk_09, hT, nI_add]) (by omega)
end PT16
