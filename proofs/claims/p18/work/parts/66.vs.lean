/-! both sides, held together -/
section PT19
variable {J M J' M' : qJ} {K N K' N' : rLg} {c z zp T t F G D ne n : Nat} {d tt on : Int32} {a : Int64}
theorem rl_13 (hn2 : n ≤ 60) : ∀ (i : Nat) (X : qJ), rok n X X → u_rl n i X 1 3 = X 1 3
  | 0, X, _ => rfl
  | i + 1, X, hr => by
    rw [u_rl]
    split
    · have hs := rok_stp hn2 hr
      rw [rl_13 hn2 i (u_stp X n) ⟨hs.1, rfl, rfl, hs.2.2.2.1, fun _ _ _ _ _ _ => rfl⟩, hs.2.1]
    · rfl
theorem ra9_13 (hn2 : n ≤ 60) : u_ra9 J n 1 3 = J 1 3 := by
  unfold u_ra9
  rw [rl_13 hn2 62 (u_ri J) ⟨⟨0, Nat.zero_le _, by simp [u_ri, wI, va_up, upd, nI_0]⟩, rfl, rfl, ⟨0, by omega, by simp [u_ri, wI, va_up, upd, nI_0]⟩, fun _ _ _ _ _ _ => rfl⟩]
  simp [u_ri, wI, va_up, upd]
/-- tariff t is written anew -/
theorem RR_t1 (h : r_RR J M K N) (hJ : ∀ k, k = 0 ∨ k = 2 ∨ (7 ≤ k ∧ k < 47) → (k < 28 + 3 * t ∨ 30 + 3 * t < k) → J' k = J k) (hX : J' 1 3 = M' 47 4) (hM : ∀ k j, (k = 47 → j = 2 ∨ j = 23 ∨ j = 29 ∨ j = 34) → (49 ≤ k → k ≤ 55 → j < 3 ∧ j ≠ t) → (k = 56 ∨ k = 57 → j < 12 ∧ (j < 4 * t ∨ 4 * t + 4 ≤ j)) → 47 ≤ k → M' k j = M k j) (hT : t < 3) (hR : r_TR J' M' t) : r_RR J' M' K N := by
  have hMk : ∀ k, k = 48 ∨ 57 < k → M' k = M k := fun k g => funext fun j => hM k j (by omega) (by omega) (by omega) (by omega)
  obtain ⟨⟨h1, h2⟩, h3, h4, h5, h6, h7, h8, h9⟩ := h
  refine ⟨⟨?_, h2⟩, ⟨hX, ?_⟩, fun t' ht' => ?_, fun c hc => RC_congr hc (h5 c hc) (hJ _ (by omega) (by omega)) (fun k _ _ => by rw [hMk _ (by omega)]) rfl rfl, RH_congr h6 (by rw [hJ _ (by omega) (by omega)]) (fun c hc => hJ _ (by omega) (by omega)) (hMk _ (by omega)), RE_congr h7 (fun k _ _ => hJ k (by omega) (by omega)) (by rw [hJ _ (by omega) (by omega)]) (fun k _ _ => hMk k (by omega)) (hM _ _ (by omega) (by omega) (by omega) (by omega)), RI_congr h8 (hJ _ (by omega) (by omega)) (hJ _ (by omega) (by omega)) (hJ _ (by omega) (by omega)) (by rw [hJ _ (by omega) (by omega)]) (fun k _ _ => hMk k (by omega)) (hM _ _ (by omega) (by omega) (by omega) (by omega)) rfl rfl rfl rfl, RP_congr h9 (fun k _ _ => hJ k (by omega) (by omega)) (by rw [hJ _ (by omega) (by omega)]) (fun k _ _ => hMk k (by omega)) (hM _ _ (by omega) (by omega) (by omega) (by omega)) rfl rfl⟩
  · rw [hJ _ (by omega) (by omega), hM _ _ (by omega) (by omega) (by omega) (by omega)]; exact h1
  · rw [hJ _ (by omega) (by omega), hMk _ (by omega)]; exact h3.2
  · rcases Decidable.em (t' = t) with q | q
    · rw [q]; exact hR
    · exact TR_congr (h4 t' ht') (fun k _ _ => hJ k (by omega) (by omega)) (fun k j _ _ _ _ => hM k j (by omega) (by omega) (by omega) (by omega))
/-- nothing of the relation's cells is written -/
theorem RR_t0 (h : r_RR J M K N) (hJ : ∀ k, k = 0 ∨ k = 2 ∨ (7 ≤ k ∧ k < 47) → J' k = J k) (hX : J' 1 3 = M' 47 4) (hM : ∀ k j, (k = 47 → j = 2 ∨ j = 23 ∨ j = 29 ∨ j = 34) → (49 ≤ k → k ≤ 55 → j < 3) → (k = 56 ∨ k = 57 → j < 12) → 47 ≤ k → M' k j = M k j) : r_RR J' M' K N :=
  RR_t1 (t := 0) h (fun k h1 _ => hJ k h1) hX (fun k j h1 h2 h3 h4 => hM k j h1 (by omega) (by omega) h4) (by omega) (TR_congr (h.2.2.1 0 (by omega)) (fun k _ _ => hJ k (by omega)) (fun k j _ _ _ _ => hM k j (by omega) (by omega) (by omega) (by omega)))
theorem tf_eq (h : r_RR J M K N) (hn : J 1 3 = nI n) (hn2 : n ≤ 60) (ht : t < 3) (htt : tt = nI t) :
    (u_ra9 J n 1 6 = -2 ∧ r_RR (u_tr J n t) (m_tf M n tt).2 K N ∧ (m_tf M n tt).2 47 0 = 0 ∧ u_ra9 J n 1 5 = (m_tf M n tt).1) ∨
    (¬ u_ra9 J n 1 6 = -2 ∧ r_RR (u_ra9 J n) (m_tf M n tt).2 K N ∧ (m_tf M n tt).2 47 0 = 1) := by
  have g : 0 ≤ Int32.toInt64 tt ∧ Int32.toInt64 tt ≤ 2 := by
    rw [htt, Int64.le_iff_toInt_le, Int64.le_iff_toInt_le, Int32.toInt_toInt64, nI_toInt (by omega), k64_z, show (2 : Int64).toInt = 2 by decide]
    omega
  have hcl : tt.toNatClampNeg = t := by rw [htt]; exact nI_clamp (by omega)
  have hnm : M 47 4 = nI n := h.2.1.1.symm.trans hn
  have hn1 : wI M 47 1 (-2) 47 4 = nI n := (wI_ne (by omega)).trans hnm
  have hM1 : ∀ k j, (k = 47 → j ≠ 1 ∧ j ≠ 36 ∧ j ≠ 37 ∧ j ≠ 38) → (49 ≤ k → k ≤ 55 → j ≠ 3) → (56 ≤ k → k ≤ 57 → j < 12) → (m_read (wI M 47 1 (-2)) n).2 k j = M k j := fun k j h1 h2 h3 => by
    rw [fm_read hn1 hn2 (by unfold mfr; exact ⟨h1, h2, h3⟩), wI_ne (by omega)]
  have hJ1 : ∀ k, k = 0 ∨ k = 2 ∨ 7 ≤ k → u_ra9 J n k = J k := fun k hk => funext fun j => fr_ra9 hn2 (by omega)
  unfold m_tf
  rw [if_pos g, hcl]
  rcases read_eq (J := J) (M := wI M 47 1 (-2)) (n := n) (by rw [wI_c9 (by omega)]; exact h.2.1.2) hn1 hn2 with ⟨q1, q2⟩ | ⟨q1, q2, q3⟩
  · right
    rw [if_pos q2]
    refine ⟨q1, ?_, by dsimp only; rw [wI_at]⟩
    refine RR_t0 h (fun k hk => hJ1 k (by omega)) ?_ (fun k j h1 h2 h3 h4 => ?_)
    · dsimp only
      rw [wI_ne (by omega), hM1 _ _ (by omega) (by omega) (by omega), ra9_13 hn2]
      exact h.2.1.1
    · dsimp only
      rw [wI_ne (by omega), hM1 _ _ (by omega) (by omega) (by omega)]
  · left
    rw [if_neg (by rw [q2]; decide)]
    refine ⟨q1, ?_, ?_, ?_⟩
    · refine RR_t1 (t := t) h (fun k hk hk2 => ?_) ?_ (fun k j h1 h2 h3 h4 => ?_) ht ?_
      · unfold u_tr
        rw [wI_c9 (by omega), u_cp_c (by omega) (by omega) (by omega)]
        exact hJ1 k (by omega)
      · dsimp only
        unfold u_tr m_cp
        rw [wI_at, wI_at]
      · dsimp only
        rw [mcp_ne (by omega), hM1 _ _ (by omega) (by omega) (by omega)]
      · dsimp only
        unfold u_tr
        exact TR_congr (cp_TR q3 ht) (fun k _ _ => wI_c9 (by omega)) (fun _ _ _ _ _ _ => rfl)
    · dsimp only
      have hB : ∀ (X : qJ) (i : Nat), m_cB X t i 47 0 = X 47 0 := fun X i => by
        unfold m_cB m_c2
        rw [wI_ne (by omega), wI_ne (by omega)]
      have hA : ∀ (X : qJ) (d : Nat), 49 ≤ d → m_c1 d X t 47 0 = X 47 0 := fun X d hd => by
        unfold m_c1
        rw [wI_ne (by omega)]
      unfold m_cp m_cA
      rw [wI_ne (by omega), hB, hB, hB, hB, hA _ 55 (by omega), hA _ 54 (by omega), hA _ 53 (by omega), hA _ 52 (by omega), hA _ 51 (by omega), hA _ 50 (by omega), hA _ 49 (by omega), wI_at]
    · dsimp only
      rw [mcp_ne (by omega)]
      exact q3.1
theorem tf_no (h : r_RR J M K N) (ht : noT tt) : r_RR (wI J 1 6 (-2)) (m_tf M n tt).2 K N ∧ (m_tf M n tt).2 47 0 = 1 := by
  unfold m_tf
  rw [if_neg (fun q => (in_T tt).mp q ht)]
  refine ⟨?_, by dsimp only; rw [wI_at]⟩
  refine RR_t0 h (fun k hk => wI_c9 (by omega)) ?_ (fun k j h1 h2 h3 h4 => ?_)
  · dsimp only
    rw [wI_ne (by omega), wI_ne (by omega), wI_ne (by omega)]
    exact h.2.1.1
  · dsimp only
    rw [wI_ne (by omega), wI_ne (by omega)]
end PT19
