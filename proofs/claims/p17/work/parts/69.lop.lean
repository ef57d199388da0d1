/-! date, compared; the loop; the claim -/
section PL
variable {l : Launch} {b Ln : Nat} {xs : Nat → Int32} {E : qE} {X : qXC} {a kc ks : Nat} {I : qJ} {L : Nat → Nat → Int64}
theorem n_date (hfl : l.flags = pinnedFlags ++ [noTraceFlag]) (hI : Inv I) (ha : a + 5 ≤ Ln) (hLn : Ln < 2 ^ 31) (hkc : kc + 1 ≤ 601024) (hks : ks + 6 ≤ 7293034) (kk : ∀ I2 L2, Inv I2 → qR (qKL l b Ln xs) E X 862 (lwV a) [] 77 (kc + 1) (ks + 6) (fm I2 L2)) : qR (qKL l b Ln xs) E X 766 (lwV a) [] 77 kc ks (fm I L) := by
  have hM2 : ∀ v L9, Inv (wI I 47 0 v) ∧ L9 = (L9 : Nat → Nat → Int64) := fun v L9 => ⟨Inv_M hI (MF_w (MF_self hI.2) (by omega)), rfl⟩
  by_cases hd : xs (a + 1) < 0 ∨ 100000 < xs (a + 1)
  · refine lc_date ha hLn hkc hks (fun I _ => Inv I) (w_date (qSp2_of hfl (by decide +kernel) (Nat.le_of_ble_eq_true rfl) (by omega) (r_bf_date l false I L (xs (a + 1)) (xs (a + 2)) 0 0 0 (fun h => absurd hd h))) (fun En h => h.1)) ?_ (fun I2 L2 h => kk I2 L2 h)
    revert hd
    generalize xs (a + 1) = d
    generalize xs (a + 2) = w
    intro hd
    rintro v n f ⟨rfl, h⟩
    rcases h with ⟨⟨hc1, -⟩, rfl, rfl⟩ | ⟨q, hq, ⟨-, hp⟩, rfl, rfl⟩
    · exact absurd hd hc1
    · simp only [List.mem_cons, List.not_mem_nil, or_false] at hq
      subst hq
      refine ⟨_, _, _, _, _, _, rfl, rfl, rfl, s_md_date l false _ _ d w 0 (fun h => absurd hd ((in_date d).mp h.1)), ?_, fun h => absurd h (by decide), (hM2 _ L).1⟩
      rw [if_neg (fun h => absurd hd ((in_date d).mp h.1))]
      exact wI_at _ _ _ _
  · obtain ⟨D, P, hD, hdD, hP, h1, h2⟩ := day_at hd
    obtain ⟨g1, g2, g3, g4, g5, g6, g7, g8, g9, g10⟩ := date_u hD hP h1 h2
    have hq : P / 12 < 400 := by omega
    refine lc_date ha hLn hkc hks (fun I _ => Inv I) (w_date (qSp2_of hfl (by decide +kernel) (Nat.le_of_ble_eq_true rfl) (by omega) (r_bf_date l false I L (xs (a + 1)) (xs (a + 2)) (2000 + D / 366) (2000 + P / 12) (P % 12) (fun _ => by
      rw [hdD, g9]
      exact ⟨g1, g2, g3, g4, g5, g6, g7, g8, g10⟩))) (fun En h => h.1)) ?_ (fun I2 L2 h => kk I2 L2 h)
    revert hd hdD
    generalize xs (a + 1) = d
    generalize xs (a + 2) = w
    intro hd hdD
    rintro v n f ⟨rfl, h⟩
    rcases h with ⟨⟨hc1, hc2⟩, rfl, rfl⟩ | ⟨q, hq, ⟨-, hp⟩, rfl, rfl⟩
    · refine ⟨0, _, _, _, _, _, rfl, rfl, rfl, s_md_date l false _ _ d w P (fun _ => by rw [hdD]; exact date_m hD hP h1 h2), ?_, fun _ => ?_, (hM2 _ L).1⟩
      · rw [if_pos ⟨(in_date d).mpr hd, (in_3 w).mpr hc2⟩]
        exact wI_at _ _ _ _
      · rw [wL_at9, g9]
        rw [if_pos (show (0 ≤ Int32.toInt64 d ∧ Int32.toInt64 d ≤ 100000) ∧ (0 ≤ Int32.toInt64 w ∧ Int32.toInt64 w ≤ 3) from ⟨(in_date d).mpr hd, (in_3 w).mpr hc2⟩)]
        congr 1
        unfold m_date
        by_cases w0 : w = 0
        · rw [if_pos w0, if_pos w0]
        rw [if_neg w0, if_neg w0]
        by_cases w1 : w = 1
        · rw [if_pos w1, if_pos w1]
        rw [if_neg w1, if_neg w1]
        by_cases w2 : w = 2
        · rw [if_pos w2, if_pos w2, hdD, m_left_n P (by omega) h1]
          have e1 : nI P / 12 = nI (P / 12) := nI_div (b := 12) (by omega) (by decide)
          have e2 : 2000 + nI P / 12 = nI (2000 + P / 12) := by
            rw [e1]
            show nI 2000 + nI (P / 12) = _
            rw [nI_add]
          rw [e2, u_md_n (by omega) (P % 12) (by omega), show 12 * (P / 12) + P % 12 = P by omega, nI_sub h1]
        · rw [if_neg w2, if_neg w2]
    · simp only [List.mem_cons, List.not_mem_nil, or_false] at hq
      subst hq
      refine ⟨_, _, _, _, _, _, rfl, rfl, rfl, s_md_date l false _ _ d w P (fun _ => by rw [hdD]; exact date_m hD hP h1 h2), ?_, fun h => absurd h (by decide), (hM2 _ L).1⟩
      rw [if_neg (fun h => hp ⟨(in_date d).mp h.1, (in_3 w).mp h.2⟩)]
      exact wI_at _ _ _ _
end PL
theorem Inv_I0 : Inv I0 := by
  refine ⟨⟨FD0_I, ⟨0, by omega, rfl⟩, ⟨0, by omega, rfl⟩, fun t ht => ⟨0, by omega, ?_⟩, ⟨0, by omega, rfl⟩, ⟨0, by omega, rfl⟩, ⟨0, by omega, rfl⟩, fun c hc => Or.inl (I0_cu hc).2.1⟩, ⟨0, by omega, rfl⟩, ⟨0, by omega, rfl⟩, fun e he => ⟨0, by omega, ?_⟩, fun t ht => ⟨0, by omega, ?_⟩, ⟨0, by omega, rfl⟩, ⟨0, by omega, rfl, fun i hi => absurd hi (by omega)⟩, ⟨0, by omega, rfl⟩⟩
  all_goals exact (I0_z (by omega)).trans nI_0.symm
theorem c_loop (l : Launch) (hfl : l.flags = pinnedFlags ++ [noTraceFlag]) {b Ln : Nat} {xs : Nat → Int32} (hLn : Ln ≤ 2560) (E : qE) (X : qXC) (hE : ∀ n f, E (some (.int 1)) n f) : ∀ (j a kc ks : Nat) (I : qJ) (L : Nat → Nat → Int64), Ln - a < j → a ≤ 2565 → kc ≤ 77 + a → ks ≤ 5632 + 6 * a → Inv I → qR (qKL l b Ln xs) E X 23 (lwV a) [] 77 kc ks (fm I L) := by
  intro j
  induction j with
  | zero => intro a kc ks I L hj; omega
  | succ j ih =>
    intro a kc ks I L hj ha hkc hks hI
    refine lw_hd (by omega) (by omega) (by omega) (by omega) (fun _ => hE _ _) (fun hL => ?_)
    have kk1 : ∀ I2 L2, Inv I2 → qR (qKL l b Ln xs) E X 862 (lwV a) [] 77 (kc + 1) (ks + 6) (fm I2 L2) := fun I2 L2 h => lw_nx (ih (a + 5) (kc + 1) (ks + 6) I2 L2 (by omega) (by omega) (by omega) (by omega) h)
    have kk0 : ∀ I2 L2, Inv I2 → qR (qKL l b Ln xs) E X 862 (lwV a) [] 77 kc ks (fm I2 L2) := fun I2 L2 h => lw_nx (ih (a + 5) kc ks I2 L2 (by omega) (by omega) (by omega) (by omega) h)
    exact lw_sw hL (by omega) (n_text hfl hI hL (by omega) (by omega) (by omega) kk1) (n_tariff hfl hI hL (by omega) (by omega) (by omega) kk1) (n_where hI hL (by omega) (by omega) (by omega) kk0) (n_use hfl hI hL (by omega) (by omega) (by omega) kk1) (n_subscribe hfl hI hL (by omega) (by omega) (by omega) kk1) (n_pause hfl hI hL (by omega) (by omega) (by omega) kk1) (n_event hfl hI hL (by omega) (by omega) (by omega) kk1) (n_tick hfl hI hL (by omega) (by omega) (by omega) kk1) (n_run hI hL (by omega) (by omega) (by omega) kk0) (n_pay hfl hI hL (by omega) (by omega) (by omega) kk1) (n_plan hfl hI hL (by omega) (by omega) (by omega) kk1) (n_charge hfl hI hL (by omega) (by omega) (by omega) kk1) (n_invoice hfl hI hL (by omega) (by omega) (by omega) kk1) (n_told hfl hI hL (by omega) (by omega) (by omega) kk1) (n_books hfl hI hL (by omega) (by omega) (by omega) kk1) (n_date hfl hI hL (by omega) (by omega) (by omega) kk1) (n_count hfl hI hL (by omega) (by omega) (by omega) kk1) (kk0 I L hI)
