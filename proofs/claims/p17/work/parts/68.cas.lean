/-! the cases of the law, in any state that a run reaches: no comparison -/
section NC
variable {l : Launch} {b Ln : Nat} {xs : Nat → Int32} {E : qE} {X : qXC} {a kc ks : Nat} {I : qJ} {L : Nat → Nat → Int64}
theorem n_text (hfl : l.flags = pinnedFlags ++ [noTraceFlag]) (hI : Inv I) (ha : a + 5 ≤ Ln) (hLn : Ln < 2 ^ 31) (hkc : kc + 1 ≤ 601024) (hks : ks + 6 ≤ 7293034) (kk : ∀ I2 L2, Inv I2 → qR (qKL l b Ln xs) E X 862 (lwV a) [] 77 (kc + 1) (ks + 6) (fm I2 L2)) : qR (qKL l b Ln xs) E X 120 (lwV a) [] 77 kc ks (fm I L) := by
  obtain ⟨hFD, ⟨T, hT2, hT⟩, ⟨ne, hne2, hne⟩, hTz, ⟨z, hz2, hz⟩, ⟨zp, hzp2, hzp⟩, ⟨n, hn2, hn⟩, hB⟩ := id hI.1
  have hS := CF_self hI.1
  refine lc_text ha hLn hkc hks (fun I _ => Inv I) (w_text (qSp2_of hfl (by decide +kernel) (Nat.le_of_ble_eq_true rfl) (by omega) (r_bf_text l false I L n hn hn2 (lwJ (xs (a + 1)) (xs (a + 2))))) (fun En h => h.imp And.left And.left)) ?_ (fun I2 L2 h => kk I2 L2 h)
  rintro v n9 f ⟨rfl, h⟩
  rcases h with ⟨hc, rfl, rfl⟩ | ⟨q, hq, hp, rfl, rfl⟩
  · refine inv_hit ?_ (fun I1 L1 h1 => v_text l (I := I1) (L := L1) h1 (lwJ (xs (a + 1)) (xs (a + 2))))
    refine Inv_C hI ?_
    exact CF_ap hS 8 hc.2
  · exact inv_hit hI (fun I1 L1 h1 => v_text l (I := I1) (L := L1) h1 (lwJ (xs (a + 1)) (xs (a + 2))))
theorem n_use (hfl : l.flags = pinnedFlags ++ [noTraceFlag]) (hI : Inv I) (ha : a + 5 ≤ Ln) (hLn : Ln < 2 ^ 31) (hkc : kc + 1 ≤ 601024) (hks : ks + 6 ≤ 7293034) (kk : ∀ I2 L2, Inv I2 → qR (qKL l b Ln xs) E X 862 (lwV a) [] 77 (kc + 1) (ks + 6) (fm I2 L2)) : qR (qKL l b Ln xs) E X 221 (lwV a) [] 77 kc ks (fm I L) := by
  obtain ⟨hFD, ⟨T, hT2, hT⟩, ⟨ne, hne2, hne⟩, hTz, ⟨z, hz2, hz⟩, ⟨zp, hzp2, hzp⟩, ⟨n, hn2, hn⟩, hB⟩ := id hI.1
  have hS := CF_self hI.1
  refine lc_use ha hLn hkc hks (fun I _ => Inv I) (w_use (qSp2_of hfl (by decide +kernel) (Nat.le_of_ble_eq_true rfl) (by omega) (r_bf_use l false I L (cT_of hI.1) (xs (a + 1)) (xs (a + 2)))) (fun En h => h.1)) ?_ (fun I2 L2 h => kk I2 L2 h)
  rintro v n9 f ⟨rfl, h⟩
  rcases h with ⟨hc, rfl, rfl⟩ | ⟨q, hq, hp, rfl, rfl⟩
  · refine inv_hit ?_ (fun I1 L1 h1 => v_use l (I := I1) (L := L1) h1 (xs (a + 1)) (xs (a + 2)))
    refine Inv_C hI ?_
    exact hS
  · exact inv_hit hI (fun I1 L1 h1 => v_use l (I := I1) (L := L1) h1 (xs (a + 1)) (xs (a + 2)))
theorem n_subscribe (hfl : l.flags = pinnedFlags ++ [noTraceFlag]) (hI : Inv I) (ha : a + 5 ≤ Ln) (hLn : Ln < 2 ^ 31) (hkc : kc + 1 ≤ 601024) (hks : ks + 6 ≤ 7293034) (kk : ∀ I2 L2, Inv I2 → qR (qKL l b Ln xs) E X 862 (lwV a) [] 77 (kc + 1) (ks + 6) (fm I2 L2)) : qR (qKL l b Ln xs) E X 261 (lwV a) [] 77 kc ks (fm I L) := by
  obtain ⟨hFD, ⟨T, hT2, hT⟩, ⟨ne, hne2, hne⟩, hTz, ⟨z, hz2, hz⟩, ⟨zp, hzp2, hzp⟩, ⟨n, hn2, hn⟩, hB⟩ := id hI.1
  have hS := CF_self hI.1
  refine lc_subscribe ha hLn hkc hks (fun I _ => Inv I) (w_subscribe (qSp2_of hfl (by decide +kernel) (Nat.le_of_ble_eq_true rfl) (by omega) (r_bf_subscribe l false I L  (xs (a + 1)) (xs (a + 2)))) (fun En h => h.1)) ?_ (fun I2 L2 h => kk I2 L2 h)
  rintro v n9 f ⟨rfl, h⟩
  rcases h with ⟨hc, rfl, rfl⟩ | ⟨q, hq, hp, rfl, rfl⟩
  · refine inv_hit ?_ (fun I1 L1 h1 => v_subscribe l (I := I1) (L := L1) h1 (xs (a + 1)) (xs (a + 2)))
    refine Inv_C hI ?_
    obtain ⟨j, hj, hcj, hcl⟩ := C_of hc.1
    rw [hcl]
    exact CF_B (CF_w hS (by omega)) hj (by split; exact Or.inr rfl; exact Or.inl rfl)
  · exact inv_hit hI (fun I1 L1 h1 => v_subscribe l (I := I1) (L := L1) h1 (xs (a + 1)) (xs (a + 2)))
theorem n_pause (hfl : l.flags = pinnedFlags ++ [noTraceFlag]) (hI : Inv I) (ha : a + 5 ≤ Ln) (hLn : Ln < 2 ^ 31) (hkc : kc + 1 ≤ 601024) (hks : ks + 6 ≤ 7293034) (kk : ∀ I2 L2, Inv I2 → qR (qKL l b Ln xs) E X 862 (lwV a) [] 77 (kc + 1) (ks + 6) (fm I2 L2)) : qR (qKL l b Ln xs) E X 301 (lwV a) [] 77 kc ks (fm I L) := by
  obtain ⟨hFD, ⟨T, hT2, hT⟩, ⟨ne, hne2, hne⟩, hTz, ⟨z, hz2, hz⟩, ⟨zp, hzp2, hzp⟩, ⟨n, hn2, hn⟩, hB⟩ := id hI.1
  have hS := CF_self hI.1
  refine lc_pause (on := if xs (a + 2) = 0 then 0 else 1) ha hLn hkc hks (fun I _ => Inv I) rfl (w_pause (qSp2_of hfl (by decide +kernel) (Nat.le_of_ble_eq_true rfl) (by omega) (r_bf_pause l false I L  (xs (a + 1)) (if xs (a + 2) = 0 then 0 else 1) (by split; exact Or.inl rfl; exact Or.inr rfl) (hB))) (fun En h => h.imp And.left And.left)) ?_ (fun I2 L2 h => kk I2 L2 h)
  rintro v n9 f ⟨rfl, h⟩
  rcases h with ⟨hc, rfl, rfl⟩ | ⟨q, hq, hp, rfl, rfl⟩
  · refine inv_hit ?_ (fun I1 L1 h1 => v_pause l (I := I1) (L := L1) h1 (xs (a + 1)) (if xs (a + 2) = 0 then 0 else 1))
    refine Inv_C hI ?_
    obtain ⟨j, hj, hcj, hcl⟩ := C_of hc.1
    rw [hcl]
    exact CF_B hS hj (by split; exact Or.inl rfl; exact Or.inr rfl)
  · exact inv_hit hI (fun I1 L1 h1 => v_pause l (I := I1) (L := L1) h1 (xs (a + 1)) (if xs (a + 2) = 0 then 0 else 1))
theorem n_event (hfl : l.flags = pinnedFlags ++ [noTraceFlag]) (hI : Inv I) (ha : a + 5 ≤ Ln) (hLn : Ln < 2 ^ 31) (hkc : kc + 1 ≤ 601024) (hks : ks + 6 ≤ 7293034) (kk : ∀ I2 L2, Inv I2 → qR (qKL l b Ln xs) E X 862 (lwV a) [] 77 (kc + 1) (ks + 6) (fm I2 L2)) : qR (qKL l b Ln xs) E X 357 (lwV a) [] 77 kc ks (fm I L) := by
  obtain ⟨hFD, ⟨T, hT2, hT⟩, ⟨ne, hne2, hne⟩, hTz, ⟨z, hz2, hz⟩, ⟨zp, hzp2, hzp⟩, ⟨n, hn2, hn⟩, hB⟩ := id hI.1
  have hS := CF_self hI.1
  refine lc_event ha hLn hkc hks (fun I _ => Inv I) (w_event (qSp2_of hfl (by decide +kernel) (Nat.le_of_ble_eq_true rfl) (by omega) (r_bf_event l false I L ne hne hne2 (xs (a + 1)) (xs (a + 2)) (xs (a + 3)) (xs (a + 4)))) (fun En h => h.imp And.left (fun g => g.imp And.left And.left))) ?_ (fun I2 L2 h => kk I2 L2 h)
  rintro v n9 f ⟨rfl, h⟩
  rcases h with ⟨hc, rfl, rfl⟩ | ⟨q, hq, hp, rfl, rfl⟩
  · refine inv_hit ?_ (fun I1 L1 h1 => v_event l (I := I1) (L := L1) h1 (xs (a + 1)) (xs (a + 2)) (xs (a + 3)) (xs (a + 4)))
    refine Inv_C hI ?_
    split
    · exact hS
    · rename_i hu
      have h80 : ¬ ne = 80 := hc.2.2.resolve_left hu
      exact CF_gen (CF_w (CF_w (CF_w (CF_w hS (by omega)) (by omega)) (by omega)) (by omega)) (by omega) (by omega) (by omega) (fun _ _ => ⟨ne + 1, by omega, rfl⟩) (by omega) (by omega) (by omega) (by omega) (by omega)
  · exact inv_hit hI (fun I1 L1 h1 => v_event l (I := I1) (L := L1) h1 (xs (a + 1)) (xs (a + 2)) (xs (a + 3)) (xs (a + 4)))
theorem n_tick (hfl : l.flags = pinnedFlags ++ [noTraceFlag]) (hI : Inv I) (ha : a + 5 ≤ Ln) (hLn : Ln < 2 ^ 31) (hkc : kc + 1 ≤ 601024) (hks : ks + 6 ≤ 7293034) (kk : ∀ I2 L2, Inv I2 → qR (qKL l b Ln xs) E X 862 (lwV a) [] 77 (kc + 1) (ks + 6) (fm I2 L2)) : qR (qKL l b Ln xs) E X 421 (lwV a) [] 77 kc ks (fm I L) := by
  obtain ⟨hFD, ⟨T, hT2, hT⟩, ⟨ne, hne2, hne⟩, hTz, ⟨z, hz2, hz⟩, ⟨zp, hzp2, hzp⟩, ⟨n, hn2, hn⟩, hB⟩ := id hI.1
  have hS := CF_self hI.1
  refine lc_tick ha hLn hkc hks (fun I _ => Inv I) (w_tick (qSp2_of hfl (by decide +kernel) (Nat.le_of_ble_eq_true rfl) (by omega) (r_bf_tick l false I L z hz hz2 (xs (a + 1)))) (fun En h => h.imp And.left And.left)) ?_ (fun I2 L2 h => kk I2 L2 h)
  rintro v n9 f ⟨rfl, h⟩
  rcases h with ⟨hc, rfl, rfl⟩ | ⟨q, hq, hp, rfl, rfl⟩
  · refine inv_hit ?_ (fun I1 L1 h1 => v_tick l (I := I1) (L := L1) h1 (xs (a + 1)))
    refine Inv_C hI ?_
    have h4 := hc.2
    rw [hT] at h4
    exact CF_tk hS hT _ (tick_b hT2 hc.1 h4)
  · exact inv_hit hI (fun I1 L1 h1 => v_tick l (I := I1) (L := L1) h1 (xs (a + 1)))
theorem n_pay (hfl : l.flags = pinnedFlags ++ [noTraceFlag]) (hI : Inv I) (ha : a + 5 ≤ Ln) (hLn : Ln < 2 ^ 31) (hkc : kc + 1 ≤ 601024) (hks : ks + 6 ≤ 7293034) (kk : ∀ I2 L2, Inv I2 → qR (qKL l b Ln xs) E X 862 (lwV a) [] 77 (kc + 1) (ks + 6) (fm I2 L2)) : qR (qKL l b Ln xs) E X 462 (lwV a) [] 77 kc ks (fm I L) := by
  obtain ⟨hFD, ⟨T, hT2, hT⟩, ⟨ne, hne2, hne⟩, hTz, ⟨z, hz2, hz⟩, ⟨zp, hzp2, hzp⟩, ⟨n, hn2, hn⟩, hB⟩ := id hI.1
  have hS := CF_self hI.1
  refine lc_pay ha hLn hkc hks (fun I _ => Inv I) (w_pay (qSp2_of hfl (by decide +kernel) (Nat.le_of_ble_eq_true rfl) (by omega) (r_bf_pay l false I L z hz hz2 (xs (a + 1)) (lwJ (xs (a + 2)) (xs (a + 3))))) (fun En h => h.1)) ?_ (fun I2 L2 h => kk I2 L2 h)
  rintro v n9 f ⟨rfl, h⟩
  rcases h with ⟨hc, rfl, rfl⟩ | ⟨q, hq, hp, rfl, rfl⟩
  · refine inv_hit ?_ (fun I1 L1 h1 => v_pay l (I := I1) (L := L1) h1 (xs (a + 1)) (lwJ (xs (a + 2)) (xs (a + 3))))
    refine Inv_C hI ?_
    obtain ⟨j, hj, hcj, hcl⟩ := C_of hc.1
    rw [hcl]
    exact CF_spend hS hj
  · exact inv_hit hI (fun I1 L1 h1 => v_pay l (I := I1) (L := L1) h1 (xs (a + 1)) (lwJ (xs (a + 2)) (xs (a + 3))))
theorem n_plan (hfl : l.flags = pinnedFlags ++ [noTraceFlag]) (hI : Inv I) (ha : a + 5 ≤ Ln) (hLn : Ln < 2 ^ 31) (hkc : kc + 1 ≤ 601024) (hks : ks + 6 ≤ 7293034) (kk : ∀ I2 L2, Inv I2 → qR (qKL l b Ln xs) E X 862 (lwV a) [] 77 (kc + 1) (ks + 6) (fm I2 L2)) : qR (qKL l b Ln xs) E X 534 (lwV a) [] 77 kc ks (fm I L) := by
  obtain ⟨hFD, ⟨T, hT2, hT⟩, ⟨ne, hne2, hne⟩, hTz, ⟨z, hz2, hz⟩, ⟨zp, hzp2, hzp⟩, ⟨n, hn2, hn⟩, hB⟩ := id hI.1
  have hS := CF_self hI.1
  refine lc_plan ha hLn hkc hks (fun I _ => Inv I) (w_plan (qSp2_of hfl (by decide +kernel) (Nat.le_of_ble_eq_true rfl) (by omega) (r_bf_plan l false I L zp hzp hzp2 (xs (a + 1)) (lwJ (xs (a + 2)) (xs (a + 3))) (xs (a + 4)))) (fun En h => h.imp And.left And.left)) ?_ (fun I2 L2 h => kk I2 L2 h)
  rintro v n9 f ⟨rfl, h⟩
  rcases h with ⟨hc, rfl, rfl⟩ | ⟨q, hq, hp, rfl, rfl⟩
  · refine inv_hit ?_ (fun I1 L1 h1 => v_plan l (I := I1) (L := L1) h1 (xs (a + 1)) (lwJ (xs (a + 2)) (xs (a + 3))) (xs (a + 4)))
    refine Inv_C hI ?_
    have h10 := hc.2.2.2
    exact CF_gen (CF_w (CF_w (CF_w hS (by omega)) (by omega)) (by omega)) (by omega) (by omega) (by omega) (by omega) (by omega) (by omega) (fun _ _ => ⟨zp + 1, by omega, rfl⟩) (by omega) (by omega)
  · exact inv_hit hI (fun I1 L1 h1 => v_plan l (I := I1) (L := L1) h1 (xs (a + 1)) (lwJ (xs (a + 2)) (xs (a + 3))) (xs (a + 4)))
theorem n_charge (hfl : l.flags = pinnedFlags ++ [noTraceFlag]) (hI : Inv I) (ha : a + 5 ≤ Ln) (hLn : Ln < 2 ^ 31) (hkc : kc + 1 ≤ 601024) (hks : ks + 6 ≤ 7293034) (kk : ∀ I2 L2, Inv I2 → qR (qKL l b Ln xs) E X 862 (lwV a) [] 77 (kc + 1) (ks + 6) (fm I2 L2)) : qR (qKL l b Ln xs) E X 618 (lwV a) [] 77 kc ks (fm I L) := by
  obtain ⟨hFD, ⟨T, hT2, hT⟩, ⟨ne, hne2, hne⟩, hTz, ⟨z, hz2, hz⟩, ⟨zp, hzp2, hzp⟩, ⟨n, hn2, hn⟩, hB⟩ := id hI.1
  have hS := CF_self hI.1
  refine lc_charge ha hLn hkc hks (fun I _ => Inv I) (w_charge (qSp2_of hfl (by decide +kernel) (Nat.le_of_ble_eq_true rfl) (by omega) (r_bf_charge l false I L T ne hT hT2 hne hne2 (cT_of hI.1) FD0 (fun P hP => hFD P (by omega)) FD0_m (fun P hP => FD0_b P (by omega)) (xs (a + 1)) (xs (a + 2)))) (fun En h => h.1)) ?_ (fun I2 L2 h => kk I2 L2 h)
  rintro v n9 f ⟨rfl, h⟩
  rcases h with ⟨hc, rfl, rfl⟩ | ⟨q, hq, hp, rfl, rfl⟩
  · refine inv_hit ?_ (fun I1 L1 h1 => v_charge l (I := I1) (L := L1) h1 (xs (a + 1)) (xs (a + 2)))
    refine Inv_C hI ?_
    exact CF_cd hS _
  · exact inv_hit hI (fun I1 L1 h1 => v_charge l (I := I1) (L := L1) h1 (xs (a + 1)) (xs (a + 2)))
theorem n_invoice (hfl : l.flags = pinnedFlags ++ [noTraceFlag]) (hI : Inv I) (ha : a + 5 ≤ Ln) (hLn : Ln < 2 ^ 31) (hkc : kc + 1 ≤ 601024) (hks : ks + 6 ≤ 7293034) (kk : ∀ I2 L2, Inv I2 → qR (qKL l b Ln xs) E X 862 (lwV a) [] 77 (kc + 1) (ks + 6) (fm I2 L2)) : qR (qKL l b Ln xs) E X 658 (lwV a) [] 77 kc ks (fm I L) := by
  obtain ⟨hFD, ⟨T, hT2, hT⟩, ⟨ne, hne2, hne⟩, hTz, ⟨z, hz2, hz⟩, ⟨zp, hzp2, hzp⟩, ⟨n, hn2, hn⟩, hB⟩ := id hI.1
  have hS := CF_self hI.1
  refine lc_invoice ha hLn hkc hks (fun I _ => Inv I) (w_invoice (qSp2_of hfl (by decide +kernel) (Nat.le_of_ble_eq_true rfl) (by omega) (r_bf_invoice l false I L z hz hz2 (xs (a + 1)) (xs (a + 2)))) (fun En h => h.imp And.left And.left)) ?_ (fun I2 L2 h => kk I2 L2 h)
  rintro v n9 f ⟨rfl, h⟩
  rcases h with ⟨hc, rfl, rfl⟩ | ⟨q, hq, hp, rfl, rfl⟩
  · refine inv_hit ?_ (fun I1 L1 h1 => v_invoice l (I := I1) (L := L1) h1 (xs (a + 1)) (xs (a + 2)))
    refine Inv_C hI ?_
    exact hS
  · exact inv_hit hI (fun I1 L1 h1 => v_invoice l (I := I1) (L := L1) h1 (xs (a + 1)) (xs (a + 2)))
theorem n_told (hfl : l.flags = pinnedFlags ++ [noTraceFlag]) (hI : Inv I) (ha : a + 5 ≤ Ln) (hLn : Ln < 2 ^ 31) (hkc : kc + 1 ≤ 601024) (hks : ks + 6 ≤ 7293034) (kk : ∀ I2 L2, Inv I2 → qR (qKL l b Ln xs) E X 862 (lwV a) [] 77 (kc + 1) (ks + 6) (fm I2 L2)) : qR (qKL l b Ln xs) E X 698 (lwV a) [] 77 kc ks (fm I L) := by
  obtain ⟨hFD, ⟨T, hT2, hT⟩, ⟨ne, hne2, hne⟩, hTz, ⟨z, hz2, hz⟩, ⟨zp, hzp2, hzp⟩, ⟨n, hn2, hn⟩, hB⟩ := id hI.1
  have hS := CF_self hI.1
  refine lc_told ha hLn hkc hks (fun I _ => Inv I) (w_told (qSp2_of hfl (by decide +kernel) (Nat.le_of_ble_eq_true rfl) (by omega) (r_bf_told l false I L ne z zp hne hne2 hz hz2 hzp hzp2 hB (xs (a + 1)) (xs (a + 2)))) (fun En h => h.1)) ?_ (fun I2 L2 h => kk I2 L2 h)
  rintro v n9 f ⟨rfl, h⟩
  rcases h with ⟨hc, rfl, rfl⟩ | ⟨q, hq, hp, rfl, rfl⟩
  · refine inv_hit ?_ (fun I1 L1 h1 => v_told l (I := I1) (L := L1) h1 (xs (a + 1)) (xs (a + 2)))
    refine Inv_C hI ?_
    exact hS
  · exact inv_hit hI (fun I1 L1 h1 => v_told l (I := I1) (L := L1) h1 (xs (a + 1)) (xs (a + 2)))
theorem n_books (hfl : l.flags = pinnedFlags ++ [noTraceFlag]) (hI : Inv I) (ha : a + 5 ≤ Ln) (hLn : Ln < 2 ^ 31) (hkc : kc + 1 ≤ 601024) (hks : ks + 6 ≤ 7293034) (kk : ∀ I2 L2, Inv I2 → qR (qKL l b Ln xs) E X 862 (lwV a) [] 77 (kc + 1) (ks + 6) (fm I2 L2)) : qR (qKL l b Ln xs) E X 738 (lwV a) [] 77 kc ks (fm I L) := by
  obtain ⟨hFD, ⟨T, hT2, hT⟩, ⟨ne, hne2, hne⟩, hTz, ⟨z, hz2, hz⟩, ⟨zp, hzp2, hzp⟩, ⟨n, hn2, hn⟩, hB⟩ := id hI.1
  have hS := CF_self hI.1
  refine lc_books ha hLn hkc hks (fun I _ => Inv I) (w_books (qSp2_of hfl (by decide +kernel) (Nat.le_of_ble_eq_true rfl) (by omega) (r_bf_books l false I L ne z zp hne hne2 hz hz2 hzp hzp2 (xs (a + 1)))) (fun En h => h.1)) ?_ (fun I2 L2 h => kk I2 L2 h)
  rintro v n9 f ⟨rfl, h⟩
  rcases h with ⟨hc, rfl, rfl⟩ | ⟨q, hq, hp, rfl, rfl⟩
  · refine inv_hit ?_ (fun I1 L1 h1 => v_books l (I := I1) (L := L1) h1 (xs (a + 1)))
    refine Inv_C hI ?_
    exact hS
  · exact inv_hit hI (fun I1 L1 h1 => v_books l (I := I1) (L := L1) h1 (xs (a + 1)))
theorem n_count (hfl : l.flags = pinnedFlags ++ [noTraceFlag]) (hI : Inv I) (ha : a + 5 ≤ Ln) (hLn : Ln < 2 ^ 31) (hkc : kc + 1 ≤ 601024) (hks : ks + 6 ≤ 7293034) (kk : ∀ I2 L2, Inv I2 → qR (qKL l b Ln xs) E X 862 (lwV a) [] 77 (kc + 1) (ks + 6) (fm I2 L2)) : qR (qKL l b Ln xs) E X 834 (lwV a) [] 77 kc ks (fm I L) := by
  obtain ⟨hFD, ⟨T, hT2, hT⟩, ⟨ne, hne2, hne⟩, hTz, ⟨z, hz2, hz⟩, ⟨zp, hzp2, hzp⟩, ⟨n, hn2, hn⟩, hB⟩ := id hI.1
  have hS := CF_self hI.1
  refine lc_count ha hLn hkc hks (fun I _ => Inv I) (w_count (qSp2_of hfl (by decide +kernel) (Nat.le_of_ble_eq_true rfl) (by omega) (r_bf_count l false I L ne z zp hne hne2 hz hz2 hzp hzp2 (xs (a + 1)))) (fun En h => h.1)) ?_ (fun I2 L2 h => kk I2 L2 h)
  rintro v n9 f ⟨rfl, h⟩
  rcases h with ⟨hc, rfl, rfl⟩ | ⟨q, hq, hp, rfl, rfl⟩
  · refine inv_hit ?_ (fun I1 L1 h1 => v_count l (I := I1) (L := L1) h1 (xs (a + 1)))
    refine Inv_C hI ?_
    exact hS
  · exact inv_hit hI (fun I1 L1 h1 => v_count l (I := I1) (L := L1) h1 (xs (a + 1)))
theorem n_tariff (hfl : l.flags = pinnedFlags ++ [noTraceFlag]) (hI : Inv I) (ha : a + 5 ≤ Ln) (hLn : Ln < 2 ^ 31) (hkc : kc + 1 ≤ 601024) (hks : ks + 6 ≤ 7293034) (kk : ∀ I2 L2, Inv I2 → qR (qKL l b Ln xs) E X 862 (lwV a) [] 77 (kc + 1) (ks + 6) (fm I2 L2)) : qR (qKL l b Ln xs) E X 180 (lwV a) [] 77 kc ks (fm I L) := by
  obtain ⟨-, -, -, -, -, -, ⟨n, hn2, hn⟩, -⟩ := id hI.1
  have hS := CF_self hI.1
  refine lc_tariff ha hLn hkc hks (fun I _ => Inv I) (w_tariff (qSp2_of hfl (by decide +kernel) (Nat.le_of_ble_eq_true rfl) (by omega) (r_bf_tariff l false I L n hn hn2 (xs (a + 1)))) (fun En f h => h.1)) ?_ (fun I2 L2 h => kk I2 L2 h)
  rintro v n9 f ⟨rfl, h⟩
  rcases h with ⟨hc, rfl, rfl⟩ | ⟨q, hq, ⟨-, hp⟩, rfl⟩
  · refine inv_hit ?_ (fun I1 L1 h1 => v_tariff l (I := I1) (L := L1) h1 (xs (a + 1)))
    obtain ⟨j, hj, htj, hcl⟩ := T_of hc.1
    rw [hcl]
    exact Inv_C hI (CF_tr hS hn2 hj)
  · rcases hp with ⟨-, rfl⟩ | ⟨-, -, rfl⟩
    · exact inv_hit (Inv_C hI (CF_w hS (by omega))) (fun I1 L1 h1 => v_tariff l (I := I1) (L := L1) h1 (xs (a + 1)))
    · exact inv_hit (Inv_C hI (CF_ra9 hS hn2).1) (fun I1 L1 h1 => v_tariff l (I := I1) (L := L1) h1 (xs (a + 1)))
theorem n_where (hI : Inv I) (ha : a + 5 ≤ Ln) (hLn : Ln < 2 ^ 31) (hkc : kc + 1 ≤ 601024) (hks : ks + 6 ≤ 7293034) (kk : ∀ I2 L2, Inv I2 → qR (qKL l b Ln xs) E X 862 (lwV a) [] 77 kc ks (fm I2 L2)) : qR (qKL l b Ln xs) E X 208 (lwV a) [] 77 kc ks (fm I L) := by
  obtain ⟨b9, I2, L2, hm, h2⟩ := v_where l (L := L) hI
  exact lc_where ha hLn hkc hks (fun I _ => Inv I) (s_bf_where l false I L) hm h2 (fun I2 L2 h => kk I2 L2 h)
theorem n_run (hI : Inv I) (ha : a + 5 ≤ Ln) (hLn : Ln < 2 ^ 31) (hkc : kc + 1 ≤ 601024) (hks : ks + 6 ≤ 7293034) (kk : ∀ I2 L2, Inv I2 → qR (qKL l b Ln xs) E X 862 (lwV a) [] 77 kc ks (fm I2 L2)) : qR (qKL l b Ln xs) E X 449 (lwV a) [] 77 kc ks (fm I L) := by
  obtain ⟨hFD, ⟨T, hT2, hT⟩, ⟨ne, hne2, hne⟩, hTz, ⟨z, hz2, hz⟩, -, -, hB⟩ := id hI.1
  obtain ⟨pe, p1, p2, p3⟩ := pe_ex (fun P => FD0 (P + 1) ≤ T) 14
  have h1 : CF I (u_rc FD0 T ne pe (I, L) 5).1 := CF_rc (s := (I, L)) (CF_self hI.1) 5 (Nat.le_refl _)
  obtain ⟨b9, I2, L2, hm, h2⟩ := v_run l (L := (u_rc FD0 T ne pe (I, L) 5).2) (Inv_C hI h1)
  exact lc_run ha hLn hkc hks (fun I _ => Inv I) (s_bf_run l false I L FD0 T ne pe ⟨hFD, hT, hne, cT_of hI.1, z, hz2, hz⟩ hT2 hne2 FD0_m FD0_b p1 p2 (fun q => Nat.lt_of_not_le (p3 q))) hm h2 (fun I2 L2 h => kk I2 L2 h)
end NC
