/-! the cases of the law, in any state that a run reaches -/
section FU
variable {l : Launch} {b Ln : Nat} {xs : Nat → Int32} {E : qE} {X : qXC} {a kc ks : Nat} {I : qJ} {L : rLg}
/-- a comparison left out -/
theorem cmp_drop {α : Type} {A : Int32 → Prop} {B : Prop} {C : qJ → rLg → Prop} {Q : qJ → rLg → α → qJ → rLg → Prop} {E1 : Int32 → qJ → Prop} {E2 : Int32 → rLg → α → Prop} {P : qJ → rLg → Prop} (h : ∃ (k9 : Int32) (I1 : qJ) (L1 : rLg) (b9 : α) (I2 : qJ) (L2 : rLg), A k9 ∧ B ∧ C I1 L1 ∧ Q I1 L1 b9 I2 L2 ∧ E1 k9 I2 ∧ E2 k9 L2 b9 ∧ P I2 L2) : ∃ (k9 : Int32) (I1 : qJ) (L1 : rLg) (b9 : α) (I2 : qJ) (L2 : rLg), A k9 ∧ B ∧ C I1 L1 ∧ Q I1 L1 b9 I2 L2 ∧ P I2 L2 := by
  obtain ⟨k9, I1, L1, b9, I2, L2, h1, h2, h3, h4, -, -, h5⟩ := h
  exact ⟨k9, I1, L1, b9, I2, L2, h1, h2, h3, h4, h5⟩
theorem in_Z {z : Nat} (hz : z ≤ 50) (k : Int32) : (0 ≤ Int32.toInt64 k ∧ Int32.toInt64 k ≤ Int32.toInt64 (nI z - 1)) ↔ ¬ (k < 0 ∨ nI z ≤ k) := by
  have h1 : (nI z - 1).toInt = (z : Int) - 1 := by
    rw [Int32.toInt_sub, nI_toInt (by omega), k32_1, Int.bmod_def]
    omega
  rw [Int64.le_iff_toInt_le, Int64.le_iff_toInt_le, Int32.toInt_toInt64, Int32.toInt_toInt64, h1, k64_z, Int32.lt_iff_toInt_lt, Int32.le_iff_toInt_le, k32_0, nI_toInt (by omega)]
  omega
theorem Q_of {p : Int32} (h : ¬ p < 0 ∧ p < 14) : ∃ P, P < 14 ∧ p = nI P ∧ p.toNatClampNeg = P := by
  obtain ⟨j, hj, rfl⟩ := nI_of h.1
  refine ⟨j, ?_, rfl, nI_clamp hj⟩
  have := h.2
  rw [Int32.lt_iff_toInt_lt, nI_toInt hj, show (14 : Int32).toInt = 14 by decide] at this
  omega
theorem P_of {m : Int64} (h : ¬ noP m) : 1 ≤ m.toInt ∧ m.toInt ≤ 1000000 := by
  have h2 := (in_P m).mpr h
  rw [Int64.le_iff_toInt_le, Int64.le_iff_toInt_le, k64_1, show (1000000 : Int64).toInt = 1000000 by decide] at h2
  exact h2
theorem Y_of {d : Int32} (h : ¬ (d < 1 ∨ 400 < d)) : 1 ≤ d.toInt ∧ d.toInt ≤ 400 := by
  rw [Int32.lt_iff_toInt_lt, Int32.lt_iff_toInt_lt, k32_1, show (400 : Int32).toInt = 400 by decide] at h
  omega
theorem U_of {u : Int32} (h : ¬ (u < 1 ∨ 10000 < u)) : 1 ≤ u.toInt ∧ u.toInt ≤ 10000 := by
  rw [Int32.lt_iff_toInt_lt, Int32.lt_iff_toInt_lt, k32_1, show (10000 : Int32).toInt = 10000 by decide] at h
  omega
theorem RR_76 (h : r_IR I L) (x : Int64) : r_RR I I L (wL L 76 0 x) := IR_mid h (CF_self h.1.1) (fun _ _ hk => wL_c9 hk)
theorem n_text (hfl : l.flags = pinnedFlags ++ [noTraceFlag]) (hI : r_IR I L) (ha : a + 5 ≤ Ln) (hLn : Ln < 2 ^ 31) (hkc : kc + 1 ≤ 601024) (hks : ks + 6 ≤ 7293034) (kk : ∀ I2 L2, r_IR I2 L2 → qR (qKL l b Ln xs) E X 862 (lwV a) [] 77 (kc + 1) (ks + 6) (fm I2 L2)) : qR (qKL l b Ln xs) E X 120 (lwV a) [] 77 kc ks (fm I L) := by
  obtain ⟨-, -, -, -, -, -, ⟨n, hn2, hn⟩, -⟩ := id hI.1.1
  have hnm : I 47 4 = nI n := hI.2.2.1.1.symm.trans hn
  refine lc_text ha hLn hkc hks r_IR (w_text (qSp2_of hfl (by decide +kernel) (Nat.le_of_ble_eq_true rfl) (by omega) (r_bf_text l false I L n hn hn2 (lwJ (xs (a + 1)) (xs (a + 2))))) (fun En h => h.imp And.left And.left)) ?_ kk
  generalize lwJ (xs (a + 1)) (xs (a + 2)) = w
  rintro v n9 f ⟨rfl, h⟩
  refine cmp_drop (E1 := fun k9 I2 => I2 47 0 = k9) (E2 := fun k9 L2 b9 => k9 = 0 → L2 76 0 = Int32.toInt64 b9) ?_
  rcases h with ⟨⟨hc1, hc2⟩, rfl, rfl⟩ | ⟨q, hq, hp, rfl, rfl⟩
  · obtain ⟨e1, e2, e3⟩ := x_text w hI hn hc2 rfl rfl
    have g1 : ¬ m_anyb w 8 = true := by rw [← anyb_eq]; exact hc1
    have g2 : ¬ 60 < n + m_cN w 8 := by rw [← cN_eq]; omega
    refine ⟨0, _, _, _, _, _, rfl, rfl, rfl, s_md_text l false _ _ n e1 hn2 w, ?_, fun _ => ?_, ?_⟩
    · rw [if_neg g1, if_neg g2]
      exact e2
    · rw [if_neg g1, if_neg g2, wL_at9, cN_eq]
    · rw [if_neg g1, if_neg g2]
      exact e3 _
  · simp only [List.mem_cons, List.not_mem_nil, or_false] at hq
    rcases hq with rfl | rfl
    · rcases hp with ⟨-, hp⟩ | ⟨hp, -⟩
      · have g1 : m_anyb w 8 = true := by rw [← anyb_eq]; exact hp
        refine ⟨_, _, _, _, _, _, rfl, rfl, rfl, s_md_text l false I L n hnm hn2 w, ?_, fun h => absurd h (by decide), ?_⟩
        · rw [if_pos g1]
          exact wI_at _ _ _ _
        · rw [if_pos g1]
          exact IR_w hI
      · exact absurd hp (by decide)
    · rcases hp with ⟨hp, -⟩ | ⟨-, hp1, hp2⟩
      · exact absurd hp (by decide)
      · have g1 : ¬ m_anyb w 8 = true := by rw [← anyb_eq]; exact hp1
        have g2 : 60 < n + m_cN w 8 := by rw [← cN_eq]; omega
        refine ⟨_, _, _, _, _, _, rfl, rfl, rfl, s_md_text l false I L n hnm hn2 w, ?_, fun h => absurd h (by decide), ?_⟩
        · rw [if_neg g1, if_pos g2]
          exact wI_at _ _ _ _
        · rw [if_neg g1, if_pos g2]
          exact IR_w hI
theorem n_tariff (hfl : l.flags = pinnedFlags ++ [noTraceFlag]) (hI : r_IR I L) (ha : a + 5 ≤ Ln) (hLn : Ln < 2 ^ 31) (hkc : kc + 1 ≤ 601024) (hks : ks + 6 ≤ 7293034) (kk : ∀ I2 L2, r_IR I2 L2 → qR (qKL l b Ln xs) E X 862 (lwV a) [] 77 (kc + 1) (ks + 6) (fm I2 L2)) : qR (qKL l b Ln xs) E X 180 (lwV a) [] 77 kc ks (fm I L) := by
  obtain ⟨-, -, -, -, -, -, ⟨n, hn2, hn⟩, -⟩ := id hI.1.1
  refine lc_tariff ha hLn hkc hks r_IR (w_tariff (qSp2_of hfl (by decide +kernel) (Nat.le_of_ble_eq_true rfl) (by omega) (r_bf_tariff l false I L n hn hn2 (xs (a + 1)))) (fun En f h => h.1)) ?_ kk
  generalize xs (a + 1) = tt
  rintro v n9 f ⟨rfl, h⟩
  refine cmp_drop (E1 := fun k9 I2 => I2 47 0 = k9) (E2 := fun k9 L2 b9 => k9 = 0 → L2 76 0 = Int32.toInt64 b9) ?_
  rcases h with ⟨⟨hc1, hc2⟩, rfl, rfl⟩ | ⟨q, hq, ⟨-, hp⟩, rfl⟩
  · obtain ⟨j, hj, htj, hcl⟩ := T_of hc1
    rw [hcl]
    rcases x_tariff hI hn hn2 hj htj with ⟨-, e1, e2, e3, e4⟩ | ⟨e, -⟩
    · refine ⟨0, _, _, _, _, _, rfl, rfl, rfl, s_md_tariff l false _ _ n e1 hn2 tt, e2, fun _ => ?_, e4 _⟩
      rw [wL_at9, e3]
    · exact absurd hc2 e
  · simp only [List.mem_cons, List.not_mem_nil, or_false] at hq
    subst hq
    rcases hp with ⟨hp, rfl⟩ | ⟨hp1, hp2, rfl⟩
    · obtain ⟨e1, e2, e3⟩ := x_tariff0 hI hn hn2 hp
      exact ⟨_, _, _, _, _, _, rfl, rfl, rfl, s_md_tariff l false _ _ n e1 hn2 tt, e2, fun h => absurd h (by decide), e3⟩
    · obtain ⟨j, hj, htj, hcl⟩ := T_of hp1
      rcases x_tariff hI hn hn2 hj htj with ⟨e, -⟩ | ⟨-, e1, e2, e3⟩
      · exact absurd e hp2
      · exact ⟨_, _, _, _, _, _, rfl, rfl, rfl, s_md_tariff l false _ _ n e1 hn2 tt, e2, fun h => absurd h (by decide), e3⟩
theorem n_where (hI : r_IR I L) (ha : a + 5 ≤ Ln) (hLn : Ln < 2 ^ 31) (hkc : kc + 1 ≤ 601024) (hks : ks + 6 ≤ 7293034) (kk : ∀ I2 L2, r_IR I2 L2 → qR (qKL l b Ln xs) E X 862 (lwV a) [] 77 kc ks (fm I2 L2)) : qR (qKL l b Ln xs) E X 208 (lwV a) [] 77 kc ks (fm I L) :=
  lc_where ha hLn hkc hks r_IR (s_bf_where l false I L) (s_md_where l false I L) (IR_w hI) kk
theorem n_use (hfl : l.flags = pinnedFlags ++ [noTraceFlag]) (hI : r_IR I L) (ha : a + 5 ≤ Ln) (hLn : Ln < 2 ^ 31) (hkc : kc + 1 ≤ 601024) (hks : ks + 6 ≤ 7293034) (kk : ∀ I2 L2, r_IR I2 L2 → qR (qKL l b Ln xs) E X 862 (lwV a) [] 77 (kc + 1) (ks + 6) (fm I2 L2)) : qR (qKL l b Ln xs) E X 221 (lwV a) [] 77 kc ks (fm I L) := by
  refine lc_use ha hLn hkc hks r_IR (w_use (qSp2_of hfl (by decide +kernel) (Nat.le_of_ble_eq_true rfl) (by omega) (r_bf_use l false I L (cT_of hI.1.1) (xs (a + 1)) (xs (a + 2)))) (fun En h => h.1)) ?_ kk
  generalize xs (a + 1) = t
  generalize xs (a + 2) = u
  rintro v n9 f ⟨rfl, h⟩
  refine cmp_drop (E1 := fun k9 I2 => I2 47 0 = k9) (E2 := fun k9 L2 b9 => k9 = 0 → L2 76 0 = b9) ?_
  rcases h with ⟨⟨hc1, hc2⟩, rfl, rfl⟩ | ⟨q, hq, ⟨-, hp⟩, rfl, rfl⟩
  · obtain ⟨j, hj, htj, hcl⟩ := T_of hc1
    have g : (0 ≤ Int32.toInt64 t ∧ Int32.toInt64 t ≤ 2) ∧ (0 ≤ Int32.toInt64 u ∧ Int32.toInt64 u ≤ 1000000) := ⟨(in_T t).mpr hc1, (in_M u).mpr hc2⟩
    refine ⟨0, _, _, _, _, _, rfl, rfl, rfl, s_md_use l false _ _ (mT_of hI.1.2) t u, ?_, fun _ => ?_, ?_⟩
    · rw [if_pos g]
      exact wI_at _ _ _ _
    · rw [if_pos g, wL_at9, hcl]
      exact x_use hI hj hc2
    · exact IR_q hI
  · simp only [List.mem_cons, List.not_mem_nil, or_false] at hq
    subst hq
    refine ⟨_, _, _, _, _, _, rfl, rfl, rfl, s_md_use l false I L (mT_of hI.1.2) t u, ?_, fun h => absurd h (by decide), ?_⟩
    · rw [if_neg (fun h => hp ⟨(in_T t).mp h.1, (in_M u).mp h.2⟩)]
      exact wI_at _ _ _ _
    · exact IR_w hI
theorem n_subscribe (hfl : l.flags = pinnedFlags ++ [noTraceFlag]) (hI : r_IR I L) (ha : a + 5 ≤ Ln) (hLn : Ln < 2 ^ 31) (hkc : kc + 1 ≤ 601024) (hks : ks + 6 ≤ 7293034) (kk : ∀ I2 L2, r_IR I2 L2 → qR (qKL l b Ln xs) E X 862 (lwV a) [] 77 (kc + 1) (ks + 6) (fm I2 L2)) : qR (qKL l b Ln xs) E X 261 (lwV a) [] 77 kc ks (fm I L) := by
  refine lc_subscribe ha hLn hkc hks r_IR (w_subscribe (qSp2_of hfl (by decide +kernel) (Nat.le_of_ble_eq_true rfl) (by omega) (r_bf_subscribe l false I L (xs (a + 1)) (xs (a + 2)))) (fun En h => h.1)) ?_ kk
  generalize xs (a + 1) = c
  generalize xs (a + 2) = t
  rintro v n9 f ⟨rfl, h⟩
  refine cmp_drop (E1 := fun k9 I2 => I2 47 0 = k9) (E2 := fun k9 L2 b9 => k9 = 0 → L2 76 0 = Int32.toInt64 b9) ?_
  rcases h with ⟨⟨hc1, hc2⟩, rfl, rfl⟩ | ⟨q, hq, ⟨-, hp⟩, rfl, rfl⟩
  · have g : (0 ≤ Int32.toInt64 c ∧ Int32.toInt64 c ≤ 4) ∧ ((-1) ≤ Int32.toInt64 t ∧ Int32.toInt64 t ≤ 2) := ⟨(in_C c).mpr hc1, (in_T1 t).mpr hc2⟩
    obtain ⟨j, hj, hcj, hcl⟩ := C_of hc1
    rw [hcl]
    obtain ⟨e1, e2, e3⟩ := x_subscribe hI hj hc2 rfl rfl
    refine ⟨0, _, _, _, _, _, rfl, rfl, rfl, s_md_subscribe l false _ _ c t, ?_, fun _ => ?_, ?_⟩
    · rw [if_pos g, hcl]
      exact e1
    · rw [if_pos g, wL_at9, hcl, e2]
    · rw [if_pos g, hcl]
      exact e3 _
  · simp only [List.mem_cons, List.not_mem_nil, or_false] at hq
    subst hq
    have g : ¬ ((0 ≤ Int32.toInt64 c ∧ Int32.toInt64 c ≤ 4) ∧ ((-1) ≤ Int32.toInt64 t ∧ Int32.toInt64 t ≤ 2)) := fun h => hp ⟨(in_C c).mp h.1, (in_T1 t).mp h.2⟩
    refine ⟨_, _, _, _, _, _, rfl, rfl, rfl, s_md_subscribe l false I L c t, ?_, fun h => absurd h (by decide), ?_⟩
    · rw [if_neg g]
      exact wI_at _ _ _ _
    · rw [if_neg g]
      exact IR_w hI
theorem n_pause (hfl : l.flags = pinnedFlags ++ [noTraceFlag]) (hI : r_IR I L) (ha : a + 5 ≤ Ln) (hLn : Ln < 2 ^ 31) (hkc : kc + 1 ≤ 601024) (hks : ks + 6 ≤ 7293034) (kk : ∀ I2 L2, r_IR I2 L2 → qR (qKL l b Ln xs) E X 862 (lwV a) [] 77 (kc + 1) (ks + 6) (fm I2 L2)) : qR (qKL l b Ln xs) E X 301 (lwV a) [] 77 kc ks (fm I L) := by
  obtain ⟨-, -, -, -, -, -, -, hB⟩ := id hI.1.1
  have hon : qB (if xs (a + 2) = 0 then 0 else 1) := by
    split
    · exact Or.inl rfl
    · exact Or.inr rfl
  refine lc_pause (on := if xs (a + 2) = 0 then 0 else 1) ha hLn hkc hks r_IR rfl (w_pause (qSp2_of hfl (by decide +kernel) (Nat.le_of_ble_eq_true rfl) (by omega) (r_bf_pause l false I L (xs (a + 1)) (if xs (a + 2) = 0 then 0 else 1) hon hB)) (fun En h => h.imp And.left And.left)) ?_ kk
  revert hon
  generalize (if xs (a + 2) = 0 then (0 : Int32) else 1) = on
  intro hon
  generalize xs (a + 1) = c
  rintro v n9 f ⟨rfl, h⟩
  refine cmp_drop (E1 := fun k9 I2 => I2 47 0 = k9) (E2 := fun k9 L2 b9 => k9 = 0 → L2 76 0 = (if b9 = 0 then 0 else 1)) ?_
  rcases h with ⟨⟨hc1, hc2⟩, rfl, rfl⟩ | ⟨q, hq, hp, rfl, rfl⟩
  · obtain ⟨j, hj, hcj, hcl⟩ := C_of hc1
    rw [hcl] at hc2
    rw [hcl]
    obtain ⟨e1, e2, e3⟩ := x_pause hI hj hon rfl rfl
    have g : 0 ≤ Int32.toInt64 c ∧ Int32.toInt64 c ≤ 4 := (in_C c).mpr hc1
    have g2 : ¬ (wI I (37 + 2 * j) 2 on 58 j < 0 ∨ (on = 0 ∧ wI I (37 + 2 * j) 2 on 60 j = 3)) := by
      rw [wI_ne (by omega), wI_ne (by omega), ← pau_no hI.2 hj, ← (hI.2.2.2.2.1 j hj).2.2.1]
      exact hc2
    refine ⟨0, _, _, _, _, _, rfl, rfl, rfl, s_md_pause l false _ _ c on, ?_, fun _ => ?_, ?_⟩
    · rw [if_pos g, hcl, if_neg g2]
      exact e1
    · rw [wL_at9, if_pos g, hcl, if_neg g2, e2]
    · rw [if_pos g, hcl, if_neg g2]
      exact e3 _
  · simp only [List.mem_cons, List.not_mem_nil, or_false] at hq
    rcases hq with rfl | rfl
    · rcases hp with ⟨-, hp⟩ | ⟨hp, -⟩
      · have g : ¬ (0 ≤ Int32.toInt64 c ∧ Int32.toInt64 c ≤ 4) := fun q => (in_C c).mp q hp
        refine ⟨_, _, _, _, _, _, rfl, rfl, rfl, s_md_pause l false I L c on, ?_, fun h => absurd h (by decide), ?_⟩
        · rw [if_neg g]
          exact wI_at _ _ _ _
        · rw [if_neg g]
          exact IR_w hI
      · exact absurd hp (by decide)
    · rcases hp with ⟨hp, -⟩ | ⟨-, hp1, hp2⟩
      · exact absurd hp (by decide)
      · obtain ⟨j, hj, hcj, hcl⟩ := C_of hp1
        rw [hcl] at hp2
        have g : 0 ≤ Int32.toInt64 c ∧ Int32.toInt64 c ≤ 4 := (in_C c).mpr hp1
        have g2 : I 58 j < 0 ∨ (on = 0 ∧ I 60 j = 3) := by
          rw [← pau_no hI.2 hj, ← (hI.2.2.2.2.1 j hj).2.2.1]
          exact hp2
        refine ⟨_, _, _, _, _, _, rfl, rfl, rfl, s_md_pause l false I L c on, ?_, fun h => absurd h (by decide), ?_⟩
        · rw [if_pos g, hcl, if_pos g2]
          exact wI_at _ _ _ _
        · rw [if_pos g, hcl, if_pos g2]
          exact IR_w hI
theorem n_event (hfl : l.flags = pinnedFlags ++ [noTraceFlag]) (hI : r_IR I L) (ha : a + 5 ≤ Ln) (hLn : Ln < 2 ^ 31) (hkc : kc + 1 ≤ 601024) (hks : ks + 6 ≤ 7293034) (kk : ∀ I2 L2, r_IR I2 L2 → qR (qKL l b Ln xs) E X 862 (lwV a) [] 77 (kc + 1) (ks + 6) (fm I2 L2)) : qR (qKL l b Ln xs) E X 357 (lwV a) [] 77 kc ks (fm I L) := by
  obtain ⟨-, ⟨T, hT2, hT⟩, ⟨ne, hne2, hne⟩, -, -, -, -, -⟩ := id hI.1.1
  have hTm : I 47 2 = nI T := hI.2.1.1.symm.trans hT
  have hnm : I 47 23 = nI ne := hI.2.2.2.2.2.2.1.1.symm.trans hne
  have h10 : I 10 = I 63 := hI.2.2.2.2.2.2.1.2.1
  refine lc_event ha hLn hkc hks r_IR (w_event (qSp2_of hfl (by decide +kernel) (Nat.le_of_ble_eq_true rfl) (by omega) (r_bf_event l false I L ne hne hne2 (xs (a + 1)) (xs (a + 2)) (xs (a + 3)) (xs (a + 4)))) (fun En h => h.imp And.left (fun g => g.imp And.left And.left))) ?_ kk
  generalize xs (a + 1) = key
  generalize xs (a + 2) = c
  generalize xs (a + 3) = day
  generalize xs (a + 4) = u
  have hand : (¬ (noC c ∨ u < 1 ∨ 10000 < u)) ↔ ((0 ≤ Int32.toInt64 c ∧ Int32.toInt64 c ≤ 4) ∧ (1 ≤ Int32.toInt64 u ∧ Int32.toInt64 u ≤ 10000)) := by
    rw [in_C, in_U]
    exact ⟨fun h => ⟨fun q => h (Or.inl q), fun q => h (Or.inr q)⟩, fun h q => q.elim h.1 h.2⟩
  have hday : (¬ (day < 0 ∨ I 0 9 < day ∨ day < I 0 9 - 45)) ↔ (¬ nI T < day ∧ ¬ day < nI T - 45 ∧ 0 ≤ day) := by
    rw [hT, ← Int32.not_lt]
    constructor
    · intro h
      exact ⟨fun q => h (Or.inr (Or.inl q)), fun q => h (Or.inr (Or.inr q)), fun q => h (Or.inl q)⟩
    · rintro ⟨h1, h2, h3⟩ (q | q | q)
      · exact h3 q
      · exact h1 q
      · exact h2 q
  rintro v n9 f ⟨rfl, h⟩
  refine cmp_drop (E1 := fun k9 I2 => I2 47 0 = k9) (E2 := fun k9 L2 b9 => k9 = 0 → L2 76 0 = Int32.toInt64 b9) ?_
  rcases h with ⟨⟨hc1, hc2, hc3⟩, rfl, rfl⟩ | ⟨q, hq, hp, rfl, rfl⟩
  · by_cases hu : u_any (I 10) key ne = true
    · rw [if_pos hu, if_pos hu]
      have hu2 : u_any (I 63) key ne = true := by rw [← h10]; exact hu
      refine ⟨0, _, _, _, _, _, rfl, rfl, rfl, s_md_event l false _ _ ne T hnm hne2 hTm key c day u, ?_, fun _ => ?_, ?_⟩
      · rw [if_pos (hand.mp hc1), if_pos (hday.mp hc2), if_pos hu2]
        exact wI_at _ _ _ _
      · rw [if_pos (hand.mp hc1), if_pos (hday.mp hc2), if_pos hu2, wL_at9]
      · rw [if_pos (hand.mp hc1), if_pos (hday.mp hc2), if_pos hu2]
        exact IR_q hI
    · rw [if_neg hu, if_neg hu]
      have h80 : ¬ ne = 80 := hc3.resolve_left hu
      obtain ⟨hC, e1, e2⟩ := x_event (key := key) (cc := c) (day := day) (u := u) hI hne (by omega) (U_of (fun q => hc1 (Or.inr q))) (day_b hT2 (hday.mp hc2).1 (hday.mp hc2).2.2) rfl rfl
      have hu2 : ¬ u_any (wI (wI (wI (wI (wI I 10 ne key) 11 ne c) 12 ne day) 13 ne u) 9 4 (nI (ne + 1)) 63) key ne = true := by
        rw [hC.2 63 (by omega), ← h10]
        exact hu
      refine ⟨0, _, _, _, _, _, rfl, rfl, rfl, s_md_event l false _ _ ne T ((congrFun (hC.2 47 (by omega)) 23).trans hnm) hne2 ((congrFun (hC.2 47 (by omega)) 2).trans hTm) key c day u, ?_, fun _ => ?_, ?_⟩
      · rw [if_pos (hand.mp hc1), if_pos (hday.mp hc2), if_neg hu2, if_neg h80]
        exact e1
      · rw [if_pos (hand.mp hc1), if_pos (hday.mp hc2), if_neg hu2, if_neg h80, wL_at9]
      · rw [if_pos (hand.mp hc1), if_pos (hday.mp hc2), if_neg hu2, if_neg h80]
        exact e2 _
  · simp only [List.mem_cons, List.not_mem_nil, or_false] at hq
    rcases hq with rfl | rfl | rfl
    · rcases hp with ⟨-, hp⟩ | ⟨hp, -⟩ | ⟨hp, -⟩
      · refine ⟨_, _, _, _, _, _, rfl, rfl, rfl, s_md_event l false I L ne T hnm hne2 hTm key c day u, ?_, fun h => absurd h (by decide), ?_⟩
        · rw [if_neg (fun h => (hand.mpr h) hp)]
          exact wI_at _ _ _ _
        · rw [if_neg (fun h => (hand.mpr h) hp)]
          exact IR_w hI
      · exact absurd hp (by decide)
      · exact absurd hp (by decide)
    · rcases hp with ⟨hp, -⟩ | ⟨-, hp1, hp2⟩ | ⟨hp, -⟩
      · exact absurd hp (by decide)
      · refine ⟨_, _, _, _, _, _, rfl, rfl, rfl, s_md_event l false I L ne T hnm hne2 hTm key c day u, ?_, fun h => absurd h (by decide), ?_⟩
        · rw [if_pos (hand.mp hp1), if_neg (fun h => (hday.mpr h) hp2)]
          exact wI_at _ _ _ _
        · rw [if_pos (hand.mp hp1), if_neg (fun h => (hday.mpr h) hp2)]
          exact IR_w hI
      · exact absurd hp (by decide)
    · rcases hp with ⟨hp, -⟩ | ⟨hp, -⟩ | ⟨-, hp1, hp2, hp3, hp4⟩
      · exact absurd hp (by decide)
      · exact absurd hp (by decide)
      · have hu2 : ¬ u_any (I 63) key ne = true := by rw [← h10]; exact hp3
        refine ⟨_, _, _, _, _, _, rfl, rfl, rfl, s_md_event l false I L ne T hnm hne2 hTm key c day u, ?_, fun h => absurd h (by decide), ?_⟩
        · rw [if_pos (hand.mp hp1), if_pos (hday.mp hp2), if_neg hu2, if_pos hp4]
          exact wI_at _ _ _ _
        · rw [if_pos (hand.mp hp1), if_pos (hday.mp hp2), if_neg hu2, if_pos hp4]
          exact IR_w (IR_w hI)
theorem n_tick (hfl : l.flags = pinnedFlags ++ [noTraceFlag]) (hI : r_IR I L) (ha : a + 5 ≤ Ln) (hLn : Ln < 2 ^ 31) (hkc : kc + 1 ≤ 601024) (hks : ks + 6 ≤ 7293034) (kk : ∀ I2 L2, r_IR I2 L2 → qR (qKL l b Ln xs) E X 862 (lwV a) [] 77 (kc + 1) (ks + 6) (fm I2 L2)) : qR (qKL l b Ln xs) E X 421 (lwV a) [] 77 kc ks (fm I L) := by
  obtain ⟨-, ⟨T, hT2, hT⟩, -, -, ⟨z, hz2, hz⟩, -, -, -⟩ := id hI.1.1
  have hTm : I 47 2 = nI T := hI.2.1.1.symm.trans hT
  have hzm : I 47 29 = nI z := hI.2.2.2.2.2.2.2.1.1.symm.trans hz
  refine lc_tick ha hLn hkc hks r_IR (w_tick (qSp2_of hfl (by decide +kernel) (Nat.le_of_ble_eq_true rfl) (by omega) (r_bf_tick l false I L z hz hz2 (xs (a + 1)))) (fun En h => h.imp And.left And.left)) ?_ kk
  generalize xs (a + 1) = d
  rintro v n9 f ⟨rfl, h⟩
  refine cmp_drop (E1 := fun k9 I2 => I2 47 0 = k9) (E2 := fun k9 L2 b9 => k9 = 0 → L2 76 0 = Int32.toInt64 b9) ?_
  rcases h with ⟨⟨hc1, hc2⟩, rfl, rfl⟩ | ⟨q, hq, hp, rfl, rfl⟩
  · rw [hT] at hc2
    have hd0 : ¬ d < 0 := fun q => hc1 (Or.inl (by
      rw [Int32.lt_iff_toInt_lt] at q ⊢
      rw [k32_0] at q
      rw [k32_1]
      omega))
    obtain ⟨j, hj, hdj⟩ := nI_of hd0
    have hcl : d.toNatClampNeg = j := by rw [hdj]; exact nI_clamp hj
    obtain ⟨e1, e2, e3, e4⟩ := x_tick (b := Int32.toInt64 (u_tk I L z d.toNatClampNeg 0 9)) hI hT hz (tick_b hT2 hc1 hc2) rfl rfl
    refine ⟨0, _, _, _, _, _, rfl, rfl, rfl, s_md_tick l false _ _ z T e1 hz2 e2 hT2 d, ?_, fun _ => ?_, ?_⟩
    · rw [if_pos ((in_D d).mpr hc1), if_neg hc2]
      exact e3
    · rw [if_pos ((in_D d).mpr hc1), if_neg hc2, wL_at9, u_tk_09, hT, hcl, ← hdj]
    · rw [if_pos ((in_D d).mpr hc1), if_neg hc2]
      exact e4
  · simp only [List.mem_cons, List.not_mem_nil, or_false] at hq
    rcases hq with rfl | rfl
    · rcases hp with ⟨-, hp⟩ | ⟨hp, -⟩
      · have g : ¬ (1 ≤ Int32.toInt64 d ∧ Int32.toInt64 d ≤ 40) := fun q => (in_D d).mp q hp
        refine ⟨_, _, _, _, _, _, rfl, rfl, rfl, s_md_tick l false I L z T hzm hz2 hTm hT2 d, ?_, fun h => absurd h (by decide), ?_⟩
        · rw [if_neg g]
          exact wI_at _ _ _ _
        · rw [if_neg g]
          exact IR_w hI
      · exact absurd hp (by decide)
    · rcases hp with ⟨hp, -⟩ | ⟨-, hp1, hp2⟩
      · exact absurd hp (by decide)
      · rw [hT] at hp2
        refine ⟨_, _, _, _, _, _, rfl, rfl, rfl, s_md_tick l false I L z T hzm hz2 hTm hT2 d, ?_, fun h => absurd h (by decide), ?_⟩
        · rw [if_pos ((in_D d).mpr hp1), if_pos hp2]
          exact wI_at _ _ _ _
        · rw [if_pos ((in_D d).mpr hp1), if_pos hp2]
          exact IR_w hI
theorem n_run (hI : r_IR I L) (ha : a + 5 ≤ Ln) (hLn : Ln < 2 ^ 31) (hkc : kc + 1 ≤ 601024) (hks : ks + 6 ≤ 7293034) (kk : ∀ I2 L2, r_IR I2 L2 → qR (qKL l b Ln xs) E X 862 (lwV a) [] 77 kc ks (fm I2 L2)) : qR (qKL l b Ln xs) E X 449 (lwV a) [] 77 kc ks (fm I L) := by
  obtain ⟨hFD, ⟨T, hT2, hT⟩, ⟨ne, hne2, hne⟩, -, ⟨z, hz2, hz⟩, -, -, -⟩ := id hI.1.1
  obtain ⟨pe, p1, p2, p3⟩ := pe_ex (fun P => FD0 (P + 1) ≤ T) 14
  obtain ⟨e1, e2, e3, e4, e5⟩ := x_run (pe := pe) hI hT hT2 hne hne2 p1 rfl rfl rfl rfl
  obtain ⟨zm, hzm2, hzm⟩ := e1.2.2.2.2.2.1
  exact lc_run ha hLn hkc hks r_IR (s_bf_run l false I L FD0 T ne pe ⟨hFD, hT, hne, cT_of hI.1.1, z, hz2, hz⟩ hT2 hne2 FD0_m FD0_b p1 p2 (fun q => Nat.lt_of_not_le (p3 q))) (s_md_run l false _ _ T ne pe ⟨e2, e3, mE_of e1.2 hne2, mT_of e1.2, zm, hzm2, hzm⟩ hT2 hne2 p1 (fun P hP => by rw [(FD_tab P (by omega)).2.2.2.2.2.2]; exact nI_le (p2 P hP) (by omega)) (fun q => by rw [(FD_tab pe q).2.2.2.2.2.2]; exact nI_lt (Nat.lt_of_not_le (p3 q)) (by have := (FD_tab pe q).2.2.2.2.1; omega))) e5 kk
theorem n_pay (hfl : l.flags = pinnedFlags ++ [noTraceFlag]) (hI : r_IR I L) (ha : a + 5 ≤ Ln) (hLn : Ln < 2 ^ 31) (hkc : kc + 1 ≤ 601024) (hks : ks + 6 ≤ 7293034) (kk : ∀ I2 L2, r_IR I2 L2 → qR (qKL l b Ln xs) E X 862 (lwV a) [] 77 (kc + 1) (ks + 6) (fm I2 L2)) : qR (qKL l b Ln xs) E X 462 (lwV a) [] 77 kc ks (fm I L) := by
  obtain ⟨-, -, -, -, ⟨z, hz2, hz⟩, -, -, -⟩ := id hI.1.1
  have hzm : I 47 29 = nI z := hI.2.2.2.2.2.2.2.1.1.symm.trans hz
  refine lc_pay ha hLn hkc hks r_IR (w_pay (qSp2_of hfl (by decide +kernel) (Nat.le_of_ble_eq_true rfl) (by omega) (r_bf_pay l false I L z hz hz2 (xs (a + 1)) (lwJ (xs (a + 2)) (xs (a + 3))))) (fun En h => h.1)) ?_ kk
  generalize xs (a + 1) = c
  generalize lwJ (xs (a + 2)) (xs (a + 3)) = m
  rintro v n9 f ⟨rfl, h⟩
  refine cmp_drop (E1 := fun k9 I2 => I2 47 0 = k9) (E2 := fun k9 L2 b9 => k9 = 0 → L2 76 0 = b9) ?_
  rcases h with ⟨⟨hc1, hc2⟩, rfl, rfl⟩ | ⟨q, hq, ⟨-, hp⟩, rfl, rfl⟩
  · have g : (0 ≤ Int32.toInt64 c ∧ Int32.toInt64 c ≤ 4) ∧ (1 ≤ m ∧ m ≤ 1000000) := ⟨(in_C c).mpr hc1, (in_P m).mpr hc2⟩
    obtain ⟨j, hj, hcj, hcl⟩ := C_of hc1
    rw [hcl]
    obtain ⟨e1, e2, e3, e4, e5⟩ := x_pay (a := m) (b := (u_spend I (wL (wL L 0 10 (L 0 10 + m)) (37 + 2 * j) 4 (wL L 0 10 (L 0 10 + m) (37 + 2 * j) 4 + m)) j z).2 (37 + 2 * j) 4 - L (37 + 2 * j) 4) hI hj hz rfl rfl rfl rfl rfl rfl
    refine ⟨0, _, _, _, _, _, rfl, rfl, rfl, s_md_pay l false _ _ z e1 hz2 c m, ?_, fun _ => ?_, ?_⟩
    · rw [if_pos g, hcl]
      exact e2
    · rw [if_pos g, if_pos g, hcl]
      exact e3.trans e4
    · rw [if_pos g, if_pos g, hcl]
      exact e5
  · simp only [List.mem_cons, List.not_mem_nil, or_false] at hq
    subst hq
    have g : ¬ ((0 ≤ Int32.toInt64 c ∧ Int32.toInt64 c ≤ 4) ∧ (1 ≤ m ∧ m ≤ 1000000)) := fun h => hp ⟨(in_C c).mp h.1, (in_P m).mp h.2⟩
    refine ⟨_, _, _, _, _, _, rfl, rfl, rfl, s_md_pay l false I L z hzm hz2 c m, ?_, fun h => absurd h (by decide), ?_⟩
    · rw [if_neg g]
      exact wI_at _ _ _ _
    · rw [if_neg g, if_neg g]
      exact IR_w hI
theorem n_plan (hfl : l.flags = pinnedFlags ++ [noTraceFlag]) (hI : r_IR I L) (ha : a + 5 ≤ Ln) (hLn : Ln < 2 ^ 31) (hkc : kc + 1 ≤ 601024) (hks : ks + 6 ≤ 7293034) (kk : ∀ I2 L2, r_IR I2 L2 → qR (qKL l b Ln xs) E X 862 (lwV a) [] 77 (kc + 1) (ks + 6) (fm I2 L2)) : qR (qKL l b Ln xs) E X 534 (lwV a) [] 77 kc ks (fm I L) := by
  obtain ⟨-, -, -, -, -, ⟨zp, hzp2, hzp⟩, -, -⟩ := id hI.1.1
  have hzm : I 47 34 = nI zp := hI.2.2.2.2.2.2.2.2.1.symm.trans hzp
  refine lc_plan ha hLn hkc hks r_IR (w_plan (qSp2_of hfl (by decide +kernel) (Nat.le_of_ble_eq_true rfl) (by omega) (r_bf_plan l false I L zp hzp hzp2 (xs (a + 1)) (lwJ (xs (a + 2)) (xs (a + 3))) (xs (a + 4)))) (fun En h => h.imp And.left And.left)) ?_ kk
  generalize xs (a + 1) = c
  generalize lwJ (xs (a + 2)) (xs (a + 3)) = m
  generalize xs (a + 4) = d
  rintro v n9 f ⟨rfl, h⟩
  refine cmp_drop (E1 := fun k9 I2 => I2 47 0 = k9) (E2 := fun k9 L2 b9 => k9 = 0 → L2 76 0 = Int32.toInt64 b9) ?_
  rcases h with ⟨⟨hc1, hc2, hc3, hc4⟩, rfl, rfl⟩ | ⟨q, hq, hp, rfl, rfl⟩
  · have g : (0 ≤ Int32.toInt64 c ∧ Int32.toInt64 c ≤ 4) ∧ (1 ≤ m ∧ m ≤ 1000000) ∧ (1 ≤ Int32.toInt64 d ∧ Int32.toInt64 d ≤ 400) := ⟨(in_C c).mpr hc1, (in_P m).mpr hc2, (in_Y d).mpr hc3⟩
    obtain ⟨j, hj, hcj, hcl⟩ := C_of hc1
    obtain ⟨e1, e2, e3, e4⟩ := x_plan (a := m) (b := Int32.toInt64 (nI (zp + 1))) hI hzp (by omega) hj hcj (Y_of hc3) (P_of hc2) rfl rfl rfl rfl
    refine ⟨0, _, _, _, _, _, rfl, rfl, rfl, s_md_plan l false _ _ zp e1 hzp2 c m d, ?_, fun _ => ?_, ?_⟩
    · rw [if_pos g, if_neg hc4]
      exact e2
    · rw [if_pos g, if_neg hc4, if_pos ⟨g, hc4⟩]
      exact e3
    · rw [if_pos g, if_neg hc4, if_pos ⟨g, hc4⟩]
      exact e4
  · simp only [List.mem_cons, List.not_mem_nil, or_false] at hq
    rcases hq with rfl | rfl
    · rcases hp with ⟨-, hp⟩ | ⟨hp, -⟩
      · have g : ¬ ((0 ≤ Int32.toInt64 c ∧ Int32.toInt64 c ≤ 4) ∧ (1 ≤ m ∧ m ≤ 1000000) ∧ (1 ≤ Int32.toInt64 d ∧ Int32.toInt64 d ≤ 400)) := fun q => hp ⟨(in_C c).mp q.1, (in_P m).mp q.2.1, (in_Y d).mp q.2.2⟩
        refine ⟨_, _, _, _, _, _, rfl, rfl, rfl, s_md_plan l false I L zp hzm hzp2 c m d, ?_, fun h => absurd h (by decide), ?_⟩
        · rw [if_neg g]
          exact wI_at _ _ _ _
        · rw [if_neg g, if_neg (fun q => g q.1)]
          exact IR_w hI
      · exact absurd hp (by decide)
    · rcases hp with ⟨hp, -⟩ | ⟨-, hp, h10⟩
      · exact absurd hp (by decide)
      · have g : (0 ≤ Int32.toInt64 c ∧ Int32.toInt64 c ≤ 4) ∧ (1 ≤ m ∧ m ≤ 1000000) ∧ (1 ≤ Int32.toInt64 d ∧ Int32.toInt64 d ≤ 400) := ⟨(in_C c).mpr hp.1, (in_P m).mpr hp.2.1, (in_Y d).mpr hp.2.2⟩
        refine ⟨_, _, _, _, _, _, rfl, rfl, rfl, s_md_plan l false I L zp hzm hzp2 c m d, ?_, fun h => absurd h (by decide), ?_⟩
        · rw [if_pos g, if_pos h10]
          exact wI_at _ _ _ _
        · rw [if_pos g, if_pos h10, if_neg (fun q => q.2 h10)]
          exact IR_w hI
theorem n_charge (hfl : l.flags = pinnedFlags ++ [noTraceFlag]) (hI : r_IR I L) (ha : a + 5 ≤ Ln) (hLn : Ln < 2 ^ 31) (hkc : kc + 1 ≤ 601024) (hks : ks + 6 ≤ 7293034) (kk : ∀ I2 L2, r_IR I2 L2 → qR (qKL l b Ln xs) E X 862 (lwV a) [] 77 (kc + 1) (ks + 6) (fm I2 L2)) : qR (qKL l b Ln xs) E X 618 (lwV a) [] 77 kc ks (fm I L) := by
  obtain ⟨hFD, ⟨T, hT2, hT⟩, ⟨ne, hne2, hne⟩, -, -, -, -, -⟩ := id hI.1.1
  have hTm : I 47 2 = nI T := hI.2.1.1.symm.trans hT
  have hnm : I 47 23 = nI ne := hI.2.2.2.2.2.2.1.1.symm.trans hne
  refine lc_charge ha hLn hkc hks r_IR (w_charge (qSp2_of hfl (by decide +kernel) (Nat.le_of_ble_eq_true rfl) (by omega) (r_bf_charge l false I L T ne hT hT2 hne hne2 (cT_of hI.1.1) FD0 (fun P hP => hFD P (by omega)) FD0_m (fun P hP => FD0_b P (by omega)) (xs (a + 1)) (xs (a + 2)))) (fun En h => h.1)) ?_ kk
  generalize xs (a + 1) = c
  generalize xs (a + 2) = p
  rintro v n9 f ⟨rfl, h⟩
  refine cmp_drop (E1 := fun k9 I2 => I2 47 0 = k9) (E2 := fun k9 L2 b9 => k9 = 0 → L2 76 0 = b9) ?_
  rcases h with ⟨⟨hc1, hc2⟩, rfl, rfl⟩ | ⟨q, hq, ⟨-, hp⟩, rfl, rfl⟩
  · have g : (0 ≤ Int32.toInt64 c ∧ Int32.toInt64 c ≤ 4) ∧ (0 ≤ Int32.toInt64 p ∧ Int32.toInt64 p ≤ 13) := ⟨(in_C c).mpr hc1, (in_Q p).mpr hc2⟩
    obtain ⟨j, hj, hcj, hcl⟩ := C_of hc1
    obtain ⟨P, hP, hpP, hpl⟩ := Q_of hc2
    rw [hcl, hpl]
    obtain ⟨e1, e2, e3, e4, e5⟩ := x_charge (P := P) (b := u_charge I L j (FD0 P) (FD0 (P + 1)) T (min (FD0 (P + 1) - FD0 P) (T + 1 - FD0 P)) ne) hI hj hT hT2 hne hne2 hP rfl rfl
    refine ⟨0, _, _, _, _, _, rfl, rfl, rfl, s_md_charge l false _ _ T ne e2 hT2 e3 hne2 (mE_of e1.2 hne2) (mT_of e1.2) c p, ?_, fun _ => ?_, ?_⟩
    · rw [if_pos g]
      exact wI_at _ _ _ _
    · rw [if_pos g, wL_at9, hcl, hpl]
      exact e4
    · rw [if_pos g]
      exact e5
  · simp only [List.mem_cons, List.not_mem_nil, or_false] at hq
    subst hq
    refine ⟨_, _, _, _, _, _, rfl, rfl, rfl, s_md_charge l false I L T ne hTm hT2 hnm hne2 (mE_of hI.1.2 hne2) (mT_of hI.1.2) c p, ?_, fun h => absurd h (by decide), ?_⟩
    · rw [if_neg (fun h => hp ⟨(in_C c).mp h.1, (in_Q p).mp h.2⟩)]
      exact wI_at _ _ _ _
    · exact IR_w hI
theorem n_invoice (hfl : l.flags = pinnedFlags ++ [noTraceFlag]) (hI : r_IR I L) (ha : a + 5 ≤ Ln) (hLn : Ln < 2 ^ 31) (hkc : kc + 1 ≤ 601024) (hks : ks + 6 ≤ 7293034) (kk : ∀ I2 L2, r_IR I2 L2 → qR (qKL l b Ln xs) E X 862 (lwV a) [] 77 (kc + 1) (ks + 6) (fm I2 L2)) : qR (qKL l b Ln xs) E X 658 (lwV a) [] 77 kc ks (fm I L) := by
  obtain ⟨-, -, -, -, ⟨z, hz2, hz⟩, -, -, -⟩ := id hI.1.1
  have hzm : I 47 29 = nI z := hI.2.2.2.2.2.2.2.1.1.symm.trans hz
  refine lc_invoice ha hLn hkc hks r_IR (w_invoice (qSp2_of hfl (by decide +kernel) (Nat.le_of_ble_eq_true rfl) (by omega) (r_bf_invoice l false I L z hz hz2 (xs (a + 1)) (xs (a + 2)))) (fun En h => h.imp And.left And.left)) ?_ kk
  generalize xs (a + 1) = k
  generalize xs (a + 2) = w
  rintro v n9 f ⟨rfl, h⟩
  refine cmp_drop (E1 := fun k9 I2 => I2 47 0 = k9) (E2 := fun k9 L2 b9 => k9 = 0 → L2 76 0 = b9) ?_
  rcases h with ⟨⟨hc1, hc2⟩, rfl, rfl⟩ | ⟨q, hq, hp, rfl, rfl⟩
  · have g := (in_Z hz2 k).mpr hc1
    refine ⟨0, _, _, _, _, _, rfl, rfl, rfl, s_md_invoice l false _ _ z hzm hz2 k w, ?_, fun _ => ?_, ?_⟩
    · rw [if_pos g, if_pos hc2]
      exact wI_at _ _ _ _
    · rw [if_pos g, wL_at9]
      exact inv_eq (RR_76 hI _) _ hc2
    · exact IR_q hI
  · simp only [List.mem_cons, List.not_mem_nil, or_false] at hq
    rcases hq with rfl | rfl
    · rcases hp with ⟨-, hp⟩ | ⟨hp, -⟩
      · refine ⟨_, _, _, _, _, _, rfl, rfl, rfl, s_md_invoice l false I L z hzm hz2 k w, ?_, fun h => absurd h (by decide), ?_⟩
        · rw [if_neg (fun q => (in_Z hz2 k).mp q hp)]
          exact wI_at _ _ _ _
        · exact IR_w hI
      · exact absurd hp (by decide)
    · rcases hp with ⟨hp, -⟩ | ⟨-, hp1, hp2⟩
      · exact absurd hp (by decide)
      · refine ⟨_, _, _, _, _, _, rfl, rfl, rfl, s_md_invoice l false I L z hzm hz2 k w, ?_, fun h => absurd h (by decide), ?_⟩
        · rw [if_pos ((in_Z hz2 k).mpr hp1), if_neg hp2]
          exact wI_at _ _ _ _
        · exact IR_w hI
theorem n_told (hfl : l.flags = pinnedFlags ++ [noTraceFlag]) (hI : r_IR I L) (ha : a + 5 ≤ Ln) (hLn : Ln < 2 ^ 31) (hkc : kc + 1 ≤ 601024) (hks : ks + 6 ≤ 7293034) (kk : ∀ I2 L2, r_IR I2 L2 → qR (qKL l b Ln xs) E X 862 (lwV a) [] 77 (kc + 1) (ks + 6) (fm I2 L2)) : qR (qKL l b Ln xs) E X 698 (lwV a) [] 77 kc ks (fm I L) := by
  obtain ⟨-, -, ⟨ne, hne2, hne⟩, -, ⟨z, hz2, hz⟩, ⟨zp, hzp2, hzp⟩, -, hB⟩ := id hI.1.1
  have hzm : I 47 29 = nI z := hI.2.2.2.2.2.2.2.1.1.symm.trans hz
  have hzpm : I 47 34 = nI zp := hI.2.2.2.2.2.2.2.2.1.symm.trans hzp
  have hmp : mP I zp := by
    obtain ⟨zq, g1, g2, g3⟩ := hI.1.2.2.2.2.2.2.1
    have e : zq = zp := (nI_eq (by omega) (by omega)).mp (g2.symm.trans hzpm)
    subst e
    exact g3
  refine lc_told ha hLn hkc hks r_IR (w_told (qSp2_of hfl (by decide +kernel) (Nat.le_of_ble_eq_true rfl) (by omega) (r_bf_told l false I L ne z zp hne hne2 hz hz2 hzp hzp2 hB (xs (a + 1)) (xs (a + 2)))) (fun En h => h.1)) ?_ kk
  generalize xs (a + 1) = c
  generalize xs (a + 2) = w
  rintro v n9 f ⟨rfl, h⟩
  refine cmp_drop (E1 := fun k9 I2 => I2 47 0 = k9) (E2 := fun k9 L2 b9 => k9 = 0 → L2 76 0 = b9) ?_
  rcases h with ⟨⟨hc1, hc2⟩, rfl, rfl⟩ | ⟨q, hq, ⟨-, hp⟩, rfl, rfl⟩
  · obtain ⟨j, hj, hcj, hcl⟩ := C_of hc1
    refine ⟨0, _, _, _, _, _, rfl, rfl, rfl, s_md_told l false _ _ z zp hzm hz2 hzpm hzp2 hmp c w, ?_, fun _ => ?_, ?_⟩
    · rw [if_pos ⟨(in_C c).mpr hc1, (in_6 w).mpr hc2⟩]
      exact wI_at _ _ _ _
    · rw [if_pos ⟨(in_C c).mpr hc1, (in_6 w).mpr hc2⟩, wL_at9, hcl]
      exact told_eq (RR_76 hI _) hB hj hzp hzp2 hc2
    · exact IR_q hI
  · simp only [List.mem_cons, List.not_mem_nil, or_false] at hq
    subst hq
    refine ⟨_, _, _, _, _, _, rfl, rfl, rfl, s_md_told l false I L z zp hzm hz2 hzpm hzp2 hmp c w, ?_, fun h => absurd h (by decide), ?_⟩
    · rw [if_neg (fun h => hp ⟨(in_C c).mp h.1, (in_6 w).mp h.2⟩)]
      exact wI_at _ _ _ _
    · exact IR_w hI
theorem n_books (hfl : l.flags = pinnedFlags ++ [noTraceFlag]) (hI : r_IR I L) (ha : a + 5 ≤ Ln) (hLn : Ln < 2 ^ 31) (hkc : kc + 1 ≤ 601024) (hks : ks + 6 ≤ 7293034) (kk : ∀ I2 L2, r_IR I2 L2 → qR (qKL l b Ln xs) E X 862 (lwV a) [] 77 (kc + 1) (ks + 6) (fm I2 L2)) : qR (qKL l b Ln xs) E X 738 (lwV a) [] 77 kc ks (fm I L) := by
  obtain ⟨-, -, ⟨ne, hne2, hne⟩, -, ⟨z, hz2, hz⟩, ⟨zp, hzp2, hzp⟩, -, -⟩ := id hI.1.1
  have hzm : I 47 29 = nI z := hI.2.2.2.2.2.2.2.1.1.symm.trans hz
  have hzpm : I 47 34 = nI zp := hI.2.2.2.2.2.2.2.2.1.symm.trans hzp
  have hmp : mP I zp := by
    obtain ⟨zq, g1, g2, g3⟩ := hI.1.2.2.2.2.2.2.1
    have e : zq = zp := (nI_eq (by omega) (by omega)).mp (g2.symm.trans hzpm)
    subst e
    exact g3
  refine lc_books ha hLn hkc hks r_IR (w_books (qSp2_of hfl (by decide +kernel) (Nat.le_of_ble_eq_true rfl) (by omega) (r_bf_books l false I L ne z zp hne hne2 hz hz2 hzp hzp2 (xs (a + 1)))) (fun En h => h.1)) ?_ kk
  generalize xs (a + 1) = w
  rintro v n9 f ⟨rfl, h⟩
  refine cmp_drop (E1 := fun k9 I2 => I2 47 0 = k9) (E2 := fun k9 L2 b9 => k9 = 0 → L2 76 0 = b9) ?_
  rcases h with ⟨hc, rfl, rfl⟩ | ⟨q, hq, ⟨-, hp⟩, rfl, rfl⟩
  · refine ⟨0, _, _, _, _, _, rfl, rfl, rfl, s_md_books l false _ _ z zp hzm hz2 hzpm hzp2 hmp w, ?_, fun _ => ?_, ?_⟩
    · rw [if_pos ((in_4 w).mpr hc)]
      exact wI_at _ _ _ _
    · rw [if_pos ((in_4 w).mpr hc), wL_at9]
      exact books_eq (RR_76 hI _) hz hz2 hzp hzp2 hc
    · exact IR_q hI
  · simp only [List.mem_cons, List.not_mem_nil, or_false] at hq
    subst hq
    refine ⟨_, _, _, _, _, _, rfl, rfl, rfl, s_md_books l false I L z zp hzm hz2 hzpm hzp2 hmp w, ?_, fun h => absurd h (by decide), ?_⟩
    · rw [if_neg (fun h => hp ((in_4 w).mp h))]
      exact wI_at _ _ _ _
    · exact IR_w hI
theorem n_date (hfl : l.flags = pinnedFlags ++ [noTraceFlag]) (hI : r_IR I L) (ha : a + 5 ≤ Ln) (hLn : Ln < 2 ^ 31) (hkc : kc + 1 ≤ 601024) (hks : ks + 6 ≤ 7293034) (kk : ∀ I2 L2, r_IR I2 L2 → qR (qKL l b Ln xs) E X 862 (lwV a) [] 77 (kc + 1) (ks + 6) (fm I2 L2)) : qR (qKL l b Ln xs) E X 766 (lwV a) [] 77 kc ks (fm I L) := by
  by_cases hd : xs (a + 1) < 0 ∨ 100000 < xs (a + 1)
  · refine lc_date ha hLn hkc hks r_IR (w_date (qSp2_of hfl (by decide +kernel) (Nat.le_of_ble_eq_true rfl) (by omega) (r_bf_date l false I L (xs (a + 1)) (xs (a + 2)) 0 0 0 (fun h => absurd hd h))) (fun En h => h.1)) ?_ kk
    revert hd
    generalize xs (a + 1) = d
    generalize xs (a + 2) = w
    intro hd
    rintro v n9 f ⟨rfl, h⟩
    refine cmp_drop (E1 := fun k9 I2 => I2 47 0 = k9) (E2 := fun k9 L2 b9 => k9 = 0 → L2 76 0 = Int32.toInt64 b9) ?_
    rcases h with ⟨⟨hc1, -⟩, rfl, rfl⟩ | ⟨q, hq, ⟨-, hp⟩, rfl, rfl⟩
    · exact absurd hd hc1
    · simp only [List.mem_cons, List.not_mem_nil, or_false] at hq
      subst hq
      refine ⟨_, _, _, _, _, _, rfl, rfl, rfl, s_md_date l false I L d w 0 (fun h => absurd hd ((in_date d).mp h.1)), ?_, fun h => absurd h (by decide), IR_w hI⟩
      rw [if_neg (fun h => absurd hd ((in_date d).mp h.1))]
      exact wI_at _ _ _ _
  · obtain ⟨D, P, hD, hdD, hP, h1, h2⟩ := day_at hd
    obtain ⟨g1, g2, g3, g4, g5, g6, g7, g8, g9, g10⟩ := date_u hD hP h1 h2
    have hq : P / 12 < 400 := by omega
    refine lc_date ha hLn hkc hks r_IR (w_date (qSp2_of hfl (by decide +kernel) (Nat.le_of_ble_eq_true rfl) (by omega) (r_bf_date l false I L (xs (a + 1)) (xs (a + 2)) (2000 + D / 366) (2000 + P / 12) (P % 12) (fun _ => by
      rw [hdD, g9]
      exact ⟨g1, g2, g3, g4, g5, g6, g7, g8, g10⟩))) (fun En h => h.1)) ?_ kk
    revert hd hdD
    generalize xs (a + 1) = d
    generalize xs (a + 2) = w
    intro hd hdD
    rintro v n9 f ⟨rfl, h⟩
    refine cmp_drop (E1 := fun k9 I2 => I2 47 0 = k9) (E2 := fun k9 L2 b9 => k9 = 0 → L2 76 0 = Int32.toInt64 b9) ?_
    rcases h with ⟨⟨hc1, hc2⟩, rfl, rfl⟩ | ⟨q, hq, ⟨-, hp⟩, rfl, rfl⟩
    · refine ⟨0, _, _, _, _, _, rfl, rfl, rfl, s_md_date l false _ _ d w P (fun _ => by rw [hdD]; exact date_m hD hP h1 h2), ?_, fun _ => ?_, IR_q hI⟩
      · rw [if_pos ⟨(in_date d).mpr hd, (in_3 w).mpr hc2⟩]
        exact wI_at _ _ _ _
      · rw [wL_at9, g9]
        rw [if_pos (show (0 ≤ Int32.toInt64 d ∧ Int32.toInt64 d ≤ 100000) ∧ (0 ≤ Int32.toInt64 w ∧ Int32.toInt64 w ≤ 3) from ⟨(in_date d).mpr hd, (in_3 w).mpr hc2⟩)]
        congr 1
        unfold m_date
        by_cases w0 : w = 0
        · rw [if_pos w0, if_pos w0]
        rw [if_neg w0, if_neg w0]
        by_cases w1 : w = 1
        · rw [if_pos w1, if_pos w1]
        rw [if_neg w1, if_neg w1]
        by_cases w2 : w = 2
        · rw [if_pos w2, if_pos w2, hdD, m_left_n P (by omega) h1]
          have e1 : nI P / 12 = nI (P / 12) := nI_div (b := 12) (by omega) (by decide)
          have e2 : 2000 + nI P / 12 = nI (2000 + P / 12) := by
            rw [e1]
            show nI 2000 + nI (P / 12) = _
            rw [nI_add]
          rw [e2, u_md_n (by omega) (P % 12) (by omega), show 12 * (P / 12) + P % 12 = P by omega, nI_sub h1]
        · rw [if_neg w2, if_neg w2]
    · simp only [List.mem_cons, List.not_mem_nil, or_false] at hq
      subst hq
      refine ⟨_, _, _, _, _, _, rfl, rfl, rfl, s_md_date l false I L d w P (fun _ => by rw [hdD]; exact date_m hD hP h1 h2), ?_, fun h => absurd h (by decide), IR_w hI⟩
      rw [if_neg (fun h => hp ⟨(in_date d).mp h.1, (in_3 w).mp h.2⟩)]
      exact wI_at _ _ _ _
theorem n_count (hfl : l.flags = pinnedFlags ++ [noTraceFlag]) (hI : r_IR I L) (ha : a + 5 ≤ Ln) (hLn : Ln < 2 ^ 31) (hkc : kc + 1 ≤ 601024) (hks : ks + 6 ≤ 7293034) (kk : ∀ I2 L2, r_IR I2 L2 → qR (qKL l b Ln xs) E X 862 (lwV a) [] 77 (kc + 1) (ks + 6) (fm I2 L2)) : qR (qKL l b Ln xs) E X 806 (lwV a) [] 77 kc ks (fm I L) := by
  obtain ⟨-, -, ⟨ne, hne2, hne⟩, -, ⟨z, hz2, hz⟩, ⟨zp, hzp2, hzp⟩, -, -⟩ := id hI.1.1
  refine lc_count ha hLn hkc hks r_IR (w_count (qSp2_of hfl (by decide +kernel) (Nat.le_of_ble_eq_true rfl) (by omega) (r_bf_count l false I L ne z zp hne hne2 hz hz2 hzp hzp2 (xs (a + 1)))) (fun En h => h.1)) ?_ kk
  generalize xs (a + 1) = w
  rintro v n9 f ⟨rfl, h⟩
  rcases h with ⟨hc, rfl, rfl⟩ | ⟨q, hq, ⟨-, hp⟩, rfl, rfl⟩
  · refine ⟨0, _, _, _, _, _, rfl, rfl, rfl, s_md_count l false _ _ w, ?_, fun _ => ?_, ?_⟩
    · rw [if_pos hc]
      exact wI_at _ _ _ _
    · rw [wL_at9, count_eq hI.2 hne hz hzp hc]
    · exact IR_q hI
  · simp only [List.mem_cons, List.not_mem_nil, or_false] at hq
    subst hq
    refine ⟨_, _, _, _, _, _, rfl, rfl, rfl, s_md_count l false I L w, ?_, fun h => absurd h (by decide), ?_⟩
    · rw [if_neg hp]
      exact wI_at _ _ _ _
    · exact IR_w hI
end FU
