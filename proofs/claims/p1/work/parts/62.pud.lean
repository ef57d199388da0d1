/-! the first call: tick, run, pay, plan, invoice, told, books, count, use -/
section PD
variable {l : Launch} {b Ln : Nat} {xs : Nat → Int32} {E : qE} {X : qXC}
theorem u_look_c {I : Nat → Nat → Int32} {q a : Nat} {d : Int32} (h : a ≠ q) : u_look I q d a = I a := by
  unfold u_look u_look2 u_look1
  rw [wI_c h]
  split <;> split <;> simp only [wI_c h]
theorem u_keep_c {I : Nat → Nat → Int32} {q q2 a : Nat} {d : Int32} (h : a ≠ q2) : u_keep I q q2 d a = I a := by
  unfold u_keep
  split
  · rfl
  split
  · rfl
  exact wI_c h
theorem u_kps_c {I : Nat → Nat → Int32} {a : Nat} (h : 47 ≤ a) : ∀ c, c ≤ 4 → u_kps I (c + 1) a = u_kps I c a
  | c, hc => u_keep_c (by omega)
theorem u_kps_47 {I : Nat → Nat → Int32} {a : Nat} (h : 47 ≤ a) : ∀ c, c ≤ 5 → u_kps I c a = I a
  | 0, _ => rfl
  | c + 1, hc => (u_kps_c h c (by omega)).trans (u_kps_47 h c (by omega))
theorem u_lks_47 {I : Nat → Nat → Int32} {L : Nat → Nat → Int64} {z a : Nat} (h : 47 ≤ a) : ∀ c, c ≤ 5 → u_lks I L z c a = I a
  | 0, _ => rfl
  | c + 1, hc => (u_look_c (by omega)).trans (u_lks_47 h c (by omega))
theorem u_tk_47 {I : Nat → Nat → Int32} {L : Nat → Nat → Int64} {z a : Nat} (h : 47 ≤ a) : ∀ k, u_tk I L z k a = I a
  | 0 => rfl
  | k + 1 => by
    show u_pass (u_tk I L z k) L z a = I a
    unfold u_pass
    rw [u_lks_47 h 5 (by omega), wI_c (by omega), u_kps_47 h 5 (by omega)]
    exact u_tk_47 h k
theorem u_tk_09 {I : Nat → Nat → Int32} {L : Nat → Nat → Int64} {z : Nat} : ∀ k, u_tk I L z k 0 9 = I 0 9 + nI k
  | 0 => by show I 0 9 = I 0 9 + nI 0; rw [nI_0, Int32.add_zero]
  | k + 1 => by
    show u_pass (u_tk I L z k) L z 0 9 = _
    unfold u_pass
    rw [u_lks_ne (by omega), wI_at, u_kps_ne (by omega), u_tk_09 k, nI_succ, Int32.add_assoc]
theorem m_tk_0 {I : Nat → Nat → Int32} {L : Nat → Nat → Int64} {z T : Nat} : ∀ k, m_tk I L z T k 47 0 = I 47 0
  | 0 => rfl
  | k + 1 => by
    show m_day (m_tk I L z T k) L z (T + k) 47 0 = _
    unfold m_day
    rw [m_lks_ne (by omega) (by omega), wI_ne (Or.inr (by decide)), m_was_ne (by omega), m_tk_0 k]
theorem f_tick (hfl : l.flags = pinnedFlags ++ [noTraceFlag]) (hL : 5 ≤ Ln) (hLn : Ln < 2 ^ 31) (kk : kkT l b Ln xs E X) : qR (qKL l b Ln xs) E X 595 (lwV 0) [] 77 77 5632 (fm I0 L0) := by
  refine lc_tick (a := 0) hL hLn (by omega) (by omega) (fun _ _ => True) (w_tick (qSp2_of hfl (by decide +kernel) (Nat.le_of_ble_eq_true rfl) (by omega) (r_bf_tick l false I0 L0 0 rfl (by omega) (xs (0 + 1)))) ?_) ?_ (fun I2 L2 _ => kk I2 L2)
  · intro En h
    rcases h with h | h
    · exact Or.inl h.1
    · exact Or.inr h.1
  generalize xs (0 + 1) = d
  rintro v n f ⟨rfl, h⟩
  rcases h with ⟨⟨hc1, hc2⟩, rfl, rfl⟩ | ⟨q, hq, hp, rfl, rfl⟩
  · have hd0 : ¬ d < 0 := fun q => hc1 (Or.inl (by
      rw [Int32.lt_iff_toInt_lt] at q ⊢
      rw [k32_0] at q
      rw [k32_1]
      omega))
    obtain ⟨j, hj, hdj⟩ := nI_of hd0
    have hcl : d.toNatClampNeg = j := by rw [hdj]; exact nI_clamp hj
    have hc2 : ¬ 400 < nI 0 + d := hc2
    refine ⟨0, _, _, _, _, _, rfl, rfl, rfl, s_md_tick l false _ _ 0 0 (by rw [u_tk_47 (by omega)]; rfl) (by omega) (by rw [u_tk_47 (by omega)]; rfl) (by omega) d, ?_, fun _ => ?_, trivial⟩
    · rw [if_pos ((in_D d).mpr hc1), if_neg hc2, m_tk_0]
      exact wI_at _ _ _ _
    · rw [if_pos ((in_D d).mpr hc1), if_neg hc2, wL_at9, u_tk_09, hcl, ← hdj]
      rfl
  · simp only [List.mem_cons, List.not_mem_nil, or_false] at hq
    rcases hq with rfl | rfl
    · rcases hp with ⟨-, hp⟩ | ⟨hp, -⟩
      · refine ⟨_, _, _, _, _, _, rfl, rfl, rfl, s_md_tick l false _ _ 0 0 rfl (by omega) rfl (by omega) d, ?_, fun h => absurd h (by decide), trivial⟩
        rw [if_neg (fun h => (in_D d).mp h hp)]
        exact wI_at _ _ _ _
      · exact absurd hp (by decide)
    · rcases hp with ⟨hp, -⟩ | ⟨-, hp1, hp2⟩
      · exact absurd hp (by decide)
      · refine ⟨_, _, _, _, _, _, rfl, rfl, rfl, s_md_tick l false _ _ 0 0 rfl (by omega) rfl (by omega) d, ?_, fun h => absurd h (by decide), trivial⟩
        rw [if_pos ((in_D d).mpr hp1), if_pos (show 400 < nI 0 + d from hp2)]
        exact wI_at _ _ _ _
def FD0 : Nat → Nat := fun P => [0, 31, 60, 91, 121, 152, 182, 213, 244, 274, 305, 335, 366, 397, 425].getD P 0
theorem FD0_I : ∀ P, P ≤ 14 → I0 25 P = nI (FD0 P) := by decide +kernel
theorem FD0_m : ∀ P, P < 14 → FD0 P ≤ FD0 (P + 1) := by decide +kernel
theorem FD0_b : ∀ P, P ≤ 14 → FD0 P ≤ 1000 := by decide +kernel
theorem cT0 : cT I0 := by
  intro t ht
  match t, ht with
  | 0, _ => exact ⟨rfl, by decide⟩
  | 1, _ => exact ⟨rfl, by decide⟩
  | 2, _ => exact ⟨rfl, by decide⟩
theorem mT0 : mT I0 := by
  intro t ht
  match t, ht with
  | 0, _ => exact ⟨rfl, by decide⟩
  | 1, _ => exact ⟨rfl, by decide⟩
  | 2, _ => exact ⟨rfl, by decide⟩
  | 3, _ => exact ⟨rfl, by decide⟩
theorem u_rc0 (FD : Nat → Nat) (T ne : Nat) (s : qIL) : ∀ c, u_rc FD T ne 0 s c = s
  | 0 => rfl
  | c + 1 => (show u_rp FD T ne c (u_rc FD T ne 0 s c) 0 = s from u_rc0 FD T ne s c)
theorem m_rc0 (T ne : Nat) (s : qIM) : ∀ c, m_rc T ne 0 s c = s
  | 0 => rfl
  | c + 1 => (show m_rp T ne c (m_rc T ne 0 s c) 0 = s from m_rc0 T ne s c)
theorem f_run (kk : kkW l b Ln xs E X) (hL : 5 ≤ Ln) (hLn : Ln < 2 ^ 31) : qR (qKL l b Ln xs) E X 651 (lwV 0) [] 77 77 5632 (fm I0 L0) := by
  refine lc_run (a := 0) hL hLn (by omega) (by omega) (fun _ _ => True) (s_bf_run l false I0 L0 FD0 0 0 0 ⟨FD0_I, rfl, rfl, cT0, 0, by omega, rfl⟩ (by omega) (by omega) FD0_m FD0_b (by omega) (fun P hP => by omega) (fun _ => by decide)) (s_md_run l false _ _ 0 0 0 ?_ (by omega) (by omega) (by omega) (fun P hP => by omega) (fun _ => by decide +kernel)) ?_ trivial (fun I2 L2 _ => kk I2 L2)
  · rw [u_rc0]
    exact ⟨rfl, rfl, fun e he => by omega, mT0, 0, by omega, rfl⟩
  · rw [u_rc0, m_mk, m_rc0]
    rfl
theorem f_pay (hfl : l.flags = pinnedFlags ++ [noTraceFlag]) (hL : 5 ≤ Ln) (hLn : Ln < 2 ^ 31) (kk : kkT l b Ln xs E X) : qR (qKL l b Ln xs) E X 664 (lwV 0) [] 77 77 5632 (fm I0 L0) := by
  refine lc_pay (a := 0) hL hLn (by omega) (by omega) (fun _ _ => True) (w_pay (qSp2_of hfl (by decide +kernel) (Nat.le_of_ble_eq_true rfl) (by omega) (r_bf_pay l false I0 L0 0 rfl (by omega) (xs (0 + 1)) (lwJ (xs (0 + 2)) (xs (0 + 3))))) (fun En h => h.1)) ?_ (fun I2 L2 _ => kk I2 L2)
  generalize xs (0 + 1) = c
  generalize lwJ (xs (0 + 2)) (xs (0 + 3)) = a
  rintro v n f ⟨rfl, h⟩
  rcases h with ⟨⟨hc1, hc2⟩, rfl, rfl⟩ | ⟨q, hq, ⟨-, hp⟩, rfl, rfl⟩
  · obtain ⟨j, hj, hcj, hcl⟩ := C_of hc1
    rw [hcl]
    have hs : ∀ (I : Nat → Nat → Int32) (L : Nat → Nat → Int64), u_spend I L j 0 = (I, L) := fun I L => by
      unfold u_spend
      rw [if_pos]
      · rfl
      · show L (37 + 2 * j) 4 - L (37 + 2 * j) 4 ≤ 0
        rw [Int64.sub_self]
        decide
    rw [hs]
    refine ⟨0, _, _, _, _, _, rfl, rfl, rfl, s_md_pay l false _ _ 0 rfl (by omega) c a, ?_, fun _ => ?_, trivial⟩
    · rw [if_pos ⟨(in_C c).mpr hc1, (in_P a).mpr hc2⟩]
      show wI I0 47 0 0 47 0 = 0
      exact wI_at _ _ _ _
    · rw [if_pos ⟨(in_C c).mpr hc1, (in_P a).mpr hc2⟩, if_pos ⟨(in_C c).mpr hc1, (in_P a).mpr hc2⟩, hcl]
      have e : ∀ (I : Nat → Nat → Int32) (L : Nat → Nat → Int64), m_setL I L j 0 = L := fun _ _ => rfl
      rw [e, wL_c (a := 76) (k := 61) (by decide), wL_c (a := 76) (k := 47) (by decide), wL_at9, wL_at9]
      dsimp only
      rw [wL_at9, wL_c (a := 61) (k := 76) (by decide), wL_c (a := 61) (k := 37 + 2 * j) (by omega), wL_c (a := 61) (k := 0) (by decide), wL_c (a := 37 + 2 * j) (k := 0) (by omega)]
      show (0 : Int64) + a - 0 = 0 + a - 0
      rfl
  · simp only [List.mem_cons, List.not_mem_nil, or_false] at hq
    subst hq
    refine ⟨_, _, _, _, _, _, rfl, rfl, rfl, s_md_pay l false _ _ 0 rfl (by omega) c a, ?_, fun h => absurd h (by decide), trivial⟩
    rw [if_neg (fun h => hp ⟨(in_C c).mp h.1, (in_P a).mp h.2⟩)]
    exact wI_at _ _ _ _
theorem f_plan (hfl : l.flags = pinnedFlags ++ [noTraceFlag]) (hL : 5 ≤ Ln) (hLn : Ln < 2 ^ 31) (kk : kkT l b Ln xs E X) : qR (qKL l b Ln xs) E X 763 (lwV 0) [] 77 77 5632 (fm I0 L0) := by
  refine lc_plan (a := 0) hL hLn (by omega) (by omega) (fun _ _ => True) (w_plan (qSp2_of hfl (by decide +kernel) (Nat.le_of_ble_eq_true rfl) (by omega) (r_bf_plan l false I0 L0 0 rfl (by omega) (xs (0 + 1)) (lwJ (xs (0 + 2)) (xs (0 + 3))) (xs (0 + 4)))) ?_) ?_ (fun I2 L2 _ => kk I2 L2)
  · intro En h
    rcases h with h | h
    · exact Or.inl h.1
    · exact Or.inr h.1
  generalize xs (0 + 1) = c
  generalize lwJ (xs (0 + 2)) (xs (0 + 3)) = a
  generalize xs (0 + 4) = d
  rintro v n f ⟨rfl, h⟩
  rcases h with ⟨⟨hc1, hc2, hc3, -⟩, rfl, rfl⟩ | ⟨q, hq, hp, rfl, rfl⟩
  · have hc : (0 ≤ Int32.toInt64 c ∧ Int32.toInt64 c ≤ 4) ∧ (1 ≤ a ∧ a ≤ 1000000) ∧ (1 ≤ Int32.toInt64 d ∧ Int32.toInt64 d ≤ 400) := ⟨(in_C c).mpr hc1, (in_P a).mpr hc2, (in_Y d).mpr hc3⟩
    refine ⟨0, _, _, _, _, _, rfl, rfl, rfl, s_md_plan l false _ _ 0 rfl (by omega) c a d, ?_, fun _ => ?_, trivial⟩
    · rw [if_pos hc, if_neg (by decide), wI_ne (Or.inr (by decide)), wI_c (by decide), wI_c (by decide), wI_c (by decide)]
      exact wI_at _ _ _ _
    · rw [if_pos ⟨hc, by decide⟩, if_pos hc, if_neg (by decide), wL_c (by decide), wL_c (by decide), wL_at9]
  · simp only [List.mem_cons, List.not_mem_nil, or_false] at hq
    rcases hq with rfl | rfl
    · rcases hp with ⟨-, hp⟩ | ⟨hp, -⟩
      · refine ⟨_, _, _, _, _, _, rfl, rfl, rfl, s_md_plan l false _ _ 0 rfl (by omega) c a d, ?_, fun h => absurd h (by decide), trivial⟩
        rw [if_neg (fun h => hp ⟨(in_C c).mp h.1, (in_P a).mp h.2.1, (in_Y d).mp h.2.2⟩)]
        exact wI_at _ _ _ _
      · exact absurd hp (by decide)
    · rcases hp with ⟨hp, -⟩ | ⟨-, -, hp⟩
      · exact absurd hp (by decide)
      · exact absurd hp (by decide)
end PD
