/-! the first call, method by method, further -/
section PC
variable {l : Launch} {b Ln : Nat} {xs : Nat → Int32} {E : qE} {X : qXC}
abbrev kkW (l : Launch) (b Ln : Nat) (xs : Nat → Int32) (E : qE) (X : qXC) : Prop := ∀ I2 L2, qR (qKL l b Ln xs) E X 1255 (lwV 0) [] 77 77 5632 (fm I2 L2)
/-- the fresh ints are 0 but in few cells -/
theorem I0_z {k j : Nat} (h : k ≠ 1 ∧ k ≠ 25 ∧ k ≠ 37 ∧ k ≠ 39 ∧ k ≠ 41 ∧ k ≠ 43 ∧ k ≠ 45 ∧ k ≠ 47 ∧ k ≠ 58) : I0 k j = 0 := by
  obtain ⟨h1, h2, h3, h4, h5, h6, h7, h8, h9⟩ := h
  simp [I0, h1, h2, h3, h4, h5, h6, h7, h8, h9]
theorem I0_cu {c : Nat} (hc : c < 5) : I0 (37 + 2 * c) 1 = -1 ∧ I0 (37 + 2 * c) 2 = 0 ∧ I0 (37 + 2 * c) 3 = 0 ∧ I0 58 c = -1 := by
  match c, hc with
  | 0, _ => exact ⟨rfl, rfl, rfl, rfl⟩
  | 1, _ => exact ⟨rfl, rfl, rfl, rfl⟩
  | 2, _ => exact ⟨rfl, rfl, rfl, rfl⟩
  | 3, _ => exact ⟨rfl, rfl, rfl, rfl⟩
  | 4, _ => exact ⟨rfl, rfl, rfl, rfl⟩
theorem C_of {c : Int32} (h : ¬ noC c) : ∃ j, j < 5 ∧ c = nI j ∧ c.toNatClampNeg = j := by
  have h1 : ¬ c < 0 := fun q => h (Or.inl q)
  have h2 : ¬ 5 ≤ c := fun q => h (Or.inr q)
  obtain ⟨j, hj, rfl⟩ := nI_of h1
  have h3 : ¬ nI 5 ≤ nI j := h2
  rw [nI_leI (by decide) hj] at h3
  exact ⟨j, by omega, rfl, nI_clamp hj⟩
theorem T_of {t : Int32} (h : ¬ noT t) : ∃ j, j < 3 ∧ t = nI j ∧ t.toNatClampNeg = j := by
  have h1 : ¬ t < 0 := fun q => h (Or.inl q)
  have h2 : ¬ 3 ≤ t := fun q => h (Or.inr q)
  obtain ⟨j, hj, rfl⟩ := nI_of h1
  have h3 : ¬ nI 3 ≤ nI j := h2
  rw [nI_leI (by decide) hj] at h3
  exact ⟨j, by omega, rfl, nI_clamp hj⟩
theorem f_tariff (hfl : l.flags = pinnedFlags ++ [noTraceFlag]) (hL : 5 ≤ Ln) (hLn : Ln < 2 ^ 31) (kk : kkT l b Ln xs E X) : qR (qKL l b Ln xs) E X 208 (lwV 0) [] 77 77 5632 (fm I0 L0) := by
  refine lc_tariff (a := 0) hL hLn (by omega) (by omega) (fun _ _ => True) (w_tariff (qSp2_of hfl (by decide +kernel) (Nat.le_of_ble_eq_true rfl) (by omega) (r_bf_tariff0 l I0 L0 rfl (xs (0 + 1)))) (fun En f h => h.1)) ?_ (fun I2 L2 _ => kk I2 L2)
  rintro v n f ⟨rfl, h⟩
  rcases h with ⟨hf, -⟩ | ⟨q, hq, ⟨-, I', rfl, hI⟩, rfl⟩
  · exact hf.elim
  · simp only [List.mem_cons, List.not_mem_nil, or_false] at hq
    subst hq
    refine ⟨_, _, _, _, _, _, rfl, rfl, rfl, s_md_tariff0 l I' L0 (by rw [hI 47 (by omega)]; rfl) (xs (0 + 1)), ?_, fun h => absurd h (by decide), trivial⟩
    split <;> exact wI_at _ _ _ _
theorem f_where (kk : kkW l b Ln xs E X) (hL : 5 ≤ Ln) (hLn : Ln < 2 ^ 31) : qR (qKL l b Ln xs) E X 264 (lwV 0) [] 77 77 5632 (fm I0 L0) :=
  lc_where (a := 0) hL hLn (by omega) (by omega) (fun _ _ => True) (s_bf_where l false I0 L0) (s_md_where l false I0 L0) rfl trivial (fun I2 L2 _ => kk I2 L2)
theorem f_subscribe (hfl : l.flags = pinnedFlags ++ [noTraceFlag]) (hL : 5 ≤ Ln) (hLn : Ln < 2 ^ 31) (kk : kkT l b Ln xs E X) : qR (qKL l b Ln xs) E X 344 (lwV 0) [] 77 77 5632 (fm I0 L0) := by
  refine lc_subscribe (a := 0) hL hLn (by omega) (by omega) (fun _ _ => True) (w_subscribe (qSp2_of hfl (by decide +kernel) (Nat.le_of_ble_eq_true rfl) (by omega) (r_bf_subscribe l false I0 L0 (xs (0 + 1)) (xs (0 + 2)))) (fun En h => h.1)) ?_ (fun I2 L2 _ => kk I2 L2)
  generalize xs (0 + 1) = c
  generalize xs (0 + 2) = t
  rintro v n f ⟨rfl, h⟩
  rcases h with ⟨⟨hc1, hc2⟩, rfl, rfl⟩ | ⟨q, hq, ⟨-, hp⟩, rfl, rfl⟩
  · refine ⟨0, _, _, _, _, _, rfl, rfl, rfl, s_md_subscribe l false _ _ c t, ?_, fun _ => ?_, trivial⟩
    · rw [if_pos ⟨(in_C c).mpr hc1, (in_T1 t).mpr hc2⟩, wI_c (by decide), wI_c (by decide)]
      exact wI_at _ _ _ _
    · obtain ⟨j, hj, hcj, hcl⟩ := C_of hc1
      rw [if_pos ⟨(in_C c).mpr hc1, (in_T1 t).mpr hc2⟩, wL_at9, hcl, wI_c (by omega), wI_c (by omega), (I0_cu hj).1, (I0_cu hj).2.2.2]
  · simp only [List.mem_cons, List.not_mem_nil, or_false] at hq
    subst hq
    refine ⟨_, _, _, _, _, _, rfl, rfl, rfl, s_md_subscribe l false _ _ c t, ?_, fun h => absurd h (by decide), trivial⟩
    rw [if_neg (fun h => hp ⟨(in_C c).mp h.1, (in_T1 t).mp h.2⟩)]
    exact wI_at _ _ _ _
theorem f_pause (hfl : l.flags = pinnedFlags ++ [noTraceFlag]) (hL : 5 ≤ Ln) (hLn : Ln < 2 ^ 31) (kk : kkT l b Ln xs E X) : qR (qKL l b Ln xs) E X 412 (lwV 0) [] 77 77 5632 (fm I0 L0) := by
  refine lc_pause (a := 0) (on := if xs (0 + 2) = 0 then 0 else 1) hL hLn (by omega) (by omega) (fun _ _ => True) rfl (w_pause (qSp2_of hfl (by decide +kernel) (Nat.le_of_ble_eq_true rfl) (by omega) (r_bf_pause l false I0 L0 (xs (0 + 1)) (if xs (0 + 2) = 0 then 0 else 1) (by split; exact Or.inl rfl; exact Or.inr rfl) (fun c hc => Or.inl (I0_cu hc).2.1))) ?_) ?_ (fun I2 L2 _ => kk I2 L2)
  · intro En h
    rcases h with h | h
    · exact Or.inl h.1
    · exact Or.inr h.1
  generalize xs (0 + 1) = c
  generalize (if xs (0 + 2) = 0 then (0 : Int32) else 1) = on
  rintro v n f ⟨rfl, h⟩
  rcases h with ⟨⟨hc1, hc2⟩, rfl, rfl⟩ | ⟨q, hq, hp, rfl, rfl⟩
  · exfalso
    obtain ⟨j, hj, hcj, hcl⟩ := C_of hc1
    rw [hcl] at hc2
    exact hc2 (Or.inl (I0_cu hj).1)
  · simp only [List.mem_cons, List.not_mem_nil, or_false] at hq
    rcases hq with rfl | rfl
    · rcases hp with ⟨-, hp⟩ | ⟨hp, -⟩
      · refine ⟨_, _, _, _, _, _, rfl, rfl, rfl, s_md_pause l false _ _ c on, ?_, fun h => absurd h (by decide), trivial⟩
        rw [if_neg (fun h => (in_C c).mp h hp)]
        exact wI_at _ _ _ _
      · exact absurd hp (by decide)
    · rcases hp with ⟨hp, -⟩ | ⟨-, hp, -⟩
      · exact absurd hp (by decide)
      · obtain ⟨j, hj, hcj, hcl⟩ := C_of hp
        refine ⟨_, _, _, _, _, _, rfl, rfl, rfl, s_md_pause l false _ _ c on, ?_, fun h => absurd h (by decide), trivial⟩
        rw [if_pos ((in_C c).mpr hp), if_pos (Or.inl (by rw [hcl, (I0_cu hj).2.2.2]; decide))]
        exact wI_at _ _ _ _
theorem f_event (hfl : l.flags = pinnedFlags ++ [noTraceFlag]) (hL : 5 ≤ Ln) (hLn : Ln < 2 ^ 31) (kk : kkT l b Ln xs E X) : qR (qKL l b Ln xs) E X 503 (lwV 0) [] 77 77 5632 (fm I0 L0) := by
  refine lc_event (a := 0) hL hLn (by omega) (by omega) (fun _ _ => True) (w_event (qSp2_of hfl (by decide +kernel) (Nat.le_of_ble_eq_true rfl) (by omega) (r_bf_event l false I0 L0 0 rfl (by omega) (xs (0 + 1)) (xs (0 + 2)) (xs (0 + 3)) (xs (0 + 4)))) ?_) ?_ (fun I2 L2 _ => kk I2 L2)
  · intro En h
    rcases h with h | h | h
    · exact Or.inl h.1
    · exact Or.inr (Or.inl h.1)
    · exact Or.inr (Or.inr h.1)
  generalize xs (0 + 1) = key
  generalize xs (0 + 2) = c
  generalize xs (0 + 3) = day
  generalize xs (0 + 4) = u
  have hand : ∀ (p q : Prop), (¬ (noC c ∨ u < 1 ∨ 10000 < u)) ↔ ((0 ≤ Int32.toInt64 c ∧ Int32.toInt64 c ≤ 4) ∧ (1 ≤ Int32.toInt64 u ∧ Int32.toInt64 u ≤ 10000)) := fun _ _ => by
    rw [in_C, in_U]
    exact ⟨fun h => ⟨fun q => h (Or.inl q), fun q => h (Or.inr q)⟩, fun h q => q.elim h.1 h.2⟩
  have hday : (¬ (day < 0 ∨ I0 0 9 < day ∨ day < I0 0 9 - 45)) ↔ (¬ nI 0 < day ∧ ¬ day < nI 0 - 45 ∧ 0 ≤ day) := by
    show (¬ (day < 0 ∨ nI 0 < day ∨ day < nI 0 - 45)) ↔ _
    rw [← Int32.not_lt]
    constructor
    · intro h
      exact ⟨fun q => h (Or.inr (Or.inl q)), fun q => h (Or.inr (Or.inr q)), fun q => h (Or.inl q)⟩
    · rintro ⟨h1, h2, h3⟩ (q | q | q)
      · exact h3 q
      · exact h1 q
      · exact h2 q
  rintro v n f ⟨rfl, h⟩
  rcases h with ⟨⟨hc1, hc2, hc3⟩, rfl, rfl⟩ | ⟨q, hq, hp, rfl, rfl⟩
  · refine ⟨0, _, _, _, _, _, rfl, rfl, rfl, s_md_event l false _ _ 0 0 rfl (by omega) rfl key c day u, ?_, fun _ => ?_, trivial⟩
    · rw [if_pos ((hand True True).mp hc1), if_pos (hday.mp hc2), if_neg (by exact Bool.false_ne_true), if_neg (by decide)]
      rw [wI_ne (Or.inr (by decide)), wI_c (by decide), wI_c (by decide), wI_c (by decide), wI_c (by decide)]
      exact wI_at _ _ _ _
    · rw [if_pos ((hand True True).mp hc1), if_pos (hday.mp hc2), wL_at9]
      rfl
  · simp only [List.mem_cons, List.not_mem_nil, or_false] at hq
    rcases hq with rfl | rfl | rfl
    · rcases hp with ⟨-, hp⟩ | ⟨hp, -⟩ | ⟨hp, -⟩
      · refine ⟨_, _, _, _, _, _, rfl, rfl, rfl, s_md_event l false _ _ 0 0 rfl (by omega) rfl key c day u, ?_, fun h => absurd h (by decide), trivial⟩
        rw [if_neg (fun h => (hand True True).mpr h hp)]
        exact wI_at _ _ _ _
      · exact absurd hp (by decide)
      · exact absurd hp (by decide)
    · rcases hp with ⟨hp, -⟩ | ⟨-, hp1, hp2⟩ | ⟨hp, -⟩
      · exact absurd hp (by decide)
      · refine ⟨_, _, _, _, _, _, rfl, rfl, rfl, s_md_event l false _ _ 0 0 rfl (by omega) rfl key c day u, ?_, fun h => absurd h (by decide), trivial⟩
        rw [if_pos ((hand True True).mp hp1), if_neg (fun h => (hday.mpr h) hp2)]
        exact wI_at _ _ _ _
      · exact absurd hp (by decide)
    · rcases hp with ⟨hp, -⟩ | ⟨hp, -⟩ | ⟨-, -, -, -, hp⟩
      · exact absurd hp (by decide)
      · exact absurd hp (by decide)
      · exact absurd hp (by decide)
end PC
