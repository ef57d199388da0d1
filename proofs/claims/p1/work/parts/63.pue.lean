/-! the first call: invoice, told, books, count, use, charge -/
section PE
variable {l : Launch} {b Ln : Nat} {xs : Nat → Int32} {E : qE} {X : qXC}
theorem L0_z (k j : Nat) : L0 k j = 0 := rfl
theorem f_invoice (hfl : l.flags = pinnedFlags ++ [noTraceFlag]) (hL : 5 ≤ Ln) (hLn : Ln < 2 ^ 31) (kk : kkT l b Ln xs E X) : qR (qKL l b Ln xs) E X 942 (lwV 0) [] 77 77 5632 (fm I0 L0) := by
  refine lc_invoice (a := 0) hL hLn (by omega) (by omega) (fun _ _ => True) (w_invoice (qSp2_of hfl (by decide +kernel) (Nat.le_of_ble_eq_true rfl) (by omega) (r_bf_invoice l false I0 L0 0 rfl (by omega) (xs (0 + 1)) (xs (0 + 2)))) ?_) ?_ (fun I2 L2 _ => kk I2 L2)
  · intro En h
    rcases h with h | h
    · exact Or.inl h.1
    · exact Or.inr h.1
  generalize xs (0 + 1) = k
  generalize xs (0 + 2) = w
  have hk : k < 0 ∨ nI 0 ≤ k := by
    rw [nI_0]
    exact (Int32.lt_or_le k 0)
  have hk2 : ¬ (0 ≤ Int32.toInt64 k ∧ Int32.toInt64 k ≤ Int32.toInt64 (nI 0 - 1)) := by
    have : (Int32.toInt64 (nI 0 - 1)).toInt = -1 := by decide
    simp only [Int64.le_iff_toInt_le, Int32.toInt_toInt64, k64_0]
    rw [← Int32.toInt_toInt64 (nI 0 - 1), this]
    omega
  rintro v n f ⟨rfl, h⟩
  rcases h with ⟨⟨hc1, -⟩, rfl, rfl⟩ | ⟨q, hq, hp, rfl, rfl⟩
  · exact absurd hk hc1
  · simp only [List.mem_cons, List.not_mem_nil, or_false] at hq
    rcases hq with rfl | rfl
    · refine ⟨_, _, _, _, _, _, rfl, rfl, rfl, s_md_invoice l false _ _ 0 rfl (by omega) k w, ?_, fun h => absurd h (by decide), trivial⟩
      rw [if_neg hk2]
      exact wI_at _ _ _ _
    · rcases hp with ⟨hp, -⟩ | ⟨-, hp, -⟩
      · exact absurd hp (by decide)
      · exact absurd hk hp
theorem w7 {w : Int32} {n : Nat} (h : ∃ k : Nat, k ≤ n ∧ w = nI k) (hn : n ≤ 6) : w = 0 ∨ w = 1 ∨ w = 2 ∨ w = 3 ∨ w = 4 ∨ w = 5 ∨ w = 6 := by
  obtain ⟨k, hk, rfl⟩ := h
  match k, (show k ≤ 6 by omega) with
  | 0, _ => exact Or.inl rfl
  | 1, _ => exact Or.inr (Or.inl rfl)
  | 2, _ => exact Or.inr (Or.inr (Or.inl rfl))
  | 3, _ => exact Or.inr (Or.inr (Or.inr (Or.inl rfl)))
  | 4, _ => exact Or.inr (Or.inr (Or.inr (Or.inr (Or.inl rfl))))
  | 5, _ => exact Or.inr (Or.inr (Or.inr (Or.inr (Or.inr (Or.inl rfl)))))
  | 6, _ => exact Or.inr (Or.inr (Or.inr (Or.inr (Or.inr (Or.inr rfl)))))
theorem in_6 (w : Int32) : (0 ≤ Int32.toInt64 w ∧ Int32.toInt64 w ≤ 6) ↔ (w = 0 ∨ w = 1 ∨ w = 2 ∨ w = 3 ∨ w = 4 ∨ w = 5 ∨ w = 6) := by
  rw [in_W (n := 6) (by decide) k64_6]
  refine ⟨fun h => w7 h (by omega), fun h => ?_⟩
  rcases h with rfl | rfl | rfl | rfl | rfl | rfl | rfl
  · exact ⟨0, by omega, rfl⟩
  · exact ⟨1, by omega, rfl⟩
  · exact ⟨2, by omega, rfl⟩
  · exact ⟨3, by omega, rfl⟩
  · exact ⟨4, by omega, rfl⟩
  · exact ⟨5, by omega, rfl⟩
  · exact ⟨6, by omega, rfl⟩
theorem in_4 (w : Int32) : (0 ≤ Int32.toInt64 w ∧ Int32.toInt64 w ≤ 4) ↔ (w = 0 ∨ w = 1 ∨ w = 2 ∨ w = 3 ∨ w = 4) := by
  rw [in_W (n := 4) (by decide) k64_4]
  constructor
  · rintro ⟨k, hk, rfl⟩
    match k, hk with
    | 0, _ => exact Or.inl rfl
    | 1, _ => exact Or.inr (Or.inl rfl)
    | 2, _ => exact Or.inr (Or.inr (Or.inl rfl))
    | 3, _ => exact Or.inr (Or.inr (Or.inr (Or.inl rfl)))
    | 4, _ => exact Or.inr (Or.inr (Or.inr (Or.inr rfl)))
  · rintro (rfl | rfl | rfl | rfl | rfl)
    · exact ⟨0, by omega, rfl⟩
    · exact ⟨1, by omega, rfl⟩
    · exact ⟨2, by omega, rfl⟩
    · exact ⟨3, by omega, rfl⟩
    · exact ⟨4, by omega, rfl⟩
theorem told0 {c : Nat} (hc : c < 5) (L1 : Nat → Nat → Int64) (hL1 : ∀ k, k ≠ 76 → L1 k = L0 k) {w : Int32} (hw : w = 0 ∨ w = 1 ∨ w = 2 ∨ w = 3 ∨ w = 4 ∨ w = 5 ∨ w = 6) : u_told I0 L0 c 0 0 w = m_told I0 L1 c w 0 0 := by
  have h := I0_cu hc
  have h59 : I0 59 c = 0 := I0_z (by omega)
  have h60 : I0 60 c = 0 := I0_z (by omega)
  rcases hw with rfl | rfl | rfl | rfl | rfl | rfl | rfl
  · show Int32.toInt64 (I0 (37 + 2 * c) 1) = Int32.toInt64 (I0 58 c)
    rw [h.1, h.2.2.2]
  · show (if I0 (37 + 2 * c) 2 = 0 then (0 : Int64) else 1) = Int32.toInt64 (I0 59 c)
    rw [if_pos h.2.1, h59]
    rfl
  · show Int32.toInt64 (I0 (37 + 2 * c) 3) = Int32.toInt64 (I0 60 c)
    rw [h.2.2.1, h60]
  · show L0 (37 + 2 * c) 4 = L1 61 c
    rw [hL1 61 (by decide)]
    rfl
  · rfl
  · show (0 : Int64) - 0 = 0
    decide
  · rfl
theorem f_told (hfl : l.flags = pinnedFlags ++ [noTraceFlag]) (hL : 5 ≤ Ln) (hLn : Ln < 2 ^ 31) (kk : kkT l b Ln xs E X) : qR (qKL l b Ln xs) E X 1009 (lwV 0) [] 77 77 5632 (fm I0 L0) := by
  refine lc_told (a := 0) hL hLn (by omega) (by omega) (fun _ _ => True) (w_told (qSp2_of hfl (by decide +kernel) (Nat.le_of_ble_eq_true rfl) (by omega) (r_bf_told l false I0 L0 0 0 0 rfl (by omega) rfl (by omega) rfl (by omega) (fun c hc => Or.inl (I0_cu hc).2.1) (xs (0 + 1)) (xs (0 + 2)))) (fun En h => h.1)) ?_ (fun I2 L2 _ => kk I2 L2)
  generalize xs (0 + 1) = c
  generalize xs (0 + 2) = w
  rintro v n f ⟨rfl, h⟩
  rcases h with ⟨⟨hc1, hc2⟩, rfl, rfl⟩ | ⟨q, hq, ⟨-, hp⟩, rfl, rfl⟩
  · obtain ⟨j, hj, hcj, hcl⟩ := C_of hc1
    refine ⟨0, _, _, _, _, _, rfl, rfl, rfl, s_md_told l false _ _ 0 0 rfl (by omega) rfl (by omega) (fun i hi => by omega) c w, ?_, fun _ => ?_, trivial⟩
    · rw [if_pos ⟨(in_C c).mpr hc1, (in_6 w).mpr hc2⟩]
      exact wI_at _ _ _ _
    · rw [if_pos ⟨(in_C c).mpr hc1, (in_6 w).mpr hc2⟩, wL_at9, hcl]
      exact told0 hj _ (fun k hk => wL_c hk) hc2
  · simp only [List.mem_cons, List.not_mem_nil, or_false] at hq
    subst hq
    refine ⟨_, _, _, _, _, _, rfl, rfl, rfl, s_md_told l false _ _ 0 0 rfl (by omega) rfl (by omega) (fun i hi => by omega) c w, ?_, fun h => absurd h (by decide), trivial⟩
    rw [if_neg (fun h => hp ⟨(in_C c).mp h.1, (in_6 w).mp h.2⟩)]
    exact wI_at _ _ _ _
theorem f_books (hfl : l.flags = pinnedFlags ++ [noTraceFlag]) (hL : 5 ≤ Ln) (hLn : Ln < 2 ^ 31) (kk : kkT l b Ln xs E X) : qR (qKL l b Ln xs) E X 1076 (lwV 0) [] 77 77 5632 (fm I0 L0) := by
  refine lc_books (a := 0) hL hLn (by omega) (by omega) (fun _ _ => True) (w_books (qSp2_of hfl (by decide +kernel) (Nat.le_of_ble_eq_true rfl) (by omega) (r_bf_books l false I0 L0 0 0 0 rfl (by omega) rfl (by omega) rfl (by omega) (xs (0 + 1)))) (fun En h => h.1)) ?_ (fun I2 L2 _ => kk I2 L2)
  generalize xs (0 + 1) = w
  rintro v n f ⟨rfl, h⟩
  rcases h with ⟨hc, rfl, rfl⟩ | ⟨q, hq, ⟨-, hp⟩, rfl, rfl⟩
  · refine ⟨0, _, _, _, _, _, rfl, rfl, rfl, s_md_books l false _ _ 0 0 rfl (by omega) rfl (by omega) (fun i hi => by omega) w, ?_, fun _ => ?_, trivial⟩
    · rw [if_pos ((in_4 w).mpr hc)]
      exact wI_at _ _ _ _
    · rw [if_pos ((in_4 w).mpr hc), wL_at9]
      rcases hc with rfl | rfl | rfl | rfl | rfl <;> rfl
  · simp only [List.mem_cons, List.not_mem_nil, or_false] at hq
    subst hq
    refine ⟨_, _, _, _, _, _, rfl, rfl, rfl, s_md_books l false _ _ 0 0 rfl (by omega) rfl (by omega) (fun i hi => by omega) w, ?_, fun h => absurd h (by decide), trivial⟩
    rw [if_neg (fun h => hp ((in_4 w).mp h))]
    exact wI_at _ _ _ _
theorem f_count (hfl : l.flags = pinnedFlags ++ [noTraceFlag]) (hL : 5 ≤ Ln) (hLn : Ln < 2 ^ 31) (kk : kkT l b Ln xs E X) : qR (qKL l b Ln xs) E X 1199 (lwV 0) [] 77 77 5632 (fm I0 L0) := by
  refine lc_count (a := 0) hL hLn (by omega) (by omega) (fun _ _ => True) (w_count (qSp2_of hfl (by decide +kernel) (Nat.le_of_ble_eq_true rfl) (by omega) (r_bf_count l false I0 L0 0 0 0 rfl (by omega) rfl (by omega) rfl (by omega) (xs (0 + 1)))) (fun En h => h.1)) ?_ (fun I2 L2 _ => kk I2 L2)
  generalize xs (0 + 1) = w
  rintro v n f ⟨rfl, h⟩
  rcases h with ⟨hc, rfl, rfl⟩ | ⟨q, hq, ⟨-, hp⟩, rfl, rfl⟩
  · refine ⟨0, _, _, _, _, _, rfl, rfl, rfl, s_md_count l false _ _ w, ?_, fun _ => ?_, trivial⟩
    · rw [if_pos hc]
      exact wI_at _ _ _ _
    · rw [wL_at9]
      rcases hc with rfl | rfl | rfl | rfl | rfl <;> rfl
  · simp only [List.mem_cons, List.not_mem_nil, or_false] at hq
    subst hq
    refine ⟨_, _, _, _, _, _, rfl, rfl, rfl, s_md_count l false _ _ w, ?_, fun h => absurd h (by decide), trivial⟩
    rw [if_neg hp]
    exact wI_at _ _ _ _
theorem u_use0 {t : Nat} (ht : t < 3) (u : Int64) : u_use I0 (28 + 3 * t) (29 + 3 * t) (30 + 3 * t) (ctz I0 t) u 1 1 = 0 := by
  have h1 : ∀ j, I0 (28 + 3 * t) j = 0 := fun j => I0_z (by omega)
  have h2 : ctz I0 t = 0 := by unfold ctz; rw [h1]; rfl
  unfold u_use u_tiers
  rw [h2, h1, h1, h1, if_pos (by decide)]
  show qmmaxl (0 + (_ - 0) * Int32.toInt64 0) (u_share (Int32.toInt64 0) _ _) = 0
  have e1 : ∀ x : Int64, (0 : Int64) + (x - 0) * Int32.toInt64 0 = 0 := fun x => by
    have : Int32.toInt64 0 = 0 := by decide
    rw [this, Int64.mul_zero, Int64.add_zero]
  rw [e1]
  decide
theorem m_use0 {t : Nat} (ht : t < 3) (I : Nat → Nat → Int32) (hI : ∀ k, 47 ≤ k → I k = I0 k) (u : Int64) : m_use I t u = 0 := by
  have h0 : ∀ k, 49 ≤ k → k ≠ 58 → ∀ j, I k j = 0 := fun k hk h9 j => by
    rw [hI k (by omega)]
    exact I0_z (by omega)
  have h2 : tz I t = 0 := by unfold tz; rw [h0 54 (by decide) (by decide)]; rfl
  unfold m_use m_priced m_sum
  rw [h2, h0 50 (by decide) (by decide), h0 51 (by decide) (by decide), h0 52 (by decide) (by decide), h0 55 (by decide) (by decide), if_pos (show (0 : Int32) ≤ 0 by decide)]
  show (if (0 : Int64) + (m_v u (Int32.toInt64 0) - 0) * Int32.toInt64 0 < Int32.toInt64 0 then Int32.toInt64 0 else (0 : Int64) + (m_v u (Int32.toInt64 0) - 0) * Int32.toInt64 0) = 0
  have e1 : ∀ x : Int64, (0 : Int64) + (x - 0) * Int32.toInt64 0 = 0 := fun x => by
    have : Int32.toInt64 0 = 0 := by decide
    rw [this, Int64.mul_zero, Int64.add_zero]
  rw [e1]
  decide
theorem f_use (hfl : l.flags = pinnedFlags ++ [noTraceFlag]) (hL : 5 ≤ Ln) (hLn : Ln < 2 ^ 31) (kk : kkT l b Ln xs E X) : qR (qKL l b Ln xs) E X 277 (lwV 0) [] 77 77 5632 (fm I0 L0) := by
  refine lc_use (a := 0) hL hLn (by omega) (by omega) (fun _ _ => True) (w_use (qSp2_of hfl (by decide +kernel) (Nat.le_of_ble_eq_true rfl) (by omega) (r_bf_use l false I0 L0 cT0 (xs (0 + 1)) (xs (0 + 2)))) (fun En h => h.1)) ?_ (fun I2 L2 _ => kk I2 L2)
  generalize xs (0 + 1) = t
  generalize xs (0 + 2) = u
  rintro v n f ⟨rfl, h⟩
  rcases h with ⟨⟨hc1, hc2⟩, rfl, rfl⟩ | ⟨q, hq, ⟨-, hp⟩, rfl, rfl⟩
  · obtain ⟨j, hj, htj, hcl⟩ := T_of hc1
    refine ⟨0, _, _, _, _, _, rfl, rfl, rfl, s_md_use l false _ _ mT0 t u, ?_, fun _ => ?_, trivial⟩
    · rw [if_pos ⟨(in_T t).mpr hc1, (in_M u).mpr hc2⟩]
      exact wI_at _ _ _ _
    · rw [if_pos ⟨(in_T t).mpr hc1, (in_M u).mpr hc2⟩, wL_at9, hcl, u_use0 hj, m_use0 hj _ (fun _ _ => rfl)]
  · simp only [List.mem_cons, List.not_mem_nil, or_false] at hq
    subst hq
    refine ⟨_, _, _, _, _, _, rfl, rfl, rfl, s_md_use l false _ _ mT0 t u, ?_, fun h => absurd h (by decide), trivial⟩
    rw [if_neg (fun h => hp ⟨(in_T t).mp h.1, (in_M u).mp h.2⟩)]
    exact wI_at _ _ _ _
end PE
