/-! the first call: charge -/
section PF
variable {l : Launch} {b Ln : Nat} {xs : Nat → Int32} {E : qE} {X : qXC}
theorem u_live_neg {I : Nat → Nat → Int32} {q q2 : Nat} {d : Int32} (h : I q 1 = -1) : u_live I q q2 d (nI 0) < 0 := by
  have hm : (-1 : Int32) < 0 := by decide
  unfold u_live u_liveNow
  split
  · split
    · rw [h]; exact hm
    · exact hm
  split
  · exact hm
  rename_i h2
  rw [if_pos (by rw [nI_0]; exact Int32.not_lt.mp h2)]
  exact hm
theorem u_cd0 {c F : Nat} (hc : c < 5) : ∀ i, u_cd I0 c F 0 i = u_z26 I0
  | 0 => rfl
  | i + 1 => by
    have ih := u_cd0 (F := F) hc i
    have hz : ∀ k, k ≠ 26 → u_z26 I0 k = I0 k := fun k hk => by
      unfold u_z26
      rw [wI_c hk, wI_c hk, wI_c hk]
    unfold u_cd
    rw [if_pos (Or.inl (by
      rw [ih]
      exact u_live_neg (by rw [hz _ (by omega)]; exact (I0_cu hc).1)))]
    exact ih
theorem m_live0 {I : Nat → Nat → Int32} {c d : Nat} (h : I 58 c = -1) : m_live I 0 c d = -1 := by
  unfold m_live
  rw [if_neg (by omega)]
  split
  · rfl
  split
  · rfl
  · exact h
theorem m_dd0 {I : Nat → Nat → Int32} {c t F : Nat} (h : I 58 c = -1) (ht : t < 3) : ∀ i, m_dd I 0 c t F i = 0
  | 0 => rfl
  | i + 1 => by
    unfold m_dd
    rw [m_live0 h, if_neg, m_dd0 h ht i]
    match t, ht with
    | 0, _ => decide
    | 1, _ => decide
    | 2, _ => decide
theorem m_due0 {I : Nat → Nat → Int32} {c F D ne : Nat} (h : I 58 c = -1) : m_due I 0 c F D ne = 0 := by
  unfold m_due m_ds
  rw [if_pos (m_dd0 h (by decide) D)]
  unfold m_ds
  rw [if_pos (m_dd0 h (by decide) D)]
  unfold m_ds
  rw [if_pos (m_dd0 h (by decide) D)]
  rfl
theorem f_charge (hfl : l.flags = pinnedFlags ++ [noTraceFlag]) (hL : 5 ≤ Ln) (hLn : Ln < 2 ^ 31) (kk : kkT l b Ln xs E X) : qR (qKL l b Ln xs) E X 875 (lwV 0) [] 77 77 5632 (fm I0 L0) := by
  refine lc_charge (a := 0) hL hLn (by omega) (by omega) (fun _ _ => True) (w_charge (qSp2_of hfl (by decide +kernel) (Nat.le_of_ble_eq_true rfl) (by omega) (r_bf_charge l false I0 L0 0 0 rfl (by omega) rfl (by omega) cT0 FD0 (fun P hP => FD0_I P (by omega)) FD0_m (fun P hP => FD0_b P (by omega)) (xs (0 + 1)) (xs (0 + 2)))) (fun En h => h.1)) ?_ (fun I2 L2 _ => kk I2 L2)
  generalize xs (0 + 1) = c
  generalize xs (0 + 2) = p
  rintro v n f ⟨rfl, h⟩
  rcases h with ⟨⟨hc1, hc2⟩, rfl, rfl⟩ | ⟨q, hq, ⟨-, hp⟩, rfl, rfl⟩
  · obtain ⟨j, hj, hcj, hcl⟩ := C_of hc1
    rw [hcl]
    unfold u_charge
    rw [u_cd0 hj]
    refine ⟨0, _, _, _, _, _, rfl, rfl, rfl, s_md_charge l false (u_z26 I0) _ 0 0 rfl (by omega) rfl (by omega) (fun e he => by omega) (fun t ht => mT0 t ht) c p, ?_, fun _ => ?_, trivial⟩
    · rw [if_pos ⟨(in_C c).mpr hc1, (in_Q p).mpr hc2⟩]
      exact wI_at _ _ _ _
    · rw [if_pos ⟨(in_C c).mpr hc1, (in_Q p).mpr hc2⟩, wL_at9, hcl, m_due0 (show u_z26 I0 58 j = -1 from (I0_cu hj).2.2.2)]
      unfold u_csum
      rw [if_pos (show u_z26 I0 26 2 ≤ 0 by decide)]
      unfold u_csum
      rw [if_pos (show u_z26 I0 26 1 ≤ 0 by decide)]
      unfold u_csum
      rw [if_pos (show u_z26 I0 26 0 ≤ 0 by decide)]
      rfl
  · simp only [List.mem_cons, List.not_mem_nil, or_false] at hq
    subst hq
    refine ⟨_, _, _, _, _, _, rfl, rfl, rfl, s_md_charge l false _ _ 0 0 rfl (by omega) rfl (by omega) (fun e he => by omega) mT0 c p, ?_, fun h => absurd h (by decide), trivial⟩
    rw [if_neg (fun h => hp ⟨(in_C c).mp h.1, (in_Q p).mp h.2⟩)]
    exact wI_at _ _ _ _
end PF
