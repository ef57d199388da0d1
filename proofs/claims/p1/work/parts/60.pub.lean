/-! pure: the first call on the fresh objects, method by method -/
section PB
variable {l : Launch} {b Ln : Nat} {xs : Nat → Int32} {E : qE} {X : qXC}
abbrev kkT (l : Launch) (b Ln : Nat) (xs : Nat → Int32) (E : qE) (X : qXC) : Prop := ∀ I2 L2, qR (qKL l b Ln xs) E X 1255 (lwV 0) [] 77 78 5638 (fm I2 L2)
theorem f_text (hfl : l.flags = pinnedFlags ++ [noTraceFlag]) (hL : 5 ≤ Ln) (hLn : Ln < 2 ^ 31) (kk : kkT l b Ln xs E X) : qR (qKL l b Ln xs) E X 120 (lwV 0) [] 77 77 5632 (fm I0 L0) := by
  refine lc_text (a := 0) hL hLn (by omega) (by omega) (fun _ _ => True) (w_text (qSp2_of hfl (by decide +kernel) (Nat.le_of_ble_eq_true rfl) (by omega) (r_bf_text l false I0 L0 0 rfl (by omega) (lwJ (xs (0 + 1)) (xs (0 + 2))))) ?_) ?_ (fun I2 L2 _ => kk I2 L2)
  · intro En h
    rcases h with h | h
    · exact Or.inl h.1
    · exact Or.inr h.1
  · generalize lwJ (xs (0 + 1)) (xs (0 + 2)) = w
    rintro v n f ⟨rfl, h⟩
    rcases h with ⟨⟨hc1, hc2⟩, rfl, rfl⟩ | ⟨q, hq, hp, rfl, rfl⟩
    · rw [anyb_eq] at hc1
      rw [cN_eq] at hc2 ⊢
      refine ⟨0, _, _, _, _, _, rfl, rfl, rfl, s_md_text l false _ _ 0 (by rw [u_ap_c (by decide) (by decide)]; rfl) (by omega) w, ?_, fun _ => ?_, trivial⟩
      · rw [if_neg hc1, if_neg (by omega), m_ap_0]
        exact wI_at _ _ _ _
      · rw [wL_at9, if_neg hc1, if_neg (by omega)]
    · simp only [List.mem_cons, List.not_mem_nil, or_false] at hq
      rcases hq with rfl | rfl
      · rcases hp with ⟨-, hp⟩ | ⟨hp, -⟩
        · rw [anyb_eq] at hp
          refine ⟨_, _, _, _, _, _, rfl, rfl, rfl, s_md_text l false _ _ 0 rfl (by omega) w, ?_, fun h => absurd h (by decide), trivial⟩
          rw [if_pos hp]
          exact wI_at _ _ _ _
        · exact absurd hp (by decide)
      · rcases hp with ⟨hp, -⟩ | ⟨-, hp1, hp2⟩
        · exact absurd hp (by decide)
        · rw [anyb_eq] at hp1
          rw [cN_eq] at hp2
          refine ⟨_, _, _, _, _, _, rfl, rfl, rfl, s_md_text l false _ _ 0 rfl (by omega) w, ?_, fun h => absurd h (by decide), trivial⟩
          rw [if_neg hp1, if_pos (by omega)]
          exact wI_at _ _ _ _
end PB
