/-! the loop -/
theorem Inv_I0 : Inv I0 := by
  refine ⟨⟨FD0_I, ⟨0, by omega, rfl⟩, ⟨0, by omega, rfl⟩, fun t ht => ⟨0, by omega, ?_⟩, ⟨0, by omega, rfl⟩, ⟨0, by omega, rfl⟩, ⟨0, by omega, rfl⟩, fun c hc => Or.inl (I0_cu hc).2.1⟩, ⟨0, by omega, rfl⟩, ⟨0, by omega, rfl⟩, fun e he => ⟨0, by omega, ?_⟩, fun t ht => ⟨0, by omega, ?_⟩, ⟨0, by omega, rfl⟩, ⟨0, by omega, rfl, fun i hi => absurd hi (by omega)⟩, ⟨0, by omega, rfl⟩⟩
  all_goals exact (I0_z (by omega)).trans nI_0.symm
theorem c_loop (l : Launch) (hfl : l.flags = pinnedFlags ++ [noTraceFlag]) {b Ln : Nat} {xs : Nat → Int32} (hLn : Ln ≤ 2560) (E : qE) (X : qXC) (hE : ∀ n f, E (some (.int 1)) n f) : ∀ (j a kc ks : Nat) (I : qJ) (L : rLg), Ln - a < j → a ≤ 2565 → kc ≤ 77 + a → ks ≤ 5632 + 6 * a → r_IR I L → qR (qKL l b Ln xs) E X 23 (lwV a) [] 77 kc ks (fm I L) := by
  intro j
  induction j with
  | zero => intro a kc ks I L hj; omega
  | succ j ih =>
    intro a kc ks I L hj ha hkc hks hI
    refine lw_hd (by omega) (by omega) (by omega) (by omega) (fun _ => hE _ _) (fun hL => ?_)
    have kk1 : ∀ I2 L2, r_IR I2 L2 → qR (qKL l b Ln xs) E X 862 (lwV a) [] 77 (kc + 1) (ks + 6) (fm I2 L2) := fun I2 L2 h => lw_nx (ih (a + 5) (kc + 1) (ks + 6) I2 L2 (by omega) (by omega) (by omega) (by omega) h)
    have kk0 : ∀ I2 L2, r_IR I2 L2 → qR (qKL l b Ln xs) E X 862 (lwV a) [] 77 kc ks (fm I2 L2) := fun I2 L2 h => lw_nx (ih (a + 5) kc ks I2 L2 (by omega) (by omega) (by omega) (by omega) h)
    exact lw_sw hL (by omega) (n_text hfl hI hL (by omega) (by omega) (by omega) kk1) (n_tariff hfl hI hL (by omega) (by omega) (by omega) kk1) (n_where hI hL (by omega) (by omega) (by omega) kk0) (n_use hfl hI hL (by omega) (by omega) (by omega) kk1) (n_subscribe hfl hI hL (by omega) (by omega) (by omega) kk1) (n_pause hfl hI hL (by omega) (by omega) (by omega) kk1) (n_event hfl hI hL (by omega) (by omega) (by omega) kk1) (n_tick hfl hI hL (by omega) (by omega) (by omega) kk1) (n_run hI hL (by omega) (by omega) (by omega) kk0) (n_pay hfl hI hL (by omega) (by omega) (by omega) kk1) (n_plan hfl hI hL (by omega) (by omega) (by omega) kk1) (n_charge hfl hI hL (by omega) (by omega) (by omega) kk1) (n_invoice hfl hI hL (by omega) (by omega) (by omega) kk1) (n_told hfl hI hL (by omega) (by omega) (by omega) kk1) (n_books hfl hI hL (by omega) (by omega) (by omega) kk1) (n_date hfl hI hL (by omega) (by omega) (by omega) kk1) (n_count hfl hI hL (by omega) (by omega) (by omega) kk1) (kk0 I L hI)
