/-! S1's script: text, text, tariff, where -/
def s1_S : List Int32 := [0, 0, 1919251316, 0, 0, 0, 21093, 0, 0, 0, 1, 0, 0, 0, 0, 2, 0, 0, 0, 0]
def s1_x : Nat → Int32 := fun j => s1_S.getD j 0
def s1_w1 : Int64 := lwJ 0 1919251316
def s1_w2 : Int64 := lwJ 21093 0
def s1_J1 : qJ := m_ap (wI (u_ap I0 s1_w1 0 8) 47 0 0) s1_w1 0 8
def s1_J2 : qJ := m_ap (wI (u_ap s1_J1 s1_w2 4 8) 47 0 0) s1_w2 4 8
def s1_J3 : qJ := u_ra9 s1_J2 6
def s1_J4 : qJ := (m_tf s1_J3 6 0).2
theorem s1_a1 : I0 1 3 = nI 0 := by decide +kernel
theorem s1_a2 : u_ap I0 s1_w1 0 8 47 4 = nI 0 := by decide +kernel
theorem s1_a3 : ¬ u_anyb s1_w1 8 = true := by decide +kernel
theorem s1_a4 : u_cN s1_w1 8 = 4 := by decide +kernel
theorem s1_a5 : ¬ m_anyb s1_w1 8 = true := by decide +kernel
theorem s1_a6 : m_cN s1_w1 8 = 4 := by decide +kernel
theorem s1_a7 : s1_J1 47 0 = 0 := by decide +kernel
theorem s1_b1 : s1_J1 1 3 = nI 4 := by decide +kernel
theorem s1_b2 : u_ap s1_J1 s1_w2 4 8 47 4 = nI 4 := by decide +kernel
theorem s1_b3 : ¬ u_anyb s1_w2 8 = true := by decide +kernel
theorem s1_b4 : u_cN s1_w2 8 = 2 := by decide +kernel
theorem s1_b5 : ¬ m_anyb s1_w2 8 = true := by decide +kernel
theorem s1_b6 : m_cN s1_w2 8 = 2 := by decide +kernel
theorem s1_b7 : s1_J2 47 0 = 0 := by decide +kernel
theorem s1_c1 : s1_J2 1 3 = nI 6 := by decide +kernel
theorem s1_c2 : s1_J3 47 4 = nI 6 := by decide +kernel
/-- the class: where is 0 -/
theorem s1_c3 : s1_J3 1 6 = 0 := by decide +kernel
theorem s1_c4 : s1_J4 47 0 = 1 := by decide +kernel
theorem s1_c5 : s1_J4 1 6 = 0 := by decide +kernel
/-- the reference: where is 4 -/
theorem s1_c6 : s1_J4 47 1 = 4 := by decide +kernel
theorem s1_loop {l : Launch} {b : Nat} (hfl : l.flags = pinnedFlags ++ [noTraceFlag]) (E : qE) (X : qXC) (hE : ∀ n f, E (some (.int 0)) n f) : qR (qKL l b 20 s1_x) E X 23 (lwV 0) [] 77 77 5632 (fm I0 L0) := by
  refine lw_hd (by decide) (by decide) (by decide) (by decide) (fun h => absurd h (by decide)) (fun hL => ?_)
  refine s1_sw0 hL (by decide) (by decide) ?_
  refine s1_text (n := 0) (w := s1_w1) hfl rfl s1_a1 s1_a2 (by decide) s1_a3 (by rw [s1_a4]; decide) s1_a5 (s1_a6.trans s1_a4.symm) s1_a7 hL (by decide) (by decide) (by decide) ?_
  refine lw_nx ?_
  refine lw_hd (by decide) (by decide) (by decide) (by decide) (fun h => absurd h (by decide)) (fun hL => ?_)
  refine s1_sw0 hL (by decide) (by decide) ?_
  refine s1_text (n := 4) (w := s1_w2) hfl rfl s1_b1 s1_b2 (by decide) s1_b3 (by rw [s1_b4]; decide) s1_b5 (s1_b6.trans s1_b4.symm) s1_b7 hL (by decide) (by decide) (by decide) ?_
  refine lw_nx ?_
  refine lw_hd (by decide) (by decide) (by decide) (by decide) (fun h => absurd h (by decide)) (fun hL => ?_)
  refine s1_sw1 hL (by decide) (by decide) ?_
  refine s1_tariff (n := 6) (t := 0) hfl rfl s1_c1 s1_c2 (by decide) (by unfold noT; decide) (fun h => absurd (s1_c3.symm.trans h) (by decide)) s1_c4 hL (by decide) (by decide) (by decide) ?_
  refine lw_nx ?_
  refine lw_hd (by decide) (by decide) (by decide) (by decide) (fun h => absurd h (by decide)) (fun hL => ?_)
  refine s1_sw2 hL (by decide) (by decide) ?_
  exact s1_where (by decide) (by decide) (fun h => absurd (s1_c5.symm.trans (h.trans s1_c6)) (by decide)) hE
