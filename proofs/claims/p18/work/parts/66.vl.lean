/-! both sides, held together -/
theorem k64_z : (0 : Int64).toInt = 0 := by decide
section PT12
variable {J M J' M' : qJ} {K N K' N' : rLg} {c z zp T : Nat} {w : Int32}
theorem qmm_r (x y : Int32) : qmmax x y = if x < y then y else x := rfl
theorem over_eq (h : r_RI J M K N) (h0 : J 0 9 = M 47 2) (k : Nat) : u_over J K (J 0 9) k = m_over M N k := by
  obtain ⟨h1, h2, h3, h4, h5, h6, h7⟩ := h
  unfold u_over m_over
  rw [← h0, ← h4, ← h5, ← h6]
  by_cases q : K 19 k = K 17 k
  · rw [if_pos q, if_pos (by rw [q, Int64.le_iff_toInt_le]; omega)]
  · rw [if_neg q]
    have g := (h7 k).resolve_right q
    rw [if_neg (by
      rw [Int64.le_iff_toInt_le]
      intro r
      exact q (Int64.toInt_inj.mp (by omega)))]
    generalize J 0 9 - J 18 k - 14 = v
    rw [qmm_r]
    by_cases r : v ≤ 0
    · rw [if_pos r, if_neg (by rw [Int32.lt_iff_toInt_lt]; rw [Int32.le_iff_toInt_le] at r; omega)]
    · rw [if_neg r, if_pos (by rw [Int32.lt_iff_toInt_lt]; rw [Int32.le_iff_toInt_le] at r; omega)]
theorem most_eq (h : r_RI J M K N) (h0 : J 0 9 = M 47 2) (c : Int32) : ∀ z, u_most J K c (J 0 9) z = m_most M N c z
  | 0 => rfl
  | z + 1 => by
    rw [u_most, m_most, most_eq h h0 c z, over_eq h h0, h.2.1]
    rfl
theorem open_eq (h : r_RI J M K N) (c : Int32) : ∀ z, u_open J K c z = m_open M N c z
  | 0 => rfl
  | z + 1 => by
    rw [u_open, m_open, open_eq h c z]
    obtain ⟨h1, h2, h3, h4, h5, h6, h7⟩ := h
    rw [← h2, ← h5, ← h6]
    by_cases q : J 15 z = c
    · rw [if_pos q, if_pos q]
      by_cases r : K 17 z ≤ K 19 z
      · rw [if_pos r]
        rw [Int64.le_iff_toInt_le] at r
        have e : K 19 z = K 17 z := by
          rcases h7 z with g | g
          · exact Int64.toInt_inj.mp (by omega)
          · exact g
        rw [e, Int64.sub_self, Int64.add_zero]
      · rw [if_neg r]
    · rw [if_neg q, if_neg q]
theorem i64_mul {x y : Int64} {a b : Int} (hx : x.toInt = a) (hy : y.toInt = b) (h1 : -2 ^ 63 ≤ a * b) (h2 : a * b < 2 ^ 63) : (x * y).toInt = a * b := by
  rw [Int64.toInt_mul, hx, hy, Int.bmod_def]
  omega
theorem mul_div {x y : Int64} (hx : 1 ≤ x.toInt) (hx2 : x.toInt ≤ 1000000) (hy : 1 ≤ y.toInt) (hy2 : y.toInt ≤ 400) : x * y / y = x := by
  apply Int64.toInt_inj.mp
  have hm : x.toInt * y.toInt ≤ 1000000 * 400 := Int.mul_le_mul hx2 hy2 (by omega) (by omega)
  have hm0 : 0 ≤ x.toInt * y.toInt := Int.mul_nonneg (by omega) (by omega)
  have h1 : (x * y).toInt = x.toInt * y.toInt := i64_mul rfl rfl (by omega) (by omega)
  rw [Int64.toInt_div, h1, Int.mul_tdiv_cancel _ (by omega), Int.bmod_def]
  omega
theorem earn1_eq (h : r_RP J M K N) (h0 : J 0 9 = M 47 2) {k : Nat} (hk : k < (J 20 4).toNatClampNeg) : u_earn1 J K (J 0 9) k = m_earn1 M N k := by
  obtain ⟨h1, h2, h3, h4, h5, h6⟩ := h
  obtain ⟨-, g1, g2, g3, g4⟩ := h6 k hk
  unfold u_earn1 m_earn1 u_share
  rw [← h0, ← h3, ← h4, ← h5, if_pos (by rw [Int64.le_iff_toInt_le, Int32.toInt_toInt64, k64_1]; exact g1)]
  unfold qmmin
  generalize J 0 9 - J 24 k = v
  by_cases q : v < J 23 k
  · rw [if_pos q, if_neg (by rw [Int32.lt_iff_toInt_lt] at q ⊢; omega)]
  · rw [if_neg q]
    have e : (if J 23 k < v then J 23 k else v) = J 23 k := by
      by_cases r : J 23 k < v
      · rw [if_pos r]
      · rw [if_neg r]
        rw [Int32.lt_iff_toInt_lt] at q r
        exact Int32.toInt_inj.mp (by omega)
    rw [e]
    exact mul_div g3 g4 (by rw [Int32.toInt_toInt64]; exact g1) (by rw [Int32.toInt_toInt64]; exact g2)
theorem earn_eq (h : r_RP J M K N) (h0 : J 0 9 = M 47 2) (c : Int32) : ∀ z, z ≤ (J 20 4).toNatClampNeg → u_earn J K c (J 0 9) z = m_tp M N c 6 z ∧ u_pamt J K c z - u_earn J K c (J 0 9) z = m_tp M N c 5 z
  | 0, _ => ⟨rfl, by rw [u_pamt, u_earn, m_tp]; exact Int64.sub_self 0⟩
  | z + 1, hz => by
    obtain ⟨i1, i2⟩ := earn_eq h h0 c z (by omega)
    rw [u_earn, u_pamt, m_tp, m_tp, earn1_eq h h0 (by omega), h.2.1, h.2.2.2.2.1, if_pos (show (6 : Int32) = 6 from rfl), if_neg (show ¬ (5 : Int32) = 6 by decide)]
    by_cases q : M 72 z = c
    · rw [if_pos q, if_pos q, if_pos q, if_pos q, ← i1, ← i2]
      refine ⟨rfl, ?_⟩
      generalize u_pamt J K c z = a
      generalize u_earn J K c (J 0 9) z = b
      generalize N 75 z = x
      generalize m_earn1 M N z = y
      simp only [Int64.sub_eq_add_neg, Int64.neg_add]
      ac_rfl
    · rw [if_neg q, if_neg q, if_neg q, if_neg q]
      exact ⟨i1, i2⟩
theorem told_eq (h : r_RR J M K N) (hB : ∀ c, c < 5 → qB (J (37 + 2 * c) 2)) (hc : c < 5) (hzp : J 20 4 = nI zp) (hzp2 : zp ≤ 10) (hw : w = 0 ∨ w = 1 ∨ w = 2 ∨ w = 3 ∨ w = 4 ∨ w = 5 ∨ w = 6) : u_told J K c z zp w = m_told M N c w z zp := by
  obtain ⟨⟨h1, h2⟩, h3, h4, h5, h6, h7, h8, h9⟩ := h
  have hr := h5 c hc
  have hk : zp ≤ (J 20 4).toNatClampNeg := by rw [hzp, nI_clamp (by omega)]; omega
  have he := earn_eq h9 h1 (nI c) zp hk
  rcases hw with rfl | rfl | rfl | rfl | rfl | rfl | rfl
  · show Int32.toInt64 (J (37 + 2 * c) 1) = Int32.toInt64 (M 58 c)
    rw [hr.1]
  · show (if J (37 + 2 * c) 2 = 0 then 0 else 1) = Int32.toInt64 (M 59 c)
    rw [← hr.2.1]
    rcases hB c hc with q | q
    · rw [q]; rfl
    · rw [q]; rfl
  · show Int32.toInt64 (J (37 + 2 * c) 3) = Int32.toInt64 (M 60 c)
    rw [hr.2.2.1]
  · exact hr.2.2.2.1
  · exact open_eq h8 (nI c) z
  · exact he.2
  · exact he.1
theorem inv_eq (h : r_RR J M K N) (k : Nat) (hw : w = 0 ∨ w = 1 ∨ w = 2 ∨ w = 3 ∨ w = 4 ∨ w = 5) : u_inv J K k w = m_inv M N k w := by
  obtain ⟨⟨h1, h2⟩, h3, h4, h5, h6, h7, h8, h9⟩ := h
  have ho := over_eq h8 h1 k
  obtain ⟨g1, g2, g3, g4, g5, g6, g7⟩ := h8
  rcases hw with rfl | rfl | rfl | rfl | rfl | rfl
  · show Int32.toInt64 (J 15 k) = Int32.toInt64 (M 67 k)
    rw [g2]
  · show Int32.toInt64 (J 16 k) = Int32.toInt64 (M 68 k)
    rw [g3]
  · show K 17 k = N 70 k
    rw [g5]
  · show Int32.toInt64 (J 18 k) = Int32.toInt64 (M 69 k)
    rw [g4]
  · show K 19 k = N 71 k
    rw [g6]
  · show Int32.toInt64 (u_over J K (J 0 9) k) = Int32.toInt64 (m_over M N k)
    rw [ho]
/-- each plan is one customer's -/
theorem allEa_s (h : r_RP J M K N) (h0 : J 0 9 = M 47 2) {z : Nat} (hz : z + 1 ≤ (J 20 4).toNatClampNeg) : ∀ n, n ≤ 5 → u_allEa J K (z + 1) n = u_allEa J K z n + (if ∃ c, c < n ∧ J 21 z = nI c then m_earn1 M N z else 0)
  | 0, _ => by
    rw [u_allEa, u_allEa, if_neg (by rintro ⟨c, hc, -⟩; omega), Int64.add_zero]
  | n + 1, hn => by
    rw [u_allEa, u_allEa, allEa_s h h0 hz n (by omega), u_earn, earn1_eq h h0 (by omega)]
    by_cases q : J 21 z = nI n
    · have q2 : ¬ ∃ c, c < n ∧ J 21 z = nI c := by
        rintro ⟨c, hc, r⟩
        have := (nI_eq (by omega) (by omega)).mp (q.symm.trans r)
        omega
      rw [if_neg q2, if_pos q, if_pos ⟨n, by omega, q⟩, Int64.add_zero]
      ac_rfl
    · rw [if_neg q]
      by_cases r : ∃ c, c < n ∧ J 21 z = nI c
      · obtain ⟨c, hc, r⟩ := r
        rw [if_pos ⟨c, hc, r⟩, if_pos ⟨c, by omega, r⟩]
        ac_rfl
      · rw [if_neg r, if_neg (by
          rintro ⟨c, hc, s⟩
          rcases Nat.lt_or_ge c n with t | t
          · exact r ⟨c, t, s⟩
          · have e : c = n := by omega
            rw [e] at s
            exact q s), Int64.add_zero, Int64.add_zero]
theorem allEa_0 : ∀ n, u_allEa J K 0 n = 0
  | 0 => rfl
  | n + 1 => by rw [u_allEa, allEa_0 n, u_earn, Int64.add_zero]
theorem b3_eq (h : r_RP J M K N) (h0 : J 0 9 = M 47 2) {x0 : Int64} (h3 : m_b2 M N 3 z z = x0) (h4 : m_b1 M N 4 z 5 = 0) : ∀ k, k ≤ (J 20 4).toNatClampNeg → m_b3 M N 3 z k = x0 + u_allEa J K k 5 ∧ m_b3 M N 4 z k = u_all (K 22) k - u_allEa J K k 5
  | 0, _ => by
    rw [m_b3, m_b3, if_pos rfl, if_neg (by decide), h3, h4, allEa_0, u_all]
    exact ⟨(Int64.add_zero _).symm, by decide⟩
  | k + 1, hk => by
    obtain ⟨i1, i2⟩ := b3_eq h h0 h3 h4 k (by omega)
    rw [m_b3, m_b3, i1, i2, allEa_s h h0 hk 5 (Nat.le_refl _), if_pos (h.2.2.2.2.2 k (by omega)).1, if_pos rfl, if_neg (show ¬ (4 : Int32) = 3 by decide), if_pos rfl, u_all, h.2.2.2.2.1]
    refine ⟨by ac_rfl, ?_⟩
    simp only [Int64.sub_eq_add_neg, Int64.neg_add]
    ac_rfl
theorem books_eq (h : r_RR J M K N) (hz : J 14 5 = nI z) (hz2 : z ≤ 50) (hzp : J 20 4 = nI zp) (hzp2 : zp ≤ 10) (hw : w = 0 ∨ w = 1 ∨ w = 2 ∨ w = 3 ∨ w = 4) : u_books J K z zp w = m_b3 M N w z zp := by
  obtain ⟨⟨h1, h2⟩, h3, h4, h5, h6, h7, h8, h9⟩ := h
  have hk : zp ≤ (J 20 4).toNatClampNeg := by rw [hzp, nI_clamp (by omega)]; omega
  have hs : ∀ (w : Int32), ¬ w = 3 → ¬ w = 4 → ∀ k, m_b3 M N w z k = m_b1 M N w z 5 := by
    intro w g3 g4 k
    induction k with
    | zero => rw [m_b3, if_neg g3]
    | succ k ih => rw [m_b3, ih, if_neg g3, if_neg g4, Int64.add_zero]
  have hb0 : ∀ (w : Int32), ¬ w = 0 → ¬ w = 1 → ¬ w = 2 → ∀ c, m_b1 M N w z c = 0 := by
    intro w g0 g1 g2 c
    induction c with
    | zero => rw [m_b1, if_neg g0]
    | succ c ih => rw [m_b1, ih, if_neg g1, if_neg g2, Int64.add_zero]
  have hb2 : ∀ k, m_b2 M N 3 z k = u_all (K 17) k := by
    intro k
    induction k with
    | zero => rw [m_b2, hb0 3 (by decide) (by decide) (by decide), u_all]
    | succ k ih => rw [m_b2, ih, u_all, h8.2.2.2.2.1]
  have h34 := b3_eq h9 h1 (hb2 z) (hb0 4 (by decide) (by decide) (by decide) 5) zp hk
  rcases hw with rfl | rfl | rfl | rfl | rfl
  · rw [hs 0 (by decide) (by decide)]
    show K 0 10 = _
    have : ∀ c, m_b1 M N 0 z c = N 47 35 := by
      intro c
      induction c with
      | zero => rw [m_b1, if_pos rfl]
      | succ c ih => rw [m_b1, ih, if_neg (by decide), if_neg (by decide), Int64.add_zero]
    rw [this, h2]
  · rw [hs 1 (by decide) (by decide)]
    show u_allOpen J K z 5 = _
    have : ∀ c, u_allOpen J K z c = m_b1 M N 1 z c := by
      intro c
      induction c with
      | zero => rw [m_b1, if_neg (by decide), u_allOpen]
      | succ c ih => rw [m_b1, u_allOpen, ih, if_pos rfl, open_eq h8]
    exact this 5
  · rw [hs 2 (by decide) (by decide)]
    show u_allCr K 5 = _
    have : ∀ c, c ≤ 5 → u_allCr K c = m_b1 M N 2 z c := by
      intro c
      induction c with
      | zero => intro _; rw [m_b1, if_neg (by decide), u_allCr]
      | succ c ih => intro hc; rw [m_b1, u_allCr, ih (by omega), if_neg (by decide), if_pos rfl, (h5 c (by omega)).2.2.2.1]
    exact this 5 (by omega)
  · rw [h34.1]
    rfl
  · rw [h34.2]
    rfl
theorem count_eq (h : r_RR J M K N) (hne : J 9 4 = nI c) (hz : J 14 5 = nI z) (hzp : J 20 4 = nI zp) (hw : w = 0 ∨ w = 1 ∨ w = 2 ∨ w = 3 ∨ w = 4) : (if w = 0 then J 0 9 else if w = 1 then nI c else if w = 2 then nI z else if w = 3 then nI zp else J 1 3) = m_count M w := by
  obtain ⟨⟨h1, h2⟩, h3, h4, h5, h6, h7, h8, h9⟩ := h
  rcases hw with rfl | rfl | rfl | rfl | rfl
  · exact h1
  · exact hne.symm.trans h7.1
  · exact hz.symm.trans h8.1
  · exact hzp.symm.trans h9.1
  · exact h3.1
end PT12
