/-! both sides, held together -/
section PT7
variable {J M : qJ} {a b n z s e B : Nat} {v p w : Int32}
theorem spb_2 {J' : qJ} (h : J' 2 = J 2) (i s : Nat) : ∀ k, u_spb J' i s k = u_spb J i s k
  | 0 => rfl
  | k + 1 => by rw [u_spb, u_spb, spb_2 h i s k, h]
theorem word_2 {J' : qJ} (h : J' 2 = J 2) : u_word J' s e = u_word J s e := by
  unfold u_word u_sp
  simp only [spb_2 h]
theorem word_cs : u_word J s e = 0 ∨ u_word J s e = 1 ∨ u_word J s e = 2 ∨ u_word J s e = 3 ∨ u_word J s e = 4 ∨ u_word J s e = 5 ∨ u_word J s e = -1 := by
  unfold u_word
  split
  · exact Or.inl rfl
  split
  · exact Or.inr (Or.inl rfl)
  split
  · exact Or.inr (Or.inr (Or.inl rfl))
  split
  · exact Or.inr (Or.inr (Or.inr (Or.inl rfl)))
  split
  · exact Or.inr (Or.inr (Or.inr (Or.inr (Or.inl rfl))))
  split
  · exact Or.inr (Or.inr (Or.inr (Or.inr (Or.inr (Or.inl rfl)))))
  · exact Or.inr (Or.inr (Or.inr (Or.inr (Or.inr (Or.inr rfl)))))
/-- the reference refuses a part when no number stands behind its word -/
theorem ppt_no (h : ∀ M' : qJ, M' 48 = M 48 → ∀ low, m_rv M' e n low < 0) : (m_ppt M s e n z w).1 = 0 := by
  have one : ∀ (k : Int32) (c : Nat), (m_pone (m_o1 M k) e n c).1 = 0 := fun k c => by
    unfold m_pone
    rw [if_pos (h (m_o1 M k) (wI_c9 (by decide)) 0)]
  have two : ∀ (k low : Int32) (F : qJ → Int32 → Int32 → qJ), (m_ptwo (m_o1 M k) e n low F).1 = 0 := fun k low F => by
    unfold m_ptwo
    rw [if_pos (h (m_o1 M k) (wI_c9 (by decide)) low)]
  have no : (m_pno M s).1 = 0 := rfl
  unfold m_ppt
  split
  · split
    · exact no
    · exact one _ _
  split
  · split
    · exact no
    · exact one _ _
  split
  · split
    · exact no
    · exact one _ _
  split
  · split
    · exact no
    split
    · exact no
    · exact two _ _ _
  split
  · split
    · exact no
    split
    · exact no
    · exact two _ _ _
  split
  · split
    · exact no
    · exact one _ _
  · exact no
theorem rv_cap (_ : e < n) (hc : 65 ≤ (M 48 e).toInt ∧ (M 48 e).toInt ≤ 90) : ∀ M' : qJ, M' 48 = M 48 → ∀ low, m_rv M' e n low < 0 := by
  intro M' h low
  have hb : m_bl M' e n = e := by
    unfold m_bl
    rw [skp, if_neg]
    rintro ⟨-, q⟩
    rw [decide_eq_true_eq, h] at q
    rw [q] at hc
    exact absurd hc (by decide)
  have hk : m_kd M' e n = 0 := by
    unfold m_kd
    rw [skp, if_neg]
    · omega
    · rintro ⟨-, q⟩
      rw [← isd_eq, isd_iff, h] at q
      omega
  unfold m_rv m_nr
  rw [hb, hk, if_pos (Or.inl rfl)]
  decide
theorem rs_no {r : Int32 × qJ} (h : r.1 = 0) : ∃ M', ∀ k, m_rs n k r = (0, M') := ⟨r.2, fun k => by unfold m_rs; exact if_pos h⟩
theorem p_step (hA : p_AR n J M a z B) (ha : a ≤ n) (hn : n ≤ 60) (h5 : B.testBit 5 = false) : p_OUT n a (u_part J a n z) (fun k => m_rs n k (m_part M a n z)) := by
  obtain ⟨⟨h1, h2, h3, h4, h5n⟩, hB, hz, hF⟩ := id hA
  have hbl := bl_eq (a := a) (n := n) h1
  have hb := u_bl_ok J ha
  have hp2 : u_p2 J a n 2 = J 2 := by unfold u_p2 u_p1; rw [wI_c9 (by decide), wI_c9 (by decide)]
  have hm2 : m_p2 M a n 48 = M 48 := by unfold m_p2; rw [wI_c9 (by decide)]
  have hpo := u_pe_ok (I := J) ha
  have hw1 : u_pw J a n = u_word J (u_bl J a n) (u_pe J a n) := word_2 hp2
  have hbad : u_pw J a n = -1 → ¬ u_part J a n z 1 6 = -2 := by
    intro q
    unfold u_part
    rw [q, can_m]
    split
    · rw [wI_at]; exact ne2 _ (by omega)
    · rw [if_pos rfl, wI_at]; exact ne2 _ (by omega)
  rcases pe_eq h1 ha with he | ⟨e1, e2, e3⟩
  · -- the same word
    have hwm : m_wd (m_p2 M a n) (m_bl M a n) (m_pe M a n) = u_pw J a n := by
      rw [hw1, he, ← hbl]
      have hl := m_lt_ok M (a := m_bl M a n) (n := n) (by rw [← hbl]; exact hb.2.2.2)
      refine (wd_eq (J := J) (M := m_p2 M a n) (h1.trans hm2.symm) (fun k hk hk2 => ?_))
      have hge := hl.2.1 (m_bl M a n + k) (by omega) (by unfold m_pe at he; rw [he, ← hbl]; omega)
      rw [hm2, hbl]
      exact (let_lc _).mp hge.2
    have hno : u_can (u_p2 J a n) (u_pw J a n) = 0 → ¬ u_part J a n z 1 6 = -2 := by
      intro q
      unfold u_part
      rw [q]
      split
      · rw [wI_at]; exact ne2 _ (by omega)
      · rw [if_pos rfl, wI_at]; exact ne2 _ (by omega)
    have hae : a ≤ u_pe J a n := by omega
    have hp3 : ∀ k, u_p2 J a n 3 k = J 3 k := fun k => by simp [u_p2, u_p1, wI, va_up]
    have hp4 : ∀ k, u_p2 J a n 4 k = J 4 k := fun k => by simp [u_p2, u_p1, wI, va_up]
    have h32 : u_p3 J a n 2 = J 2 := by simp [u_p3, u_p2, u_p1, wI, va_up]
    have h36 : u_p3 J a n 1 6 = J 1 6 := by simp [u_p3, u_p2, u_p1, wI, va_up, upd]
    have hsb : (m_sb (m_p2 M a n) 0 ↔ B.testBit 0 = true) ∧ (m_sb (m_p2 M a n) 1 ↔ B.testBit 1 = true) ∧ (m_sb (m_p2 M a n) 2 ↔ B.testBit 2 = true) ∧ (m_sb (m_p2 M a n) 3 ↔ B.testBit 3 = true) ∧ (m_sb (m_p2 M a n) 4 ↔ B.testBit 4 = true) ∧ (m_sb (m_p2 M a n) 5 ↔ B.testBit 5 = true) := by
      have := sb_of hB
      unfold m_sb at this ⊢
      rw [show m_p2 M a n 47 37 = M 47 37 by simp [m_p2, wI, va_up, upd]]
      exact this
    by_cases hm1 : u_pw J a n = -1
    · left
      refine ⟨hbad hm1, rs_no ?_⟩
      unfold m_part
      rw [hwm, hm1]
      rfl
    have hes : ¬ u_pe J a n = u_bl J a n := by
      have := (word_lc (by rw [← hw1]; exact hm1)).1
      omega
    have hyes : ¬ u_can (u_p2 J a n) (u_pw J a n) = 0 → u_part J a n z = p_fin4 (u_p4 J a n z) n (u_pw J a n) := by
      intro q
      unfold u_part p_fin4 u_p5
      rw [if_neg hes, if_neg q]
    have hcs := word_cs (J := J) (s := u_bl J a n) (e := u_pe J a n)
    rw [← hw1] at hcs
    rcases hcs with hw | hw | hw | hw | hw | hw | hw
    · -- 0
      have hcan : u_can (u_p2 J a n) (u_pw J a n) = if J 3 0 = 0 then 1 else 0 := by rw [hw, can_0, hp3]
      have h3w := hB.2.2.1 0 (by omega) (by omega)
      rw [show m_part M a n z = if m_sb (m_p2 M a n) 0 then m_pno (m_p2 M a n) (m_bl M a n) else m_pone (m_o1 (m_p2 M a n) 0) (m_pe M a n) n 49 by unfold m_part; rw [hwm, hw]; rfl]
      by_cases g : B.testBit 0 = true
      · rw [if_pos (hsb.1.mpr g)]
        exact Or.inl ⟨hno (by rw [hcan, if_neg (by rw [h3w, g]; decide)]), rs_no rfl⟩
      · rw [if_neg (fun q => g (hsb.1.mp q)), hyes (by rw [hcan, if_pos (h3w.mpr (by simpa using g))]; decide), hw, he]
        refine one_out (jc := 0) (B := B ||| 1) (z := z) (J := u_p3 J a n) ?_ hae hpo.2 hn ?_ ?_ ?_ ?_ ?_
        · rw [h32, m_o1, wI_c9 (by decide), hm2]; exact h1
        · unfold u_p4; rw [hw]; exact rns_0
        · intro _; rw [(bt_tab B hB.2.1 5 (by omega)).1, h5]; rfl
        · intro v b hv
          unfold u_p3
          rw [hw]
          exact AR_0 hA hv
        · rw [h36]; exact h4
        · intro q; exact absurd q (by decide)
    · -- 1
      have hcan : u_can (u_p2 J a n) (u_pw J a n) = if J 3 1 = 0 then 1 else 0 := by rw [hw, can_1, hp3]
      have h3w := hB.2.2.1 1 (by omega) (by omega)
      rw [show m_part M a n z = if m_sb (m_p2 M a n) 1 then m_pno (m_p2 M a n) (m_bl M a n) else m_pone (m_o1 (m_p2 M a n) 1) (m_pe M a n) n 50 by unfold m_part; rw [hwm, hw]; rfl]
      by_cases g : B.testBit 1 = true
      · rw [if_pos (hsb.2.1.mpr g)]
        exact Or.inl ⟨hno (by rw [hcan, if_neg (by rw [h3w, g]; decide)]), rs_no rfl⟩
      · rw [if_neg (fun q => g (hsb.2.1.mp q)), hyes (by rw [hcan, if_pos (h3w.mpr (by simpa using g))]; decide), hw, he]
        refine one_out (jc := 1) (B := B ||| 2) (z := z) (J := u_p3 J a n) ?_ hae hpo.2 hn ?_ ?_ ?_ ?_ ?_
        · rw [h32, m_o1, wI_c9 (by decide), hm2]; exact h1
        · unfold u_p4; rw [hw]; exact rns_1
        · intro _; rw [(bt_tab B hB.2.1 5 (by omega)).2.1, h5]; rfl
        · intro v b hv
          unfold u_p3
          rw [hw]
          exact AR_1 hA hv
        · rw [h36]; exact h4
        · intro q; exact absurd q (by decide)
    · -- 2
      have hcan : u_can (u_p2 J a n) (u_pw J a n) = if J 3 2 = 0 then 1 else 0 := by rw [hw, can_2, hp3]
      have h3w := hB.2.2.1 2 (by omega) (by omega)
      rw [show m_part M a n z = if m_sb (m_p2 M a n) 2 then m_pno (m_p2 M a n) (m_bl M a n) else m_pone (m_o1 (m_p2 M a n) 2) (m_pe M a n) n 51 by unfold m_part; rw [hwm, hw]; rfl]
      by_cases g : B.testBit 2 = true
      · rw [if_pos (hsb.2.2.1.mpr g)]
        exact Or.inl ⟨hno (by rw [hcan, if_neg (by rw [h3w, g]; decide)]), rs_no rfl⟩
      · rw [if_neg (fun q => g (hsb.2.2.1.mp q)), hyes (by rw [hcan, if_pos (h3w.mpr (by simpa using g))]; decide), hw, he]
        refine one_out (jc := 2) (B := B ||| 4) (z := z) (J := u_p3 J a n) ?_ hae hpo.2 hn ?_ ?_ ?_ ?_ ?_
        · rw [h32, m_o1, wI_c9 (by decide), hm2]; exact h1
        · unfold u_p4; rw [hw]; exact rns_2
        · intro _; rw [(bt_tab B hB.2.1 5 (by omega)).2.2.1, h5]; rfl
        · intro v b hv
          unfold u_p3
          rw [hw]
          exact AR_2 hA hv
        · rw [h36]; exact h4
        · intro q; exact absurd q (by decide)
    · -- 3
      have hcan : u_can (u_p2 J a n) (u_pw J a n) = if 0 < J 4 5 then 0 else if J 3 3 = 0 then 1 else 0 := by rw [hw, can_3, hp3, hp4]
      have h3w := hB.2.2.1 3 (by omega) (by omega)
      have h4w : (0 < J 4 5) ↔ B.testBit 4 = true := by
        rw [hz.1, hB.2.2.2.1]
        exact nI_ltI (a := 0) (b := z) (by omega) (by omega)
      rw [show m_part M a n z = if m_sb (m_p2 M a n) 3 then m_pno (m_p2 M a n) (m_bl M a n) else if m_sb (m_p2 M a n) 4 then m_pno (m_p2 M a n) (m_bl M a n) else m_ptwo (m_o1 (m_p2 M a n) 3) (m_pe M a n) n 1 m_F3 by unfold m_part; rw [hwm, hw]; rfl]
      by_cases g : B.testBit 3 = true
      · rw [if_pos (hsb.2.2.2.1.mpr g)]
        exact Or.inl ⟨hno (by rw [hcan, if_neg (show ¬ J 3 3 = 0 by rw [h3w, g]; decide)]; exact ite_self 0), rs_no rfl⟩
      rw [if_neg (fun q => g (hsb.2.2.2.1.mp q))]
      by_cases g4 : B.testBit 4 = true
      · rw [if_pos (hsb.2.2.2.2.1.mpr g4)]
        exact Or.inl ⟨hno (by rw [hcan, if_pos (h4w.mpr g4)]), rs_no rfl⟩
      · rw [if_neg (fun q => g4 (hsb.2.2.2.2.1.mp q)), hyes (by rw [hcan, if_neg (fun q => g4 (h4w.mp q)), if_pos (h3w.mpr (by simpa using g))]; decide), hw, he]
        refine two_out (G := fun X v p => wI (wI X 4 3 v) 4 4 p) (B := B ||| 8) (z := z) (J := u_p3 J a n) ?_ hae hpo.2 hn ?_ ?_ (by decide) ?_ ?_
        · rw [h32, m_o1, wI_c9 (by decide), hm2]; exact h1
        · unfold u_p4; rw [hw]; exact rns_3
        · rw [(bt_tab B hB.2.1 5 (by omega)).2.2.2.1, h5]; rfl
        · intro v p b c hv hp hl
          unfold u_p3
          rw [hw]
          exact AR_3 hA hv hp hl
        · rw [h36]; exact h4
    · -- 4
      have hcan : u_can (u_p2 J a n) (u_pw J a n) = if 0 < J 4 3 ∨ 4 ≤ J 4 5 then 0 else 1 := by rw [hw, can_4, hp4, hp4]
      have h3w : (0 < J 4 3) ↔ B.testBit 3 = true := by
        rw [hB.2.2.2.2, Int32.lt_iff_toInt_lt, k32_0]
      have h4w : (4 ≤ J 4 5) ↔ z = 4 := by
        rw [hz.1]
        refine (nI_leI (a := 4) (b := z) (by omega) (by omega)).trans ?_
        omega
      rw [show m_part M a n z = if m_sb (m_p2 M a n) 3 then m_pno (m_p2 M a n) (m_bl M a n) else if z = 4 then m_pno (m_p2 M a n) (m_bl M a n) else m_ptwo (m_o1 (m_p2 M a n) 4) (m_pe M a n) n (m_plow (m_p2 M a n) z) (m_F4 z) by unfold m_part; rw [hwm, hw]; rfl]
      by_cases g : B.testBit 3 = true
      · rw [if_pos (hsb.2.2.2.1.mpr g)]
        exact Or.inl ⟨hno (by rw [hcan, if_pos (Or.inl (h3w.mpr g))]), rs_no rfl⟩
      rw [if_neg (fun q => g (hsb.2.2.2.1.mp q))]
      by_cases g4 : z = 4
      · rw [if_pos g4]
        exact Or.inl ⟨hno (by rw [hcan, if_pos (Or.inr (h4w.mpr g4))]), rs_no rfl⟩
      · have hlo : m_plow (m_p2 M a n) z = (if z = 0 then 0 else u_p3 J a n 5 (z - 1)) + 1 := by
          unfold m_plow
          rcases Decidable.em (z = 0) with q | q
          · rw [if_pos q, if_pos q]; rfl
          · rw [if_neg q, if_neg q]
            have f6 := (hF.2.2.2.2.2 (z - 1) (by omega)).1
            rw [show u_p3 J a n 5 (z - 1) = J 5 (z - 1) by simp [u_p3, u_p2, u_p1, wI, va_up], f6, m_p2, wI_ne (by omega), show 12 + z - 1 = 12 + (z - 1) by omega]
        rw [if_neg g4, hyes (by rw [hcan, if_neg (by rintro (q | q); exact g (h3w.mp q); exact g4 (h4w.mp q))]; decide), hw, he]
        refine two_out (G := fun X v p => wI (wI (wI X 5 z v) 6 z p) 4 5 (nI (z + 1))) (B := B ||| 16) (z := z + 1) (J := u_p3 J a n) ?_ hae hpo.2 hn ?_ ?_ (by decide) ?_ ?_
        · rw [h32, m_o1, wI_c9 (by decide), hm2]; exact h1
        · unfold u_p4; rw [hw]; exact rns_4 (by omega) hlo
        · rw [(bt_tab B hB.2.1 5 (by omega)).2.2.2.2.1, h5]; rfl
        · intro v p b c hv hp hl
          have hl2 : 1 ≤ v.toInt ∧ (z = 0 ∨ (J 5 (z - 1)).toInt < v.toInt) := by
            rw [hlo] at hl
            rcases Decidable.em (z = 0) with q | q
            · rw [if_pos q] at hl
              exact ⟨hl, Or.inl q⟩
            · rw [if_neg q, show u_p3 J a n 5 (z - 1) = J 5 (z - 1) by simp [u_p3, u_p2, u_p1, wI, va_up]] at hl
              have f6 := hF.2.2.2.2.2 (z - 1) (by omega)
              rw [Int32.toInt_add, show (1 : Int32).toInt = 1 by decide, Int.bmod_def] at hl
              constructor
              · omega
              · right; omega
          unfold u_p3
          rw [hw]
          exact AR_4 hA (by omega) hv hp hl2.1 hl2.2
        · rw [h36]; exact h4
    · -- 5
      have hcan : u_can (u_p2 J a n) (u_pw J a n) = if J 3 5 = 0 then 1 else 0 := by rw [hw, can_5, hp3]
      have h3w := hB.2.2.1 5 (by omega) (by omega)
      rw [show m_part M a n z = if m_sb (m_p2 M a n) 5 then m_pno (m_p2 M a n) (m_bl M a n) else m_pone (m_o1 (m_p2 M a n) 5) (m_pe M a n) n 55 by unfold m_part; rw [hwm, hw]; rfl]
      by_cases g : B.testBit 5 = true
      · rw [if_pos (hsb.2.2.2.2.2.mpr g)]
        exact Or.inl ⟨hno (by rw [hcan, if_neg (by rw [h3w, g]; decide)]), rs_no rfl⟩
      · rw [if_neg (fun q => g (hsb.2.2.2.2.2.mp q)), hyes (by rw [hcan, if_pos (h3w.mpr (by simpa using g))]; decide), hw, he]
        refine one_out (jc := 8) (B := B ||| 32) (z := z) (J := u_p3 J a n) ?_ hae hpo.2 hn ?_ ?_ ?_ ?_ ?_
        · rw [h32, m_o1, wI_c9 (by decide), hm2]; exact h1
        · unfold u_p4; rw [hw]; exact rns_5
        · intro q; exact absurd rfl q
        · intro v b hv
          unfold u_p3
          rw [hw]
          exact AR_5 hA hv
        · rw [h36]; exact h4
        · intro _; exact ⟨by rw [(bt_tab B hB.2.1 5 (by omega)).2.2.2.2.2]; simp, rfl, rfl⟩
    · exact absurd hw hm1
  · left
    have hw : u_pw J a n = -1 := by
      rw [hw1]
      by_cases q : u_word J (u_bl J a n) (u_pe J a n) = -1
      · exact q
      · exfalso
        have g := (word_lc q).2 (m_pe M a n - u_bl J a n)
        have hge : u_bl J a n ≤ m_pe M a n := by rw [hbl]; exact (m_pe_ok ha).1
        have g2 := g (by omega)
        rw [show u_bl J a n + (m_pe M a n - u_bl J a n) = m_pe M a n by omega, h1] at g2
        unfold p_lc at g2
        omega
    refine ⟨hbad hw, rs_no ?_⟩
    unfold m_part
    exact ppt_no (rv_cap e2 (by rw [hm2]; exact e3))
end PT7
