/-! both sides, held together -/
section PT18
variable {J M J' M' : qJ} {K N K' N' : rLg} {c z zp T t F G D ne n : Nat} {d tt on : Int32} {a : Int64}
theorem T1_r (h : tt = -1 ∨ ¬ noT tt) : -1 ≤ tt.toInt ∧ tt.toInt ≤ 2 := by
  rcases h with rfl | h
  · decide
  · obtain ⟨j, hj, rfl, -⟩ := T_of h
    rw [nI_toInt (by omega)]
    omega
theorem RR_sub (h : r_RR J M K N) (hc : c < 5) (ht : tt = -1 ∨ ¬ noT tt) : r_RR (wI (wI J (37 + 2 * c) 1 tt) (37 + 2 * c) 2 (if J (37 + 2 * c) 3 = 3 then 1 else 0)) (wI (wI (wI M 47 0 0) 58 c tt) 59 c (if M 60 c = 3 then 1 else 0)) K N := by
  obtain ⟨c1, c2, c3, c4, c5, c6, c7⟩ := h.2.2.2.1 c hc
  refine RR_cu h hc (fun k hk => by rw [wI_c9 hk, wI_c9 hk]) (fun k j h1 h2 => by rw [wI_ne (by omega), wI_ne (by omega), wI_ne (by omega)]) (fun _ _ => rfl) (fun _ _ _ => rfl) ⟨?_, ?_, ?_, c4, ?_, ?_, ?_⟩
  · rw [wI_ne (by omega), wI_at, wI_ne (by omega), wI_at]
  · rw [wI_at, wI_at, c3]
  · rw [wI_ne (by omega), wI_ne (by omega), wI_ne (by omega), wI_ne (by omega), wI_ne (by omega)]; exact c3
  · rw [wI_ne (by omega), wI_at]; exact T1_r ht
  · rw [wI_ne (by omega), wI_ne (by omega)]; exact c6
  · rw [wI_ne (by omega), wI_ne (by omega)]; exact c7
theorem RR_pau (h : r_RR J M K N) (hc : c < 5) (hon : qB on) : r_RR (wI J (37 + 2 * c) 2 on) (wI (wI M 47 0 0) 59 c (if on = 0 then 0 else 1)) K N := by
  obtain ⟨c1, c2, c3, c4, c5, c6, c7⟩ := h.2.2.2.1 c hc
  have e : (if on = 0 then 0 else 1) = on := by rcases hon with rfl | rfl <;> rfl
  rw [e]
  refine RR_cu h hc (fun k hk => by rw [wI_c9 hk]) (fun k j h1 h2 => by rw [wI_ne (by omega), wI_ne (by omega)]) (fun _ _ => rfl) (fun _ _ _ => rfl) ⟨?_, ?_, ?_, c4, ?_, ?_, ?_⟩
  · rw [wI_ne (by omega), wI_ne (by omega), wI_ne (by omega)]; exact c1
  · rw [wI_at, wI_at]
  · rw [wI_ne (by omega), wI_ne (by omega), wI_ne (by omega)]; exact c3
  · rw [wI_ne (by omega)]; exact c5
  · rw [wI_ne (by omega)]; exact c6
  · rw [wI_ne (by omega)]; exact c7
theorem pau_no (h : r_RR J M K N) (hc : c < 5) : (J (37 + 2 * c) 1 = -1) ↔ M 58 c < 0 := by
  obtain ⟨c1, c2, c3, c4, c5, c6, c7⟩ := h.2.2.2.1 c hc
  rw [← c1, Int32.lt_iff_toInt_lt, k32_0]
  constructor
  · intro q; rw [q]; decide
  · intro q; exact Int32.toInt_inj.mp (by rw [show (-1 : Int32).toInt = -1 by decide]; omega)
theorem RR_ev {key cc day u : Int32} (h : r_RR J M K N) (hne : J 9 4 = nI ne) (hne2 : ne < 80) (hu : 1 ≤ u.toInt ∧ u.toInt ≤ 10000) : r_RR (wI (wI (wI (wI (wI J 10 ne key) 11 ne cc) 12 ne day) 13 ne u) 9 4 (nI (ne + 1))) (wI (wI (wI (wI (wI (wI M 47 0 0) 63 ne key) 64 ne cc) 65 ne day) 66 ne u) 47 23 (nI (ne + 1))) K N := by
  obtain ⟨⟨h1, h2⟩, h3, h4, h5, h6, h7, h8, h9⟩ := h
  have hJ : ∀ k, k < 9 ∨ 13 < k → wI (wI (wI (wI (wI J 10 ne key) 11 ne cc) 12 ne day) 13 ne u) 9 4 (nI (ne + 1)) k = J k := fun k hk => by
    rw [wI_c9 (by omega), wI_c9 (by omega), wI_c9 (by omega), wI_c9 (by omega), wI_c9 (by omega)]
  have hM : ∀ k j, k < 63 ∨ 66 < k → (k ≠ 47 ∨ (j ≠ 0 ∧ j ≠ 23)) → wI (wI (wI (wI (wI (wI M 47 0 0) 63 ne key) 64 ne cc) 65 ne day) 66 ne u) 47 23 (nI (ne + 1)) k j = M k j := fun k j h1 h2 => by
    rw [wI_ne (by omega), wI_ne (by omega), wI_ne (by omega), wI_ne (by omega), wI_ne (by omega), wI_ne (by omega)]
  have hMk : ∀ k, k < 63 ∨ 66 < k → k ≠ 47 → wI (wI (wI (wI (wI (wI M 47 0 0) 63 ne key) 64 ne cc) 65 ne day) 66 ne u) 47 23 (nI (ne + 1)) k = M k := fun k h1 h2 => funext fun j => hM k j h1 (Or.inl h2)
  refine ⟨⟨?_, h2⟩, ⟨?_, ?_⟩, fun t ht => TR_congr (h4 t ht) (fun k _ _ => hJ k (by omega)) (fun k j _ _ _ _ => hM k j (by omega) (by omega)), fun c hc => RC_congr hc (h5 c hc) (hJ _ (by omega)) (fun k _ _ => hM _ _ (by omega) (by omega)) rfl rfl, RH_congr h6 (by rw [hJ _ (by omega)]) (fun c hc => hJ _ (by omega)) (hMk _ (by omega) (by omega)), ?_, RI_congr h8 (hJ _ (by omega)) (hJ _ (by omega)) (hJ _ (by omega)) (by rw [hJ _ (by omega)]) (fun k _ _ => hMk k (by omega) (by omega)) (hM _ _ (by omega) (by omega)) rfl rfl rfl rfl, RP_congr h9 (fun k _ _ => hJ k (by omega)) (by rw [hJ _ (by omega)]) (fun k _ _ => hMk k (by omega) (by omega)) (hM _ _ (by omega) (by omega)) rfl rfl⟩
  · rw [hJ _ (by omega), hM _ _ (by omega) (by omega)]; exact h1
  · rw [hJ _ (by omega), hM _ _ (by omega) (by omega)]; exact h3.1
  · rw [hJ _ (by omega), hMk _ (by omega) (by omega)]; exact h3.2
  · obtain ⟨e1, e2, e3, e4, e5, e6⟩ := h7
    refine ⟨by rw [wI_at, wI_at], ?_, ?_, ?_, ?_, ?_⟩
    · simp [wI, va_up, e2]
    · simp [wI, va_up, e3]
    · simp [wI, va_up, e4]
    · simp [wI, va_up, e5]
    · intro e he
      rw [wI_at, nI_clamp (by omega)] at he
      rw [wI_ne (by omega)]
      rcases Decidable.em (e = ne) with q | q
      · rw [q, wI_at]; exact hu
      · rw [wI_ne (by omega), wI_ne (by omega), wI_ne (by omega), wI_ne (by omega)]
        exact e6 e (by rw [hne, nI_clamp (by omega)]; omega)
theorem RR_pl {cc : Int32} (h : r_RR J M K N) (hzp : J 20 4 = nI z) (hz2 : z < 10) (hc : c < 5) (hcc : cc = nI c) (hd : 1 ≤ d.toInt ∧ d.toInt ≤ 400) (ha : 1 ≤ a.toInt ∧ a.toInt ≤ 1000000) : r_RR (wI (wI (wI (wI J 21 z cc) 23 z d) 24 z (J 0 9)) 20 4 (nI (z + 1))) (wI (wI (wI (wI (wI M 47 0 0) 72 z cc) 73 z d) 74 z (M 47 2)) 47 34 (nI (z + 1))) (wL (wL K 0 10 (K 0 10 + a)) 22 z a) (wL (wL N 47 35 (N 47 35 + a)) 75 z a) := by
  obtain ⟨⟨h1, h2⟩, h3, h4, h5, h6, h7, h8, h9⟩ := h
  have hJ : ∀ k, k < 20 ∨ 24 < k → wI (wI (wI (wI J 21 z cc) 23 z d) 24 z (J 0 9)) 20 4 (nI (z + 1)) k = J k := fun k hk => by
    rw [wI_c9 (by omega), wI_c9 (by omega), wI_c9 (by omega), wI_c9 (by omega)]
  have hM : ∀ k j, k < 72 ∨ 74 < k → (k ≠ 47 ∨ (j ≠ 0 ∧ j ≠ 34)) → wI (wI (wI (wI (wI M 47 0 0) 72 z cc) 73 z d) 74 z (M 47 2)) 47 34 (nI (z + 1)) k j = M k j := fun k j h1 h2 => by
    rw [wI_ne (by omega), wI_ne (by omega), wI_ne (by omega), wI_ne (by omega), wI_ne (by omega)]
  have hMk : ∀ k, k < 72 ∨ 74 < k → k ≠ 47 → wI (wI (wI (wI (wI M 47 0 0) 72 z cc) 73 z d) 74 z (M 47 2)) 47 34 (nI (z + 1)) k = M k := fun k h1 h2 => funext fun j => hM k j h1 (Or.inl h2)
  have hK : ∀ k, k ≠ 0 → k ≠ 22 → wL (wL K 0 10 (K 0 10 + a)) 22 z a k = K k := fun k g1 g2 => by rw [wL_c9 g2, wL_c9 g1]
  have hN : ∀ k, k ≠ 47 → k ≠ 75 → wL (wL N 47 35 (N 47 35 + a)) 75 z a k = N k := fun k g1 g2 => by rw [wL_c9 g2, wL_c9 g1]
  refine ⟨⟨?_, ?_⟩, ⟨?_, ?_⟩, fun t ht => TR_congr (h4 t ht) (fun k _ _ => hJ k (by omega)) (fun k j _ _ _ _ => hM k j (by omega) (by omega)), fun c hc => RC_congr hc (h5 c hc) (hJ _ (by omega)) (fun k _ _ => hM _ _ (by omega) (by omega)) (by rw [hK _ (by omega) (by omega)]) (by rw [hN _ (by omega) (by omega)]), RH_congr h6 (by rw [hJ _ (by omega)]) (fun c hc => hJ _ (by omega)) (hMk _ (by omega) (by omega)), RE_congr h7 (fun k _ _ => hJ k (by omega)) (by rw [hJ _ (by omega)]) (fun k _ _ => hMk k (by omega) (by omega)) (hM _ _ (by omega) (by omega)), RI_congr h8 (hJ _ (by omega)) (hJ _ (by omega)) (hJ _ (by omega)) (by rw [hJ _ (by omega)]) (fun k _ _ => hMk k (by omega) (by omega)) (hM _ _ (by omega) (by omega)) (hK _ (by omega) (by omega)) (hK _ (by omega) (by omega)) (hN _ (by omega) (by omega)) (hN _ (by omega) (by omega)), ?_⟩
  · rw [hJ _ (by omega), hM _ _ (by omega) (by omega)]; exact h1
  · rw [wL_ne9 (by omega), wL_at9, wL_ne9 (by omega), wL_at9, h2]
  · rw [hJ _ (by omega), hM _ _ (by omega) (by omega)]; exact h3.1
  · rw [hJ _ (by omega), hMk _ (by omega) (by omega)]; exact h3.2
  · obtain ⟨e1, e2, e3, e4, e5, e6⟩ := h9
    refine ⟨by rw [wI_at, wI_at], ?_, ?_, ?_, ?_, ?_⟩
    · simp [wI, va_up, e2]
    · simp [wI, va_up, e3]
    · simp [wI, va_up, upd, e4, h1]
    · simp [wL, va_up, e5]
    · intro k hk
      rw [wI_at, nI_clamp (by omega)] at hk
      have r21 : wI (wI (wI (wI J 21 z cc) 23 z d) 24 z (J 0 9)) 20 4 (nI (z + 1)) 21 k = wI J 21 z cc 21 k := by
        rw [wI_ne (by omega), wI_ne (by omega), wI_ne (by omega)]
      have r23 : wI (wI (wI (wI J 21 z cc) 23 z d) 24 z (J 0 9)) 20 4 (nI (z + 1)) 23 k = wI (wI J 21 z cc) 23 z d 23 k := by
        rw [wI_ne (by omega), wI_ne (by omega)]
      rw [r21, r23]
      rcases Decidable.em (k = z) with q | q
      · rw [q, wI_at, wI_at, wL_at9]
        exact ⟨⟨c, hc, hcc⟩, hd.1, hd.2, ha⟩
      · rw [wI_ne (by omega), wI_ne (by omega), wI_ne (by omega), wL_ne9 (by omega), wL_ne9 (by omega)]
        exact e6 k (by rw [hzp, nI_clamp (by omega)]; omega)
theorem RR_py (h : r_RR J M K N) (hc : c < 5) : r_RR J (wI M 47 0 0) (wL (wL K 0 10 (K 0 10 + a)) (37 + 2 * c) 4 (wL K 0 10 (K 0 10 + a) (37 + 2 * c) 4 + a)) (wL (wL N 47 35 (N 47 35 + a)) 61 c (N 61 c + a)) := by
  have h' : r_RR J (wI M 47 0 0) (wL K 0 10 (K 0 10 + a)) (wL N 47 35 (N 47 35 + a)) := by
    obtain ⟨⟨h1, h2⟩, h3, h4, h5, h6, h7, h8, h9⟩ := RR_w0 (j := 0) (v := 0) h (by omega)
    exact ⟨⟨h1, by rw [wL_at9, wL_at9, h2]⟩, h3, h4, fun c hc => RC_congr hc (h5 c hc) rfl (fun _ _ _ => rfl) (wL_ne9 (by omega)) (wL_ne9 (by omega)), h6, h7, RI_congr h8 rfl rfl rfl rfl (fun _ _ _ => rfl) rfl (wL_c9 (by omega)) (wL_c9 (by omega)) (wL_c9 (by omega)) (wL_c9 (by omega)), RP_congr h9 (fun _ _ _ => rfl) rfl (fun _ _ _ => rfl) rfl (wL_c9 (by omega)) (wL_c9 (by omega))⟩
  obtain ⟨c1, c2, c3, c4, c5, c6⟩ := h'.2.2.2.1 c hc
  refine RR_cu h' hc (fun _ _ => rfl) (fun _ _ _ _ => rfl) (fun k hk => wL_c9 hk) (fun k j hk => wL_ne9 (by omega)) ⟨c1, c2, c3, ?_, c5, c6⟩
  rw [wL_at9, wL_at9, c4, wL_ne9 (by omega)]
/-- characters of THE TEXT -/
theorem and255 (x : Int32) : ∃ k, k < 256 ∧ x &&& 255 = nI k := by
  refine ⟨(x &&& 255).toBitVec.toNat, ?_, ?_⟩
  · rw [Int32.toBitVec_and, BitVec.toNat_and]
    exact Nat.lt_of_le_of_lt Nat.and_le_right (by decide)
  · apply Int32.toBitVec_inj.mp
    show _ = (Int32.ofNat _).toBitVec
    simp
theorem nar_char : ∀ k, k < 256 → vp_nar .char (((Int32.toUInt32 (nI k)) % 65536).toInt32) = nI k := by decide +kernel
theorem cb_char (w : Int64) (i : Nat) : vp_nar .char (((Int32.toUInt32 (cb w i)) % 65536).toInt32) = cb w i := by
  unfold cb
  obtain ⟨k, hk, e⟩ := and255 ((Int64.toInt32 (((Int64.toUInt64 w) >>> ((Int32.toInt64 (u_sh i)).toUInt64 &&& Int64.toUInt64 63)).toInt64)))
  rw [e]
  exact nar_char k hk
theorem ap_eq (w : Int64) (h : J 2 = M 48) (h0 : J 1 3 = M 47 4) : ∀ i, i ≤ 8 → u_ap J w n i 2 = m_ap M w n i 48 ∧ u_ap J w n i 1 3 = m_ap M w n i 47 4 ∧ n + u_cN w i = m_ln w n i
  | 0, _ => ⟨h, h0, rfl⟩
  | i + 1, hi => by
    obtain ⟨i1, i2, i3⟩ := ap_eq w h h0 i (by omega)
    have hb : cb w i = mb2 w i := (cb_mb w i (by omega)).trans (mb2_eq w (by omega)).symm
    rw [u_ap, m_ap, u_cN, m_ln, cb_char, hb]
    by_cases q : mb2 w i = 0
    · rw [if_pos q, if_pos q]
      refine ⟨i1, i2, ?_⟩
      unfold ib9 ib
      rw [if_pos q, ← i3]
      omega
    · rw [if_neg q, if_neg q, i3]
      refine ⟨?_, by rw [wI_at, wI_at], ?_⟩
      · simp [wI, va_up, i1]
      · unfold ib9 ib
        rw [if_neg q, ← i3]
        omega
theorem RR_tx (w : Int64) (h : r_RR J M K N) : r_RR (u_ap J w n 8) (m_ap (wI M 47 0 0) w n 8) K N := by
  have h' := RR_w0 (j := 0) (v := 0) h (by omega)
  obtain ⟨⟨h1, h2⟩, h3, h4, h5, h6, h7, h8, h9⟩ := h'
  generalize wI M 47 0 0 = M at *
  have hJ : ∀ k, k ≠ 1 → k ≠ 2 → u_ap J w n 8 k = J k := fun k g1 g2 => u_ap_c g1 g2 8
  have hM : ∀ k j, k ≠ 48 → (k ≠ 47 ∨ j ≠ 4) → m_ap M w n 8 k j = M k j := fun k j g1 g2 => fm_ap ⟨g1, g2⟩ 8
  have hMk : ∀ k, k ≠ 48 → k ≠ 47 → m_ap M w n 8 k = M k := fun k g1 g2 => funext fun j => hM k j g1 (Or.inl g2)
  have ha := ap_eq (n := n) w h3.2 h3.1 8 (Nat.le_refl _)
  refine ⟨⟨?_, h2⟩, ⟨ha.2.1, ha.1⟩, fun t ht => TR_congr (h4 t ht) (fun k _ _ => hJ k (by omega) (by omega)) (fun k j _ _ _ _ => hM k j (by omega) (by omega)), fun c hc => RC_congr hc (h5 c hc) (hJ _ (by omega) (by omega)) (fun k _ _ => hM _ _ (by omega) (by omega)) rfl rfl, RH_congr h6 (by rw [hJ _ (by omega) (by omega)]) (fun c hc => hJ _ (by omega) (by omega)) (hMk _ (by omega) (by omega)), RE_congr h7 (fun k _ _ => hJ k (by omega) (by omega)) (by rw [hJ _ (by omega) (by omega)]) (fun k _ _ => hMk k (by omega) (by omega)) (hM _ _ (by omega) (by omega)), RI_congr h8 (hJ _ (by omega) (by omega)) (hJ _ (by omega) (by omega)) (hJ _ (by omega) (by omega)) (by rw [hJ _ (by omega) (by omega)]) (fun k _ _ => hMk k (by omega) (by omega)) (hM _ _ (by omega) (by omega)) rfl rfl rfl rfl, RP_congr h9 (fun k _ _ => hJ k (by omega) (by omega)) (by rw [hJ _ (by omega) (by omega)]) (fun k _ _ => hMk k (by omega) (by omega)) (hM _ _ (by omega) (by omega)) rfl rfl⟩
  rw [hJ _ (by omega) (by omega), hM _ _ (by omega) (by omega)]; exact h1
end PT18
