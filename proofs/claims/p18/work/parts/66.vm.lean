/-! both sides, held together -/
section PT13
variable {J M J' M' : qJ} {K N K' N' : rLg} {c z zp T t F G D ne : Nat} {w : Int32}
theorem l_succ {k : Nat} (h : k < 2 ^ 30) : Int32.toInt64 (nI k) + 1 = Int32.toInt64 (nI (k + 1)) := by
  apply Int64.toInt_inj.mp
  rw [Int64.toInt_add, Int32.toInt_toInt64, Int32.toInt_toInt64, nI_toInt (by omega), nI_toInt (by omega), k64_1, Int.bmod_def]
  omega
theorem nI_m1 {k : Nat} (h : k < 2 ^ 31) : ¬ nI k = -1 := fun q => by
  have q2 := congrArg Int32.toInt q
  rw [nI_toInt h, show (-1 : Int32).toInt = -1 by decide] at q2
  omega
/-- who is live on a day -/
theorem live_eq (h : r_RR J M K N) (hB : ∀ c, c < 5 → qB (J (37 + 2 * c) 2)) (hc : c < 5) (hT : J 0 9 = nI T) (hT2 : T ≤ 400) {d : Nat} (hd : d ≤ 1000) : u_live J (37 + 2 * c) (38 + 2 * c) (nI d) (nI T) = m_live M T c d ∧ (m_live M T c d = -1 ∨ ∃ t, t < 3 ∧ m_live M T c d = nI t) := by
  obtain ⟨⟨h1, h2⟩, h3, h4, h5, h6, h7, h8, h9⟩ := h
  have hto : r_tO J = T := by unfold r_tO; rw [hT]; exact nI_clamp (by omega)
  have cases3 : ∀ x : Int32, -1 ≤ x.toInt → x.toInt ≤ 2 → x = -1 ∨ ∃ t, t < 3 ∧ x = nI t := by
    intro x g1 g2
    rcases (show x.toInt = -1 ∨ x.toInt = 0 ∨ x.toInt = 1 ∨ x.toInt = 2 by omega) with q | q | q | q
    · exact Or.inl (Int32.toInt_inj.mp q)
    · exact Or.inr ⟨0, by omega, Int32.toInt_inj.mp (by rw [q, nI_toInt (by omega)]; rfl)⟩
    · exact Or.inr ⟨1, by omega, Int32.toInt_inj.mp (by rw [q, nI_toInt (by omega)]; rfl)⟩
    · exact Or.inr ⟨2, by omega, Int32.toInt_inj.mp (by rw [q, nI_toInt (by omega)]; rfl)⟩
  obtain ⟨c1, c2, c3, c4, c5, c6, c7⟩ := h5 c hc
  unfold u_live m_live
  rcases Nat.lt_trichotomy d T with q | q | q
  · rw [if_neg (fun r => absurd ((nI_eq (by omega) (by omega)).mp r) (by omega)), if_neg (nI_pos (by omega)), if_neg (nI_ge q (by omega)), if_neg (show ¬ (401 : Int32) ≤ nI d from fun r => absurd ((nI_leI (a := 401) (b := d) (by omega) (by omega)).mp r) (by omega)), nI_clamp (by omega), if_pos q]
    obtain ⟨g1, g2, g3⟩ := h6 c hc d (by omega)
    rw [← g1]
    exact ⟨rfl, cases3 _ g2 g3⟩
  · subst q
    rw [if_pos rfl, if_neg (by omega), if_neg (by omega)]
    unfold u_liveNow
    rw [← c1, ← c2]
    rcases hB c hc with r | r
    · rw [r, if_pos rfl, if_neg (by decide)]
      exact ⟨rfl, cases3 _ c5.1 c5.2⟩
    · rw [r, if_neg (by decide), if_pos rfl]
      exact ⟨rfl, Or.inl rfl⟩
  · rw [if_neg (fun r => absurd ((nI_eq (by omega) (by omega)).mp r) (by omega)), if_neg (nI_pos (by omega)), if_pos (nI_le (by omega) (by omega)), if_neg (by omega), if_pos q]
    exact ⟨rfl, Or.inl rfl⟩
theorem live_cd {d : Int32} {i : Nat} {x : Int32} : u_live (u_cd J c F T i) (37 + 2 * c) (38 + 2 * c) d x = u_live J (37 + 2 * c) (38 + 2 * c) d x := by
  unfold u_live u_liveNow
  rw [fr_cd (by omega), fr_cd (by omega), fr_cd (by omega)]
theorem skip_iff {x : Int32} (h : x = -1 ∨ ∃ t, t < 3 ∧ x = nI t) : (x < 0 ∨ 3 ≤ x) ↔ x = -1 := by
  rcases h with rfl | ⟨t, ht, rfl⟩
  · exact ⟨fun _ => rfl, fun _ => Or.inl (by decide)⟩
  · refine ⟨?_, fun q => absurd q (nI_m1 (by omega))⟩
    rintro (q | q)
    · exact absurd q (nI_pos (by omega))
    · exact absurd ((nI_leI (a := 3) (by omega) (by omega)).mp q) (by omega)
/-- days of a tariff, up to today -/
theorem days_i (h : r_RR J M K N) (hB : ∀ c, c < 5 → qB (J (37 + 2 * c) 2)) (hc : c < 5) (hT : J 0 9 = nI T) (hT2 : T ≤ 400) (ht : t < 3) : ∀ i, F + i ≤ 1000 → ∃ k, k ≤ i ∧ u_cd J c F T i 26 t = nI k ∧ m_dd M T c t F i = Int32.toInt64 (nI k)
  | 0, _ => by
    refine ⟨0, by omega, ?_, by rw [m_dd]; decide⟩
    rw [u_cd, u_z26]
    rcases (show t = 0 ∨ t = 1 ∨ t = 2 by omega) with r | r | r
    · subst r; simp [wI, va_up, upd, nI_0]
    · subst r; simp [wI, va_up, upd, nI_0]
    · subst r; simp [wI, va_up, upd, nI_0]
  | i + 1, hi => by
    obtain ⟨k, hk, h1, h2⟩ := days_i h hB hc hT hT2 ht i (by omega)
    obtain ⟨e, hl⟩ := live_eq h hB hc hT hT2 (d := F + i) (by omega)
    rw [u_cd, m_dd, live_cd, e]
    by_cases q : m_live M T c (F + i) = -1
    · rw [if_pos ((skip_iff hl).mpr q), if_neg (by rw [q]; exact fun r => nI_m1 (by omega) r.symm)]
      exact ⟨k, by omega, h1, h2⟩
    · rw [if_neg (fun r => q ((skip_iff hl).mp r))]
      obtain ⟨t', ht', ht2⟩ := hl.resolve_left q
      rw [ht2, nI_clamp (by omega)]
      by_cases r : t' = t
      · subst r
        rw [if_pos rfl, wI_at, h1, h2, nI_1, l_succ (by omega)]
        exact ⟨k + 1, by omega, rfl, rfl⟩
      · rw [if_neg (fun s => r ((nI_eq (by omega) (by omega)).mp s)), wI_ne (Or.inr (fun s => r s.symm))]
        exact ⟨k, by omega, h1, h2⟩
theorem dd_more (ht : t < 3) : ∀ i x, F + x > T → m_dd M T c t F (x + i) = m_dd M T c t F x
  | 0, _, _ => rfl
  | i + 1, x, h => by
    rw [← Nat.add_assoc, m_dd, dd_more ht i x h]
    have e : m_live M T c (F + (x + i)) = -1 := by
      unfold m_live
      rw [if_neg (by omega), if_pos (by omega)]
    rw [e, if_neg]
    exact fun q => nI_m1 (by omega) q.symm
theorem days_eq (h : r_RR J M K N) (hB : ∀ c, c < 5 → qB (J (37 + 2 * c) 2)) (hc : c < 5) (hT : J 0 9 = nI T) (hT2 : T ≤ 400) (ht : t < 3) (hFG : F ≤ G) (hG : G ≤ 1000) : ∃ k, k ≤ G - F ∧ u_cd J c F T (min (G - F) (T + 1 - F)) 26 t = nI k ∧ m_dd M T c t F (G - F) = Int32.toInt64 (nI k) := by
  obtain ⟨k, hk, h1, h2⟩ := days_i (F := F) h hB hc hT hT2 ht (min (G - F) (T + 1 - F)) (by omega)
  refine ⟨k, by omega, h1, ?_⟩
  rw [← h2]
  rcases Nat.lt_or_ge (T + 1 - F) (G - F) with q | q
  · rw [Nat.min_eq_right (by omega)]
    have e : G - F = (T + 1 - F) + (G - F - (T + 1 - F)) := by omega
    rw [e]
    exact dd_more ht _ _ (by omega)
  · rw [Nat.min_eq_left q]
theorem z27_t (ht : t < 3) : u_z27 K 27 t = 0 := by
  unfold u_z27
  rcases (show t = 0 ∨ t = 1 ∨ t = 2 by omega) with r | r | r
  · subst r; simp [wL, va_up, vp_updL]
  · subst r; simp [wL, va_up, vp_updL]
  · subst r; simp [wL, va_up, vp_updL]
theorem wL_ne9 {L : rLg} {k j a b : Nat} {v : Int64} (h : a ≠ k ∨ b ≠ j) : wL L k j v a b = L a b := by
  simp only [wL, va_up, vp_updL]
  split
  · rename_i r
    subst r
    exact if_neg (h.resolve_left (fun q => q rfl))
  · rfl
/-- units of a tariff -/
theorem units_eq (h : r_RR J M K N) (hB : ∀ c, c < 5 → qB (J (37 + 2 * c) 2)) (hc : c < 5) (hT : J 0 9 = nI T) (hT2 : T ≤ 400) (ht : t < 3) (hFG : F < G) (hG : G ≤ 1000) (hne : J 9 4 = nI ne) (hne2 : ne ≤ 80) (hE : mE M ne) {i : Nat} : ∀ e, e ≤ ne → u_cuL (u_cd J c F T i) K c F G T e 27 t = m_ud M T c t F (G - F) e ∧ 0 ≤ (m_ud M T c t F (G - F) e).toInt ∧ (m_ud M T c t F (G - F) e).toInt ≤ 10000 * e
  | 0, _ => by
    rw [u_cuL, m_ud, z27_t ht]
    exact ⟨rfl, by decide, by decide⟩
  | e + 1, he => by
    obtain ⟨i1, i2, i3⟩ := units_eq h hB hc hT hT2 ht hFG hG hne hne2 hE (i := i) e (by omega)
    obtain ⟨d1, d2⟩ := hE e (by omega)
    have h7 := h.2.2.2.2.2.1
    obtain ⟨e1, e2, e3, e4, e5, e6⟩ := h7
    have h13 := e6 e (by rw [hne, nI_clamp (by omega)]; omega)
    have hday : u_cd J c F T i 12 e = nI (dn M e) := by rw [fr_cd (by omega), e4]; exact d1
    obtain ⟨el, hl⟩ := live_eq h hB hc hT hT2 (d := dn M e) (by omega)
    rw [u_cuL, m_ud, hday, live_cd, el, fr_cd (by omega), fr_cd (by omega), e3]
    have hcond : (Int32.toInt64 (nI F) ≤ Int32.toInt64 (nI (dn M e)) ∧ Int32.toInt64 (nI (dn M e)) ≤ Int32.toInt64 (nI F + nI (G - F) - 1)) ↔ (F ≤ dn M e ∧ dn M e < G) := by
      rw [nI_add, show F + (G - F) = (G - 1) + 1 by omega, nI_pred, Int64.le_iff_toInt_le, Int64.le_iff_toInt_le, Int32.toInt_toInt64, Int32.toInt_toInt64, Int32.toInt_toInt64, nI_toInt (by omega), nI_toInt (by omega), nI_toInt (by omega)]
      omega
    have keep : ∀ x : Int64, x = m_ud M T c t F (G - F) e → 0 ≤ x.toInt ∧ x.toInt ≤ 10000 * (e + 1 : Nat) := fun x hx => by rw [hx]; omega
    by_cases qc : M 64 e = nI c
    · rw [if_pos qc, if_pos qc]
      by_cases q1 : F ≤ dn M e
      · rw [if_neg (nI_nlt q1 (by omega))]
        by_cases q2 : dn M e < G
        · rw [if_neg (nI_ge q2 (by omega)), if_pos (hcond.mpr ⟨q1, q2⟩)]
          by_cases q : m_live M T c (dn M e) = -1
          · rw [if_pos ((skip_iff hl).mpr q), if_neg (by rw [q]; exact fun r => nI_m1 (by omega) r.symm)]
            exact ⟨i1, keep _ rfl⟩
          · rw [if_neg (fun r => q ((skip_iff hl).mp r))]
            obtain ⟨t', ht', ht2⟩ := hl.resolve_left q
            rw [ht2, nI_clamp (by omega)]
            by_cases r : t' = t
            · subst r
              rw [if_pos rfl, wL_at9, i1, e5]
              refine ⟨rfl, ?_⟩
              rw [e5] at h13
              rw [Int64.toInt_add, Int32.toInt_toInt64, Int.bmod_def]
              omega
            · rw [if_neg (fun s => r ((nI_eq (by omega) (by omega)).mp s)), wL_ne9 (Or.inr (fun s => r s.symm))]
              exact ⟨i1, keep _ rfl⟩
        · rw [if_pos (nI_le (by omega) (by omega)), if_neg (fun r => q2 (hcond.mp r).2)]
          exact ⟨i1, keep _ rfl⟩
      · rw [if_pos (nI_lt (by omega) (by omega)), if_neg (fun r => q1 (hcond.mp r).1)]
        exact ⟨i1, keep _ rfl⟩
    · rw [if_neg qc, if_neg qc]
      exact ⟨i1, keep _ rfl⟩
theorem share_b {a : Int32} {k d : Nat} (ha : p_rg a) (hk : k ≤ 31) (hd : 1 ≤ d) (hd2 : d ≤ 31) : 0 ≤ (Int32.toInt64 a * Int32.toInt64 (nI k) / Int32.toInt64 (nI d)).toInt ∧ (Int32.toInt64 a * Int32.toInt64 (nI k) / Int32.toInt64 (nI d)).toInt ≤ 10000000 := by
  have h1 : (Int32.toInt64 a * Int32.toInt64 (nI k)).toInt = a.toInt * k := by
    have hb : a.toInt * (k : Int) ≤ 99999 * 31 := Int.mul_le_mul ha.2 (by omega) (by omega) (by omega)
    have hb0 : 0 ≤ a.toInt * (k : Int) := Int.mul_nonneg ha.1 (by omega)
    exact i64_mul (Int32.toInt_toInt64 _) (by rw [Int32.toInt_toInt64, nI_toInt (by omega)]) (by omega) (by omega)
  have hb : a.toInt * (k : Int) ≤ 99999 * 31 := Int.mul_le_mul ha.2 (by omega) (by omega) (by omega)
  have hb0 : 0 ≤ a.toInt * (k : Int) := Int.mul_nonneg ha.1 (by omega)
  have h2 : (Int32.toInt64 (nI d)).toInt = d := by rw [Int32.toInt_toInt64, nI_toInt (by omega)]
  rw [Int64.toInt_div, h1, h2, Int.tdiv_eq_ediv_of_nonneg hb0]
  have h3 : a.toInt * (k : Int) / (d : Int) ≤ a.toInt * k := Int.ediv_le_self _ hb0
  have h4 : 0 ≤ a.toInt * (k : Int) / (d : Int) := Int.ediv_nonneg hb0 (by omega)
  rw [Int.bmod_def]
  omega
/-- what a customer is charged for a period -/
theorem charge_eq (h : r_RR J M K N) (hB : ∀ c, c < 5 → qB (J (37 + 2 * c) 2)) (hc : c < 5) (hT : J 0 9 = nI T) (hT2 : T ≤ 400) (hFG : F < G) (hG : G ≤ 1000) (hD : G - F ≤ 31) (hne : J 9 4 = nI ne) (hne2 : ne ≤ 80) (hE : mE M ne) : u_charge J K c F G T (min (G - F) (T + 1 - F)) ne = m_due M T c F (G - F) ne := by
  unfold u_charge m_due
  rw [nI_sb (by omega)]
  have go : ∀ t, t ≤ 3 → u_csum (u_cd J c F T (min (G - F) (T + 1 - F))) (u_cuL (u_cd J c F T (min (G - F) (T + 1 - F))) K c F G T ne) (nI (G - F)) t = m_ds M T c F (G - F) ne t := by
    intro t
    induction t with
    | zero => intro _; rfl
    | succ t ih =>
      intro ht
      rw [u_csum, m_ds, ih (by omega)]
      obtain ⟨k, hk, k1, k2⟩ := days_eq h hB hc hT hT2 (show t < 3 by omega) (by omega : F ≤ G) hG
      obtain ⟨u1, u2, u3⟩ := units_eq h hB hc hT hT2 (show t < 3 by omega) hFG hG hne hne2 hE (i := min (G - F) (T + 1 - F)) ne (Nat.le_refl _)
      rw [k1, u1, k2]
      by_cases q : k = 0
      · subst q
        rw [if_pos (by decide), if_pos (by decide)]
      · rw [if_neg (nI_nle (by omega) (by omega)), if_neg (fun r => by
          have := congrArg Int64.toInt r
          rw [Int32.toInt_toInt64, nI_toInt (by omega), k64_z] at this
          omega)]
        have hTR : r_TR (u_cd J c F T (min (G - F) (T + 1 - F))) M t := TR_congr (h.2.2.1 t (by omega)) (fun k' _ _ => funext fun j => fr_cd (by omega) _) (fun _ _ _ _ _ _ => rfl)
        have hD1 : (1 : Int64) ≤ Int32.toInt64 (nI (G - F)) := by rw [Int64.le_iff_toInt_le, Int32.toInt_toInt64, nI_toInt (by omega), k64_1]; omega
        have hb := share_b (hTR.2.1.2) (show k ≤ 31 by omega) (show 1 ≤ G - F by omega) hD
        rw [use_eq hTR (share_eq _ _ hD1) (share_eq _ _ hD1) u2 (by omega) hb.1 hb.2, share_eq _ _ hD1, Int64.add_assoc]
        unfold m_one
        rw [hTR.1.1, hTR.2.1.1, hTR.2.2.1.1]
  exact go 3 (Nat.le_refl _)
theorem FD_tab : ∀ P, P < 14 → FD0 P = mF P ∧ FD0 (P + 1) - FD0 P = mD P ∧ FD0 P < FD0 (P + 1) ∧ FD0 (P + 1) - FD0 P ≤ 31 ∧ FD0 (P + 1) ≤ 1000 ∧ m_first P = nI (FD0 P) ∧ m_first (P + 1) = nI (FD0 (P + 1)) := by decide +kernel
end PT13
