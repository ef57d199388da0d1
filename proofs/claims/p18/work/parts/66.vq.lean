/-! both sides, held together -/
section PT17
variable {J M J' M' : qJ} {K N K' N' : rLg} {c z zp T t F G D ne P : Nat} {w d : Int32}
theorem cuL_ne {a b : Nat} (h : a ≠ 27) {I : qJ} : ∀ e, u_cuL I K c F G T e a b = K a b
  | 0 => by rw [u_cuL, u_z27, wL_ne9 (Or.inl h), wL_ne9 (Or.inl h), wL_ne9 (Or.inl h)]
  | e + 1 => by
    rw [u_cuL]
    split
    · split
      · exact cuL_ne h e
      split
      · exact cuL_ne h e
      split
      · exact cuL_ne h e
      · rw [wL_ne9 (Or.inl h)]
        exact cuL_ne h e
    · exact cuL_ne h e
/-- the class's own counting rows 26, 27 are not in the relation -/
theorem RR_cd {i e : Nat} (h : r_RR J M K N) : r_RR (u_cd J c F T i) M (u_cuL (u_cd J c F T i) K c F G T e) N := by
  have hJ : ∀ k, k ≠ 26 → u_cd J c F T i k = J k := fun k hk => funext fun j => fr_cd hk _
  have hK : ∀ k, k ≠ 27 → u_cuL (u_cd J c F T i) K c F G T e k = K k := fun k hk => funext fun j => cuL_ne hk _
  obtain ⟨⟨h1, h2⟩, h3, h4, h5, h6, h7, h8, h9⟩ := h
  refine ⟨⟨?_, ?_⟩, ⟨?_, ?_⟩, fun t ht => TR_congr (h4 t ht) (fun k _ _ => hJ k (by omega)) (fun _ _ _ _ _ _ => rfl), fun c hc => RC_congr hc (h5 c hc) (hJ _ (by omega)) (fun _ _ _ => rfl) (by rw [hK _ (by omega)]) rfl, RH_congr h6 (by rw [hJ _ (by omega)]) (fun c hc => hJ _ (by omega)) rfl, RE_congr h7 (fun k _ _ => hJ k (by omega)) (by rw [hJ _ (by omega)]) (fun _ _ _ => rfl) rfl, RI_congr h8 (hJ _ (by omega)) (hJ _ (by omega)) (hJ _ (by omega)) (by rw [hJ _ (by omega)]) (fun _ _ _ => rfl) rfl (hK _ (by omega)) (hK _ (by omega)) rfl rfl, RP_congr h9 (fun k _ _ => hJ k (by omega)) (by rw [hJ _ (by omega)]) (fun _ _ _ => rfl) rfl (hK _ (by omega)) rfl⟩
  · rw [hJ _ (by omega)]; exact h1
  · rw [hK _ (by omega)]; exact h2
  · rw [hJ _ (by omega)]; exact h3.1
  · rw [hJ _ (by omega)]; exact h3.2
theorem amts_eq (h : r_RI J M K N) (x y : Int32) : ∀ z, u_amts J K x y z = m_is M N x y z
  | 0 => rfl
  | z + 1 => by
    rw [u_amts, m_is, amts_eq h x y z, h.2.1, h.2.2.1, h.2.2.2.2.1]
/-- a row more in the book of invoices -/
theorem RR_add (h : r_RR J M K N) (hc : c < 5) (hz2 : z < 50) {d : Int64} (hd : ¬ d = 0) {J2 : qJ} {K2 K3 : rLg} (hJ2 : J2 = wI (wI (wI (wI J 15 z (nI c)) 16 z (nI P)) 18 z (nI T)) 14 5 (nI (z + 1))) (hK2 : K2 = wL (wL K 17 z d) 19 z (qmminl d 0)) (hK3 : K3 = if 0 ≤ d then K2 else wL K2 (37 + 2 * c) 4 (K2 (37 + 2 * c) 4 + -d)) : r_RR J2 (m_rI M c P T z) K3 (m_rL N c z d) := by
  subst hJ2
  obtain ⟨⟨h1, h2⟩, h3, h4, h5, h6, h7, h8, h9⟩ := h
  have hJ : ∀ k, k ≠ 15 → k ≠ 16 → k ≠ 18 → k ≠ 14 → wI (wI (wI (wI J 15 z (nI c)) 16 z (nI P)) 18 z (nI T)) 14 5 (nI (z + 1)) k = J k := fun k g1 g2 g3 g4 => by
    rw [wI_c9 g4, wI_c9 g3, wI_c9 g2, wI_c9 g1]
  have hM : ∀ k j, k ≠ 67 → k ≠ 68 → k ≠ 69 → (k ≠ 47 ∨ j ≠ 29) → m_rI M c P T z k j = M k j := fun k j g1 g2 g3 g4 => by
    unfold m_rI
    rw [wI_ne (by omega), wI_ne (by omega), wI_ne (by omega), wI_ne (by omega)]
  have hMk : ∀ k, k ≠ 67 → k ≠ 68 → k ≠ 69 → k ≠ 47 → m_rI M c P T z k = M k := fun k g1 g2 g3 g4 => funext fun j => hM k j g1 g2 g3 (Or.inl g4)
  have hK2n : ∀ k, k ≠ 17 → k ≠ 19 → K2 k = K k := fun k g1 g2 => by rw [hK2, wL_c9 g2, wL_c9 g1]
  have hKn : ∀ k, k ≠ 17 → k ≠ 19 → k ≠ 37 + 2 * c → K3 k = K k := fun k g1 g2 g3 => by
    rw [hK3]
    split
    · exact hK2n k g1 g2
    · rw [wL_c9 g3]; exact hK2n k g1 g2
  have hK17 : K3 17 = K2 17 ∧ K3 19 = K2 19 := by
    rw [hK3]
    split
    · exact ⟨rfl, rfl⟩
    · rw [wL_c9 (by omega), wL_c9 (by omega)]; exact ⟨rfl, rfl⟩
  have hN : ∀ k j, k ≠ 70 → k ≠ 71 → (k ≠ 61 ∨ j ≠ c) → m_rL N c z d k j = N k j := fun k j g1 g2 g3 => by
    unfold m_rL
    split
    · rw [wL_ne9 (by omega), wL_ne9 (by omega)]
    · rw [wL_ne9 (by omega), wL_ne9 (by omega), wL_ne9 (by omega)]
  have hd0 : d.toInt ≠ 0 := fun q => hd (Int64.toInt_inj.mp (by rw [q, k64_z]))
  have hmin : qmminl d 0 = if 0 ≤ d then 0 else d := by
    unfold qmminl
    by_cases q : 0 ≤ d
    · rw [if_pos q, if_pos (by rw [Int64.lt_iff_toInt_lt, k64_z]; rw [Int64.le_iff_toInt_le, k64_z] at q; omega)]
    · rw [if_neg q, if_neg (by rw [Int64.lt_iff_toInt_lt, k64_z]; rw [Int64.le_iff_toInt_le, k64_z] at q; omega)]
  refine ⟨⟨?_, ?_⟩, ⟨?_, ?_⟩, fun t ht => TR_congr (h4 t ht) (fun k _ _ => hJ k (by omega) (by omega) (by omega) (by omega)) (fun k j _ _ _ _ => hM k j (by omega) (by omega) (by omega) (by omega)), fun c' hc' => ?_, RH_congr h6 (by rw [hJ _ (by omega) (by omega) (by omega) (by omega)]) (fun c hc => hJ _ (by omega) (by omega) (by omega) (by omega)) (hMk _ (by omega) (by omega) (by omega) (by omega)), RE_congr h7 (fun k _ _ => hJ k (by omega) (by omega) (by omega) (by omega)) (by rw [hJ _ (by omega) (by omega) (by omega) (by omega)]) (fun k _ _ => hMk k (by omega) (by omega) (by omega) (by omega)) (hM _ _ (by omega) (by omega) (by omega) (by omega)), ?_, RP_congr h9 (fun k _ _ => hJ k (by omega) (by omega) (by omega) (by omega)) (by rw [hJ _ (by omega) (by omega) (by omega) (by omega)]) (fun k _ _ => hMk k (by omega) (by omega) (by omega) (by omega)) (hM _ _ (by omega) (by omega) (by omega) (by omega)) (hKn _ (by omega) (by omega) (by omega)) (funext fun j => hN _ _ (by omega) (by omega) (by omega))⟩
  · rw [hJ _ (by omega) (by omega) (by omega) (by omega), hM _ _ (by omega) (by omega) (by omega) (by omega)]; exact h1
  · rw [hKn _ (by omega) (by omega) (by omega), hN _ _ (by omega) (by omega) (by omega)]; exact h2
  · rw [hJ _ (by omega) (by omega) (by omega) (by omega), hM _ _ (by omega) (by omega) (by omega) (by omega)]; exact h3.1
  · rw [hJ _ (by omega) (by omega) (by omega) (by omega), hMk _ (by omega) (by omega) (by omega) (by omega)]; exact h3.2
  · rcases Decidable.em (c' = c) with v | v
    · subst v
      obtain ⟨c1, c2, c3, c4, c5, c6⟩ := h5 c' hc'
      unfold r_RC
      rw [hJ _ (by omega) (by omega) (by omega) (by omega), hM _ _ (by omega) (by omega) (by omega) (by omega), hM _ _ (by omega) (by omega) (by omega) (by omega), hM _ _ (by omega) (by omega) (by omega) (by omega)]
      refine ⟨c1, c2, c3, ?_, c5, c6⟩
      rw [hK3]
      unfold m_rL
      by_cases q : 0 ≤ d
      · rw [if_pos q, if_pos q, hK2n _ (by omega) (by omega), wL_ne9 (by omega), wL_ne9 (by omega)]
        exact c4
      · rw [if_neg q, if_neg q, wL_at9, wL_at9, hK2n _ (by omega) (by omega), c4, Int64.sub_eq_add_neg]
    · exact RC_congr hc' (h5 c' hc') (hJ _ (by omega) (by omega) (by omega) (by omega)) (fun k _ _ => hM _ _ (by omega) (by omega) (by omega) (by omega)) (by rw [hKn _ (by omega) (by omega) (by omega)]) (hN _ _ (by omega) (by omega) (by omega))
  · obtain ⟨g1, g2, g3, g4, g5, g6, g7⟩ := h8
    have row : ∀ (A B : Nat → Int32) (x : Int32), A = B → upd A z x = upd B z x := fun A B x e => by rw [e]
    refine ⟨?_, ?_, ?_, ?_, ?_, ?_, ?_⟩
    · unfold m_rI
      rw [wI_at, wI_at]
    · simp [wI, va_up, m_rI, g2]
    · simp [wI, va_up, m_rI, g3]
    · simp [wI, va_up, m_rI, g4]
    · rw [hK17.1, hK2]
      unfold m_rL
      split <;> simp [wL, va_up, g5]
    · rw [hK17.2, hK2, hmin]
      unfold m_rL
      split <;> simp [wL, va_up, g6]
    · intro k
      rw [hK17.1, hK17.2, hK2, hmin]
      rcases Decidable.em (k = z) with v | v
      · subst v
        rw [wL_at9, wL_ne9 (by omega), wL_at9]
        by_cases q : 0 ≤ d
        · rw [if_pos q]
          left
          rw [Int64.le_iff_toInt_le, k64_z] at q
          rw [k64_z]
          omega
        · rw [if_neg q]
          right
          rfl
      · rw [wL_ne9 (Or.inr v), wL_ne9 (by omega), wL_ne9 (Or.inr v), wL_ne9 (Or.inr v)]
        exact g7 k
theorem RR_id (h : r_RR J M K N) (hB : ∀ c, c < 5 → qB (J (37 + 2 * c) 2)) (hc : c < 5) (hT : J 0 9 = nI T) (hT2 : T ≤ 400) (hP : P < 14) (hne : J 9 4 = nI ne) (hne2 : ne ≤ 80) (hE : mE M ne) (hz : J 14 5 = nI z) (hz2 : z ≤ 50) : r_RR (u_id J K c P (FD0 P) (FD0 (P + 1)) T (min (FD0 (P + 1) - FD0 P) (T + 1 - FD0 P)) ne z).1 (m_r1 T ne c P (M, N)).1 (u_id J K c P (FD0 P) (FD0 (P + 1)) T (min (FD0 (P + 1) - FD0 P) (T + 1 - FD0 P)) ne z).2 (m_r1 T ne c P (M, N)).2 := by
  obtain ⟨t1, t2, t3, t4, t5, -, -⟩ := FD_tab P hP
  have hmz : mzof M = z := by unfold mzof; rw [← h.2.2.2.2.2.2.1.1, hz]; exact nI_clamp (by omega)
  have hch := charge_eq h hB hc hT hT2 t3 t5 t4 hne hne2 hE
  have hRd : r_RR (u_cd J c (FD0 P) T (min (FD0 (P + 1) - FD0 P) (T + 1 - FD0 P))) M (u_cuL (u_cd J c (FD0 P) T (min (FD0 (P + 1) - FD0 P) (T + 1 - FD0 P))) K c (FD0 P) (FD0 (P + 1)) T ne) N := RR_cd h
  have hdif : u_dif J K c P (FD0 P) (FD0 (P + 1)) T (min (FD0 (P + 1) - FD0 P) (T + 1 - FD0 P)) ne z = m_dif T ne c P (M, N) := by
    unfold u_dif m_dif
    rw [hch, amts_eq hRd.2.2.2.2.2.2.1, hmz, t1, ← t2, t1]
  unfold u_id m_r1
  rw [hdif, hmz]
  by_cases q50 : z = 50
  · rw [if_pos q50, if_pos q50, ite_self]
    exact h
  rw [if_neg q50, if_neg q50]
  by_cases q0 : m_dif T ne c P (M, N) = 0
  · rw [if_pos q0, if_pos q0]
    exact hRd
  rw [if_neg q0, if_neg q0]
  generalize m_dif T ne c P (M, N) = d at *
  exact RR_spend (RR_add hRd hc (by omega) q0 rfl rfl rfl) hc
theorem RR_rp {I0' I1' : qJ} {s : qIL} {r : qIM} (h : r_RR s.1 r.1 s.2 r.2) (hC : CF I0' s.1) (hM : MF I1' r.1) (hc : c < 5) (hT : s.1 0 9 = nI T) (hT2 : T ≤ 400) (hne : s.1 9 4 = nI ne) (hne2 : ne ≤ 80) : ∀ P, P ≤ 14 → r_RR (u_rp FD0 T ne c s P).1 (m_rp T ne c r P).1 (u_rp FD0 T ne c s P).2 (m_rp T ne c r P).2
  | 0, _ => h
  | P + 1, hP => by
    have ih := RR_rp h hC hM hc hT hT2 hne hne2 P (by omega)
    have hCp := CF_rp (FD := FD0) (T := T) (ne := ne) hC hc P
    have hMp := MF_rp (T := T) (ne := ne) (c := c) hM P
    obtain ⟨z, hz2, hz⟩ := hCp.1.2.2.2.2.1
    have hzo : zof (u_rp FD0 T ne c s P).1 = z := by unfold zof; rw [hz]; exact nI_clamp (by omega)
    rw [u_rp, m_rp, u_r1, hzo]
    exact RR_id ih hCp.1.2.2.2.2.2.2.2 hc ((fr_rp (by omega) P).trans hT) hT2 (by omega) ((fr_rp (by omega) P).trans hne) hne2 (mE_of hMp.1 hne2) hz hz2
theorem RR_rc {I0' I1' : qJ} {s : qIL} {r : qIM} {pe : Nat} (h : r_RR s.1 r.1 s.2 r.2) (hC : CF I0' s.1) (hM : MF I1' r.1) (hT : s.1 0 9 = nI T) (hT2 : T ≤ 400) (hne : s.1 9 4 = nI ne) (hne2 : ne ≤ 80) (hpe : pe ≤ 14) : ∀ c, c ≤ 5 → r_RR (u_rc FD0 T ne pe s c).1 (m_rc T ne pe r c).1 (u_rc FD0 T ne pe s c).2 (m_rc T ne pe r c).2
  | 0, _ => h
  | c + 1, hc => by
    have ih := RR_rc h hC hM hT hT2 hne hne2 hpe c (by omega)
    rw [u_rc, m_rc]
    exact RR_rp ih (CF_rc hC c (by omega)) (MF_rc hM c) (by omega) ((fr_rc (by omega) c (by omega)).trans hT) hT2 ((fr_rc (by omega) c (by omega)).trans hne) hne2 pe hpe
end PT17
