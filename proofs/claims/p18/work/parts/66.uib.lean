/-! the class's parser and tariff keep CI; what every state of the reference holds (MI), kept by each method, the class's cells left -/
section CIP
variable {I J : qJ} {L : Nat → Nat → Int64} {k j c z n t : Nat} {v d : Int32}
theorem CF_rl (hn2 : n ≤ 60) : ∀ (j : Nat) (J : qJ), CF I J → rok n J J → CF I (u_rl n j J) ∧ rok n (u_rl n j J) (u_rl n j J)
  | 0, J, h, hr => ⟨h, hr⟩
  | j + 1, J, h, hr => by
    rw [u_rl]
    split
    · have ha := aof_ok hn2 hr
      have ht := tof_ok hr
      have hs := rok_stp hn2 hr
      refine CF_rl hn2 j (u_stp J n) ?_ ⟨hs.1, rfl, rfl, hs.2.2.2.1, fun _ _ _ _ _ _ => rfl⟩
      unfold u_stp
      exact CF_w (CF_rok h (rok_part hn2 ha.1 ha.2 ht.1 ht.2)) (by omega)
    · exact ⟨h, hr⟩
theorem CF_ra9 (h : CF I J) (hn2 : n ≤ 60) : CF I (u_ra9 J n) ∧ rok n (u_ra9 J n) (u_ra9 J n) := by
  refine CF_rl hn2 62 (u_ri J) ?_ ⟨⟨0, Nat.zero_le _, by simp [u_ri, wI, va_up, upd, nI_0]⟩, rfl, rfl, ⟨0, by omega, by simp [u_ri, wI, va_up, upd, nI_0]⟩, fun _ _ _ _ _ _ => rfl⟩
  unfold u_ri
  repeat (refine CF_w ?_ (by omega))
  exact h
theorem CF_cp (h : CF I J) (ht : t < 3) (hz : ∃ z, z ≤ 4 ∧ J 4 5 = nI z) : ∀ k, CF I (u_cp J (28 + 3 * t) (29 + 3 * t) (30 + 3 * t) k)
  | 0 => by
    rw [u_cp, u_cpF]
    refine CF_w (CF_gen ?_ (by omega) (by omega) (by omega) (by omega) (fun _ _ => hz) (by omega) (by omega) (by omega) (by omega)) (by omega)
    repeat (refine CF_w ?_ (by omega))
    exact h
  | k + 1 => by
    rw [u_cp]
    exact CF_w (CF_w (CF_cp h ht hz k) (by omega)) (by omega)
theorem CF_tr (h : CF I J) (hn2 : n ≤ 60) (ht : t < 3) : CF I (u_tr J n t) := by
  obtain ⟨h1, h2⟩ := CF_ra9 h hn2
  unfold u_tr
  exact CF_gen (CF_cp h1 ht h2.2.2.2.1 4) (by omega) (by omega) (by omega) (by omega) (by omega) (by omega) (by omega) (fun _ _ => ⟨0, by omega, rfl⟩) (by omega)
end CIP
def MI (I : qJ) : Prop := (∃ T, T ≤ 400 ∧ I 47 2 = nI T) ∧ (∃ e, e ≤ 80 ∧ I 47 23 = nI e) ∧ (∀ e, e < 80 → ∃ d, d ≤ 400 ∧ I 65 e = nI d) ∧ (∀ t, t < 4 → ∃ z, z ≤ 4 ∧ I 54 t = nI z) ∧ (∃ z, z ≤ 50 ∧ I 47 29 = nI z) ∧ (∃ z, z ≤ 10 ∧ I 47 34 = nI z ∧ ∀ i, i < z → 1 ≤ I 73 i) ∧ ∃ n, n ≤ 60 ∧ I 47 4 = nI n
def MF (I J : qJ) : Prop := MI J ∧ ∀ k, k < 47 → J k = I k
section MIS
variable {I J J2 : qJ} {L : Nat → Nat → Int64} {k j c z n t a : Nat} {v d : Int32}
theorem MF_agree (h : MF I J) (g : ∀ a b, a < 48 ∨ a = 54 ∨ a = 65 ∨ a = 73 → J2 a b = J a b) : MF I J2 := by
  obtain ⟨⟨q1, q2, q3, q4, q5, q6, q7⟩, q8⟩ := h
  refine ⟨⟨by rw [g _ _ (by omega)]; exact q1, by rw [g _ _ (by omega)]; exact q2, fun e he => by rw [g _ _ (by omega)]; exact q3 e he, fun t ht => by rw [g _ _ (by omega)]; exact q4 t ht, by rw [g _ _ (by omega)]; exact q5, ?_, by rw [g _ _ (by omega)]; exact q7⟩, fun a ha => ?_⟩
  · obtain ⟨z, r1, r2, r3⟩ := q6
    exact ⟨z, r1, (g _ _ (by omega)).trans r2, fun i hi => by rw [g _ _ (by omega)]; exact r3 i hi⟩
  · rw [← q8 a ha]
    funext b
    exact g a b (by omega)
theorem MF_gen (h : MF I J) (hk : 47 ≤ k) (h73 : k ≠ 73) (hp : k ≠ 47 ∨ j ≠ 34) (hT : k = 47 → j = 2 → ∃ T, T ≤ 400 ∧ v = nI T) (he : k = 47 → j = 23 → ∃ e, e ≤ 80 ∧ v = nI e) (hd : k = 65 → ∃ d, d ≤ 400 ∧ v = nI d) (ht : k = 54 → ∃ z, z ≤ 4 ∧ v = nI z) (hz : k = 47 → j = 29 → ∃ z, z ≤ 50 ∧ v = nI z) (hn : k = 47 → j = 4 → ∃ n, n ≤ 60 ∧ v = nI n) : MF I (wI J k j v) := by
  obtain ⟨⟨q1, q2, q3, q4, q5, q6, q7⟩, q8⟩ := h
  have one : ∀ (a b N : Nat), (k = a → j = b → ∃ z, z ≤ N ∧ v = nI z) → (∃ z, z ≤ N ∧ J a b = nI z) → ∃ z, z ≤ N ∧ wI J k j v a b = nI z := by
    intro a b N g1 g2
    rcases Decidable.em (k = a ∧ j = b) with ⟨r1, r2⟩ | r
    · obtain ⟨y, y1, y2⟩ := g1 r1 r2
      subst r1; subst r2
      exact ⟨y, y1, (wI_at _ _ _ _).trans y2⟩
    · obtain ⟨y, y1, y2⟩ := g2
      exact ⟨y, y1, (wI_ne (by omega)).trans y2⟩
  refine ⟨⟨one 47 2 400 hT q1, one 47 23 80 he q2, fun e h3 => one _ _ _ (fun g _ => hd g) (q3 e h3), fun t h3 => one _ _ _ (fun g _ => ht g) (q4 t h3), one 47 29 50 hz q5, ?_, one 47 4 60 hn q7⟩, fun a ha => ?_⟩
  · obtain ⟨z, r1, r2, r3⟩ := q6
    refine ⟨z, r1, (wI_ne (hp.imp (fun q r => q r.symm) (fun q r => q r.symm))).trans r2, fun i hi => ?_⟩
    rw [wI_ne (Or.inl (fun q => h73 q.symm))]
    exact r3 i hi
  · rw [wI_c9 (by omega)]
    exact q8 a ha
theorem MF_w (h : MF I J) (h1 : 47 ≤ k ∧ k ≠ 73 ∧ k ≠ 65 ∧ k ≠ 54 ∧ (k ≠ 47 ∨ (j ≠ 2 ∧ j ≠ 23 ∧ j ≠ 29 ∧ j ≠ 34 ∧ j ≠ 4))) : MF I (wI J k j v) :=
  MF_gen h h1.1 h1.2.1 (by omega) (by omega) (by omega) (by omega) (by omega) (by omega) (by omega)
theorem MF_look (h : MF I J) : MF I (m_look J L c z) := MF_agree h (fun a b hab => m_look_ne (by omega) (by omega))
theorem MF_was (h : MF I J) {T : Nat} (c : Nat) : MF I (m_was J T c) := MF_agree h (fun a b hab => m_was_ne (by omega) c)
theorem MF_lks (h : MF I J) (c : Nat) : MF I (m_lks J L z c) := MF_agree h (fun a b hab => m_lks_ne (by omega) (by omega) c)
theorem MF_tk (h : MF I J) {T : Nat} : ∀ k, T + k ≤ 400 → MF I (m_tk J L z T k)
  | 0, _ => h
  | k + 1, hk => by
    rw [m_tk, m_day]
    exact MF_lks (MF_gen (MF_was (MF_tk h k (by omega)) 5) (by omega) (by omega) (by omega) (fun _ _ => ⟨T + k + 1, by omega, rfl⟩) (by omega) (by omega) (by omega) (by omega) (by omega)) 5
theorem MF_setI (h : MF I J) : MF I (m_setI J L c z) := by
  unfold m_setI
  split
  · exact h
  · exact MF_look h
theorem MF_zof (h : MF I J) : mzof J ≤ 50 := by
  obtain ⟨z, h1, h2⟩ := h.1.2.2.2.2.1
  rw [mzof_of h1 h2]
  exact h1
theorem MF_r1 {T ne P : Nat} {s : qIM} (h : MF I s.1) : MF I (m_r1 T ne c P s).1 := by
  have hz := MF_zof h
  unfold m_r1
  split
  · exact h
  split
  · exact h
  · unfold m_rI
    exact MF_setI (MF_gen (MF_w (MF_w (MF_w h (by omega)) (by omega)) (by omega)) (by omega) (by omega) (by omega) (by omega) (by omega) (by omega) (by omega) (fun _ _ => ⟨mzof s.1 + 1, by omega, rfl⟩) (by omega))
theorem MF_rp {T ne : Nat} {s : qIM} (h : MF I s.1) : ∀ P, MF I (m_rp T ne c s P).1
  | 0 => h
  | P + 1 => MF_r1 (MF_rp h P)
theorem MF_rc {T ne pe : Nat} {s : qIM} (h : MF I s.1) : ∀ c, MF I (m_rc T ne pe s c).1
  | 0 => h
  | c + 1 => MF_rp (MF_rc h c) pe
theorem MF_ap (h : MF I J) {w : Int64} (hn : m_ln w n 8 ≤ 60) : ∀ i, i ≤ 8 → MF I (m_ap J w n i)
  | 0, _ => h
  | i + 1, hi => by
    have hm := m_ln_mono w n (i + 1) 8 hi
    rw [m_ap]
    split
    · exact MF_ap h hn i (by omega)
    · rename_i g
      rw [m_ln] at hm
      refine MF_gen (MF_w (MF_ap h hn i (by omega)) (by omega)) (by omega) (by omega) (by omega) (by omega) (by omega) (by omega) (by omega) (by omega) (fun _ _ => ⟨m_ln w n i + 1, ?_, rfl⟩)
      simp only [ib, if_neg g] at hm
      omega
theorem MF_mrok (h : MF I J) (hr : mrok a n J J2) : MF I J2 := by
  obtain ⟨⟨q1, q2, q3, q4, q5, q6, q7⟩, q8⟩ := h
  obtain ⟨-, rz, r⟩ := hr
  refine ⟨⟨by rw [r _ _ (by unfold mfr; omega)]; exact q1, by rw [r _ _ (by unfold mfr; omega)]; exact q2, fun e he => by rw [r _ _ (by unfold mfr; omega)]; exact q3 e he, fun t ht => ?_, by rw [r _ _ (by unfold mfr; omega)]; exact q5, ?_, by rw [r _ _ (by unfold mfr; omega)]; exact q7⟩, fun a ha => ?_⟩
  · rcases Decidable.em (t = 3) with e | e
    · rw [e]; exact rz
    · rw [r _ _ (by unfold mfr; omega)]; exact q4 t ht
  · obtain ⟨z, r1, r2, r3⟩ := q6
    exact ⟨z, r1, (r _ _ (by unfold mfr; omega)).trans r2, fun i hi => by rw [r _ _ (by unfold mfr; omega)]; exact r3 i hi⟩
  · rw [← q8 a ha]
    funext b
    exact r a b (by unfold mfr; omega)
theorem MF_rl (hn2 : n ≤ 60) : ∀ (j : Nat) (J : qJ) (a : Nat), MF I J → J 47 36 = nI a → a ≤ n → J 47 4 = nI n → MF I (m_rl n j J).2
  | 0, J, a, h, _, _, _ => h
  | j + 1, J, a, h, ha, ha2, hn => by
    obtain ⟨z, hz2, hz⟩ := h.1.2.2.2.1 3 (by omega)
    have hr := mrok_part ha ha2 hz hz2
    have hm := MF_mrok h hr
    obtain ⟨⟨b, hb1, hb2, hb3⟩, -, hf⟩ := hr
    have hn3 : (m_part J a n z).2 47 4 = nI n := (hf 47 4 (by unfold mfr; omega)).trans hn
    rw [m_rl, maof_of ha (by omega), mtof_of hz hz2, m_rs]
    split
    · exact hm
    split
    · exact hm
    split
    · exact MF_w hm (by omega)
    · rename_i g
      have hbn : b < n := by
        rcases Nat.lt_or_ge b n with q | q
        · exact q
        · exfalso
          apply g
          right
          rw [maof_of hb3 (by omega), m_lc, if_pos q]
          decide
      exact MF_rl hn2 j _ (b + 1) (MF_w hm (by omega)) (by rw [wI_at, hb3, nI_1]) (by omega) ((wI_ne (by omega)).trans hn3)
theorem MF_read (h : MF I J) (hn : J 47 4 = nI n) (hn2 : n ≤ 60) : MF I (m_read J n).2 := by
  refine MF_rl hn2 (n + 1) (m_ri J) 0 ?_ (by simp [m_ri, wI, va_up, upd, nI_0]) (Nat.zero_le _) (by simp [m_ri, wI, va_up, upd, hn])
  unfold m_ri
  refine MF_gen ?_ (by omega) (by omega) (by omega) (by omega) (by omega) (by omega) (fun _ => ⟨0, by omega, rfl⟩) (by omega) (by omega)
  repeat (refine MF_w ?_ (by omega))
  exact h
theorem MF_cp (h : MF I J) : MF I (m_cp J t) := by
  have h1 : ∀ (c : Nat) (M : qJ), MF I M → 49 ≤ c ∧ c ≤ 55 ∧ c ≠ 54 → MF I (m_c1 c M t) := fun c M hM hc => MF_w hM (by omega)
  have h2 : ∀ (c : Nat) (M : qJ) (k : Nat), MF I M → c = 56 ∨ c = 57 → MF I (m_c2 c M t k) := fun c M k hM hc => MF_w hM (by omega)
  have hA : MF I (m_cA J t) := by
    unfold m_cA
    refine h1 55 _ ?_ (by omega)
    have hM : MF I (m_c1 53 (m_c1 52 (m_c1 51 (m_c1 50 (m_c1 49 (wI J 47 0 0) t) t) t) t) t) := h1 53 _ (h1 52 _ (h1 51 _ (h1 50 _ (h1 49 _ (MF_w h (by omega)) (by omega)) (by omega)) (by omega)) (by omega)) (by omega)
    exact MF_gen hM (by omega) (by omega) (by omega) (by omega) (by omega) (by omega) (fun _ => hM.1.2.2.2.1 3 (by omega)) (by omega) (by omega)
  have hB : ∀ (M : qJ) (k : Nat), MF I M → MF I (m_cB M t k) := fun M k hM => h2 57 _ k (h2 56 M k hM (by omega)) (by omega)
  unfold m_cp
  exact MF_gen (hB _ 3 (hB _ 2 (hB _ 1 (hB _ 0 hA)))) (by omega) (by omega) (by omega) (by omega) (by omega) (by omega) (by omega) (by omega) (fun _ _ => ⟨0, by omega, rfl⟩)
theorem MF_tf (h : MF I J) (hn : J 47 4 = nI n) (hn2 : n ≤ 60) (t : Int32) : MF I (m_tf J n t).2 := by
  have h1 : MF I (wI J 47 1 (-2)) := MF_w h (by omega)
  have h2 := MF_read (n := n) h1 ((wI_ne (by omega)).trans hn) hn2
  unfold m_tf
  split
  · split
    · exact MF_w h2 (by omega)
    · exact MF_cp h2
  · exact MF_w h1 (by omega)
end MIS
