/-! what every state of the class that a run reaches holds (CI), and that each method keeps it and leaves the reference's cells -/
def CI (I : qJ) : Prop := (∀ P, P ≤ 14 → I 25 P = nI (FD0 P)) ∧ (∃ T, T ≤ 400 ∧ I 0 9 = nI T) ∧ (∃ e, e ≤ 80 ∧ I 9 4 = nI e) ∧ (∀ t, t < 3 → ∃ z, z ≤ 4 ∧ I (28 + 3 * t) 5 = nI z) ∧ (∃ z, z ≤ 50 ∧ I 14 5 = nI z) ∧ (∃ z, z ≤ 10 ∧ I 20 4 = nI z) ∧ (∃ n, n ≤ 60 ∧ I 1 3 = nI n) ∧ ∀ c, c < 5 → qB (I (37 + 2 * c) 2)
def CF (I J : qJ) : Prop := CI J ∧ ∀ k, 47 ≤ k → J k = I k
section CIS
variable {I J : qJ} {L : Nat → Nat → Int64} {k j c z n t : Nat} {v d : Int32}
theorem CF_gen (h : CF I J) (hk : k < 47) (h25 : k ≠ 25) (hT : k = 0 → j = 9 → ∃ T, T ≤ 400 ∧ v = nI T) (he : k = 9 → j = 4 → ∃ e, e ≤ 80 ∧ v = nI e) (ht : k = 28 ∨ k = 31 ∨ k = 34 → j = 5 → ∃ z, z ≤ 4 ∧ v = nI z) (hz : k = 14 → j = 5 → ∃ z, z ≤ 50 ∧ v = nI z) (hp : k = 20 → j = 4 → ∃ z, z ≤ 10 ∧ v = nI z) (hn : k = 1 → j = 3 → ∃ n, n ≤ 60 ∧ v = nI n) (hB : 37 ≤ k → k % 2 = 1 → j = 2 → qB v) : CF I (wI J k j v) := by
  obtain ⟨⟨q1, q2, q3, q4, q5, q6, q7, q8⟩, q9⟩ := h
  have one : ∀ (a b N : Nat), (k = a → j = b → ∃ z, z ≤ N ∧ v = nI z) → (∃ z, z ≤ N ∧ J a b = nI z) → ∃ z, z ≤ N ∧ wI J k j v a b = nI z := by
    intro a b N g1 g2
    rcases Decidable.em (k = a ∧ j = b) with ⟨r1, r2⟩ | r
    · obtain ⟨y, y1, y2⟩ := g1 r1 r2
      subst r1; subst r2
      exact ⟨y, y1, (wI_at _ _ _ _).trans y2⟩
    · obtain ⟨y, y1, y2⟩ := g2
      exact ⟨y, y1, (wI_ne (by omega)).trans y2⟩
  refine ⟨⟨fun P hP => (wI_ne (Or.inl (fun q => h25 q.symm))).trans (q1 P hP), one 0 9 400 hT q2, one 9 4 80 he q3, fun t h3 => one _ _ _ (fun g => ht (by omega)) (q4 t h3), one 14 5 50 hz q5, one 20 4 10 hp q6, one 1 3 60 hn q7, fun c hc => ?_⟩, fun a ha => ?_⟩
  · rcases Decidable.em (k = 37 + 2 * c ∧ j = 2) with ⟨r1, r2⟩ | r
    · have g := hB (by omega) (by omega) r2
      subst r1; subst r2
      rw [wI_at]
      exact g
    · rw [wI_ne (by omega)]
      exact q8 c hc
  · rw [wI_c9 (by omega)]
    exact q9 a ha
theorem CF_w (h : CF I J) (h1 : k < 47 ∧ k ≠ 25 ∧ (k ≠ 0 ∨ j ≠ 9) ∧ (k ≠ 9 ∨ j ≠ 4) ∧ ((k ≠ 28 ∧ k ≠ 31 ∧ k ≠ 34) ∨ j ≠ 5) ∧ (k ≠ 14 ∨ j ≠ 5) ∧ (k ≠ 20 ∨ j ≠ 4) ∧ (k ≠ 1 ∨ j ≠ 3) ∧ (k < 37 ∨ k % 2 = 0 ∨ j ≠ 2)) : CF I (wI J k j v) :=
  CF_gen h h1.1 h1.2.1 (by omega) (by omega) (by omega) (by omega) (by omega) (by omega) (by omega)
theorem CF_B (h : CF I J) (hc : c < 5) (hv : qB v) : CF I (wI J (37 + 2 * c) 2 v) :=
  CF_gen h (by omega) (by omega) (by omega) (by omega) (by omega) (by omega) (by omega) (by omega) (fun _ _ _ => hv)
theorem CF_look (h : CF I J) (hc : c < 5) : CF I (u_look J (37 + 2 * c) d) := by
  have h1 : ∀ x, CF I (u_look1 J (37 + 2 * c) x) := by
    intro x
    unfold u_look1
    split
    · exact CF_B h hc (Or.inr rfl)
    · exact h
  have h2 : ∀ x, CF I (u_look2 J (37 + 2 * c) x) := by
    intro x
    unfold u_look2
    split
    · exact CF_B (h1 x) hc (Or.inl rfl)
    · exact h1 x
  unfold u_look
  exact CF_w (h2 _) (by omega)
theorem CF_keep (h : CF I J) (hc : c < 5) : CF I (u_keep J (37 + 2 * c) (38 + 2 * c) d) := by
  unfold u_keep
  split
  · exact h
  split
  · exact h
  · exact CF_w h (by omega)
theorem CF_kps (h : CF I J) : ∀ c, c ≤ 5 → CF I (u_kps J c)
  | 0, _ => h
  | c + 1, hc => CF_keep (CF_kps h c (by omega)) (by omega)
theorem CF_lks (h : CF I J) : ∀ c, c ≤ 5 → CF I (u_lks J L z c)
  | 0, _ => h
  | c + 1, hc => CF_look (CF_lks h c (by omega)) (by omega)
theorem CF_pass (h : CF I J) {T : Nat} (hT : J 0 9 = nI T) (hT2 : T < 400) : CF I (u_pass J L z) := by
  unfold u_pass
  refine CF_lks (CF_gen (CF_kps h 5 (Nat.le_refl _)) (by omega) (by omega) (fun _ _ => ⟨T + 1, by omega, ?_⟩) (by omega) (by omega) (by omega) (by omega) (by omega) (by omega)) 5 (Nat.le_refl _)
  rw [u_kps_ne (by omega), hT, nI_1]
theorem CF_tk (h : CF I J) {T : Nat} (hT : J 0 9 = nI T) : ∀ k, T + k ≤ 400 → CF I (u_tk J L z k)
  | 0, _ => h
  | k + 1, hk => by
    rw [u_tk]
    exact CF_pass (CF_tk h hT k (by omega)) (T := T + k) (by rw [u_tk_09, hT, nI_add]) (by omega)
theorem CF_spend (h : CF I J) (hc : c < 5) : CF I (u_spend J L c z).1 := by
  unfold u_spend
  split
  · exact h
  · exact CF_look h hc
theorem CF_cd (h : CF I J) {F T : Nat} : ∀ i, CF I (u_cd J c F T i)
  | 0 => CF_w (CF_w (CF_w h (by omega)) (by omega)) (by omega)
  | i + 1 => by
    rw [u_cd]
    split
    · exact CF_cd h i
    · exact CF_w (CF_cd h i) (by omega)
theorem CF_id (h : CF I J) {P F G T M ne : Nat} (hc : c < 5) (hz2 : z ≤ 50) : CF I (u_id J L c P F G T M ne z).1 := by
  unfold u_id
  split
  · exact h
  split
  · exact CF_cd h M
  · refine CF_spend (CF_gen (CF_w (CF_w (CF_w (CF_cd h M) (by omega)) (by omega)) (by omega)) (by omega) (by omega) (by omega) (by omega) (by omega) (fun _ _ => ⟨z + 1, by omega, rfl⟩) (by omega) (by omega) (by omega)) hc
theorem CF_zof (h : CF I J) : zof J ≤ 50 := by
  obtain ⟨z, h1, h2⟩ := h.1.2.2.2.2.1
  unfold zof
  rw [h2, nI_clamp (by omega)]
  exact h1
theorem CF_rp {FD : Nat → Nat} {T ne : Nat} {s : qIL} (h : CF I s.1) (hc : c < 5) : ∀ P, CF I (u_rp FD T ne c s P).1
  | 0 => h
  | P + 1 => CF_id (CF_rp h hc P) hc (CF_zof (CF_rp h hc P))
theorem CF_rc {FD : Nat → Nat} {T ne pe : Nat} {s : qIL} (h : CF I s.1) : ∀ c, c ≤ 5 → CF I (u_rc FD T ne pe s c).1
  | 0, _ => h
  | c + 1, hc => CF_rp (CF_rc h c (by omega)) (by omega) pe
theorem CF_ap (h : CF I J) {w : Int64} : ∀ i, n + u_cN w i ≤ 60 → CF I (u_ap J w n i)
  | 0, _ => h
  | i + 1, hi => by
    rw [u_ap]
    rw [u_cN] at hi
    split
    · rename_i g
      exact CF_ap h i (by omega)
    · rename_i g
      exact CF_gen (CF_w (CF_ap h i (by omega)) (by omega)) (by omega) (by omega) (by omega) (by omega) (by omega) (by omega) (by omega) (fun _ _ => ⟨n + u_cN w i + 1, by simp only [ib9, if_neg g] at hi; omega, rfl⟩) (by omega)
/-- the parser leaves all but cells 1, 3 .. 6 -/
theorem CF_rok (h : CF I J) {J2 : qJ} (hr : rok n J J2) : CF I J2 := by
  obtain ⟨⟨q1, q2, q3, q4, q5, q6, q7, q8⟩, q9⟩ := h
  obtain ⟨-, r3, -, -, r⟩ := hr
  have e : ∀ a, 7 ≤ a ∨ a = 0 ∨ a = 2 → J2 a = J a := fun a ha => r a (by omega) (by omega) (by omega) (by omega) (by omega)
  refine ⟨⟨fun P hP => by rw [e _ (by omega)]; exact q1 P hP, by rw [e _ (by omega)]; exact q2, by rw [e _ (by omega)]; exact q3, fun t ht => by rw [e _ (by omega)]; exact q4 t ht, by rw [e _ (by omega)]; exact q5, by rw [e _ (by omega)]; exact q6, by rw [r3]; exact q7, fun c hc => by rw [e _ (by omega)]; exact q8 c hc⟩, fun a ha => by rw [e _ (by omega)]; exact q9 a ha⟩
end CIS
