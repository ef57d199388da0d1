/-! the states that a run reaches: Inv; the reference's calls in them -/
def Inv (I : qJ) : Prop := CI I ∧ MI I
section IV
variable {I J : qJ} {L : Nat → Nat → Int64} {T n z : Nat} {d day : Int32}
theorem CF_self (h : CI I) : CF I I := ⟨h, fun _ _ => rfl⟩
theorem MF_self (h : MI I) : MF I I := ⟨h, fun _ _ => rfl⟩
theorem Inv_C (h : Inv I) (g : CF I J) : Inv J := by
  refine ⟨g.1, ?_⟩
  obtain ⟨q1, q2, q3, q4, q5, q6, q7⟩ := h.2
  have e : ∀ a b, 47 ≤ a → J a b = I a b := fun a b ha => congrFun (g.2 a ha) b
  refine ⟨by rw [e _ _ (by omega)]; exact q1, by rw [e _ _ (by omega)]; exact q2, fun k hk => by rw [e _ _ (by omega)]; exact q3 k hk, fun t ht => by rw [e _ _ (by omega)]; exact q4 t ht, by rw [e _ _ (by omega)]; exact q5, ?_, by rw [e _ _ (by omega)]; exact q7⟩
  obtain ⟨z, r1, r2, r3⟩ := q6
  exact ⟨z, r1, (e _ _ (by omega)).trans r2, fun i hi => by rw [e _ _ (by omega)]; exact r3 i hi⟩
theorem Inv_M (h : Inv I) (g : MF I J) : Inv J := by
  refine ⟨?_, g.1⟩
  obtain ⟨q1, q2, q3, q4, q5, q6, q7, q8⟩ := h.1
  have e : ∀ a b, a < 47 → J a b = I a b := fun a b ha => congrFun (g.2 a ha) b
  exact ⟨fun P hP => by rw [e _ _ (by omega)]; exact q1 P hP, by rw [e _ _ (by omega)]; exact q2, by rw [e _ _ (by omega)]; exact q3, fun t ht => by rw [e _ _ (by omega)]; exact q4 t ht, by rw [e _ _ (by omega)]; exact q5, by rw [e _ _ (by omega)]; exact q6, by rw [e _ _ (by omega)]; exact q7, fun c hc => by rw [e _ _ (by omega)]; exact q8 c hc⟩
theorem mT_of (h : MI I) : mT I := by
  intro t ht
  obtain ⟨z, h1, h2⟩ := h.2.2.2.1 t ht
  have e : tz I t = z := by unfold tz; rw [h2]; exact nI_clamp (by omega)
  rw [e]
  exact ⟨h2, h1⟩
theorem cT_of (h : CI I) : cT I := by
  intro t ht
  obtain ⟨z, h1, h2⟩ := h.2.2.2.1 t ht
  have e : ctz I t = z := by unfold ctz; rw [h2]; exact nI_clamp (by omega)
  rw [e]
  exact ⟨h2, h1⟩
theorem mE_of (h : MI I) {ne : Nat} (hne : ne ≤ 80) : mE I ne := by
  intro e he
  obtain ⟨z, h1, h2⟩ := h.2.2.1 e (by omega)
  have q : dn I e = z := by unfold dn; rw [h2]; exact nI_clamp (by omega)
  rw [q]
  exact ⟨h2, h1⟩
theorem pe_ex (Q : Nat → Prop) : ∀ m, ∃ pe, pe ≤ m ∧ (∀ P, P < pe → Q P) ∧ (pe < m → ¬ Q pe)
  | 0 => ⟨0, Nat.le_refl _, fun P hP => absurd hP (by omega), fun h => absurd h (by omega)⟩
  | m + 1 => by
    obtain ⟨pe, h1, h2, h3⟩ := pe_ex Q m
    rcases Nat.lt_or_ge pe m with g | g
    · exact ⟨pe, by omega, h2, fun _ => h3 g⟩
    · rcases Classical.em (Q pe) with q | q
      · exact ⟨pe + 1, by omega, fun P hP => by
          rcases Nat.lt_or_ge P pe with r | r
          · exact h2 P r
          · have e : P = pe := by omega
            rw [e]; exact q, fun r => absurd r (by omega)⟩
      · exact ⟨pe, by omega, h2, fun _ => q⟩
theorem day_b (hT : T ≤ 400) (h1 : ¬ nI T < day) (h2 : 0 ≤ day) : ∃ d, d ≤ 400 ∧ day = nI d := by
  obtain ⟨j, hj, rfl⟩ := nI_of (Int32.not_lt.mpr h2)
  refine ⟨j, ?_, rfl⟩
  rcases Nat.lt_or_ge T j with q | q
  · exact absurd (nI_lt q hj) h1
  · omega
theorem tick_b (hT : T ≤ 400) (h1 : ¬ (d < 1 ∨ 40 < d)) (h2 : ¬ 400 < nI T + d) : T + d.toNatClampNeg ≤ 400 := by
  have h3 := h1
  simp only [Int32.lt_iff_toInt_lt, k32_1, k32_40] at h3
  have h0 : ¬ d < 0 := by
    rw [Int32.lt_iff_toInt_lt, k32_0]
    omega
  obtain ⟨j, hj, rfl⟩ := nI_of h0
  rw [nI_toInt hj] at h3
  rw [nI_clamp hj]
  rcases Nat.lt_or_ge 400 (T + j) with q | q
  · rw [nI_add] at h2
    exact absurd (nI_lt (a := 400) q (by omega)) h2
  · exact q
theorem one_le (h : 1 ≤ Int32.toInt64 d ∧ Int32.toInt64 d ≤ 400) : 1 ≤ d := by
  have h1 := h.1
  rw [Int64.le_iff_toInt_le, Int32.toInt_toInt64, k64_1] at h1
  rw [Int32.le_iff_toInt_le, k32_1]
  exact h1
theorem MF_plan {c : Int32} {v : Int32} (h : MF I J) (hz : J 47 34 = nI z) (hz2 : z < 10) (hd : 1 ≤ d) : MF I (wI (wI (wI (wI J 72 z c) 73 z d) 74 z v) 47 34 (nI (z + 1))) := by
  obtain ⟨⟨q1, q2, q3, q4, q5, q6, q7⟩, q8⟩ := h
  obtain ⟨z', r1, r2, r3⟩ := q6
  have hzz : z' = z := (nI_eq (by omega) (by omega)).mp (r2.symm.trans hz)
  subst hzz
  have e : ∀ a b, a ≠ 72 → a ≠ 73 → a ≠ 74 → (a ≠ 47 ∨ b ≠ 34) → wI (wI (wI (wI J 72 z' c) 73 z' d) 74 z' v) 47 34 (nI (z' + 1)) a b = J a b := fun a b g1 g2 g3 g4 => by rw [wI_ne g4, wI_ne (Or.inl g3), wI_ne (Or.inl g2), wI_ne (Or.inl g1)]
  refine ⟨⟨by rw [e _ _ (by omega) (by omega) (by omega) (by omega)]; exact q1, by rw [e _ _ (by omega) (by omega) (by omega) (by omega)]; exact q2, fun k hk => by rw [e _ _ (by omega) (by omega) (by omega) (by omega)]; exact q3 k hk, fun t ht => by rw [e _ _ (by omega) (by omega) (by omega) (by omega)]; exact q4 t ht, by rw [e _ _ (by omega) (by omega) (by omega) (by omega)]; exact q5, ⟨z' + 1, by omega, wI_at _ _ _ _, fun i hi => ?_⟩, by rw [e _ _ (by omega) (by omega) (by omega) (by omega)]; exact q7⟩, fun a ha => ?_⟩
  · rw [wI_ne (by omega), wI_ne (by omega)]
    rcases Nat.lt_or_ge i z' with g | g
    · rw [wI_ne (by omega), wI_ne (by omega)]
      exact r3 i g
    · have e2 : i = z' := by omega
      rw [e2, wI_at]
      exact hd
  · rw [← q8 a ha]
    funext b
    exact e a b (by omega) (by omega) (by omega) (by omega)
/-- what a case that compares nothing asks -/
theorem inv_hit {α : Type} {k : Int32} {I1 : qJ} {L1 : Nat → Nat → Int64} {Q : qJ → (Nat → Nat → Int64) → α → qJ → (Nat → Nat → Int64) → Prop} (h1 : Inv I1) (g : ∀ I1 L1, Inv I1 → ∃ (b9 : α) (I2 : qJ) (L2 : Nat → Nat → Int64), Q I1 L1 b9 I2 L2 ∧ Inv I2) : ∃ (k9 : Int32) (I3 : Nat → Nat → Int32) (L3 : Nat → Nat → Int64) (b9 : α) (I2 : Nat → Nat → Int32) (L2 : Nat → Nat → Int64), some (Value.int k9) = some (Value.int k) ∧ 77 = 77 ∧ fm I3 L3 = fm I1 L1 ∧ Q I3 L3 b9 I2 L2 ∧ Inv I2 := by
  obtain ⟨b9, I2, L2, q1, q2⟩ := g I1 L1 h1
  exact ⟨k, I1, L1, b9, I2, L2, rfl, rfl, rfl, q1, q2⟩
end IV
theorem v_where (l : Launch) {I : qJ} {L : Nat → Nat → Int64} (h : Inv I)  : ∃ (b9 : Int32) (I2 : qJ) (L2 : Nat → Nat → Int64), qSp l y_md_where b_md_where 1 (some .int) false 1 0 0 [.ref 47] 77 (fm I L) (qD (some (.int b9)) 77 (fm I2 L2)) ∧ Inv I2 := by
  obtain ⟨⟨T, hT2, hT⟩, ⟨ne, hne2, hne⟩, hE, hTz, ⟨z, hz2, hz⟩, ⟨zp, hzp2, hzp, hmp⟩, ⟨n, hn2, hn⟩⟩ := id h.2
  have hS := MF_self h.2
  refine ⟨_, _, _, s_md_where l false I L , Inv_M h ?_⟩
  exact MF_w hS (by omega)
theorem v_use (l : Launch) {I : qJ} {L : Nat → Nat → Int64} (h : Inv I) (t u : Int32) : ∃ (b9 : Int64) (I2 : qJ) (L2 : Nat → Nat → Int64), qSp l y_md_use b_md_use 3 (some .long) false 3 0 0 [.ref 47, .int t, .int u] 77 (fm I L) (qD (some (.long b9)) 77 (fm I2 L2)) ∧ Inv I2 := by
  obtain ⟨⟨T, hT2, hT⟩, ⟨ne, hne2, hne⟩, hE, hTz, ⟨z, hz2, hz⟩, ⟨zp, hzp2, hzp, hmp⟩, ⟨n, hn2, hn⟩⟩ := id h.2
  have hS := MF_self h.2
  refine ⟨_, _, _, s_md_use l false I L (mT_of h.2) t u, Inv_M h ?_⟩
  exact MF_w hS (by omega)
theorem v_subscribe (l : Launch) {I : qJ} {L : Nat → Nat → Int64} (h : Inv I) (c t : Int32) : ∃ (b9 : Int32) (I2 : qJ) (L2 : Nat → Nat → Int64), qSp l y_md_subscribe b_md_subscribe 4 (some .int) false 2 0 0 [.ref 47, .int c, .int t] 77 (fm I L) (qD (some (.int b9)) 77 (fm I2 L2)) ∧ Inv I2 := by
  obtain ⟨⟨T, hT2, hT⟩, ⟨ne, hne2, hne⟩, hE, hTz, ⟨z, hz2, hz⟩, ⟨zp, hzp2, hzp, hmp⟩, ⟨n, hn2, hn⟩⟩ := id h.2
  have hS := MF_self h.2
  refine ⟨_, _, _, s_md_subscribe l false I L c t, Inv_M h ?_⟩
  split
  · exact MF_w (MF_w (MF_w hS (by omega)) (by omega)) (by omega)
  · exact MF_w hS (by omega)
theorem v_pause (l : Launch) {I : qJ} {L : Nat → Nat → Int64} (h : Inv I) (c on : Int32) : ∃ (b9 : Int32) (I2 : qJ) (L2 : Nat → Nat → Int64), qSp l y_md_pause b_md_pause 4 (some .boolean) false 2 0 0 [.ref 47, .int c, .int on] 77 (fm I L) (qD (some (.int b9)) 77 (fm I2 L2)) ∧ Inv I2 := by
  obtain ⟨⟨T, hT2, hT⟩, ⟨ne, hne2, hne⟩, hE, hTz, ⟨z, hz2, hz⟩, ⟨zp, hzp2, hzp, hmp⟩, ⟨n, hn2, hn⟩⟩ := id h.2
  have hS := MF_self h.2
  refine ⟨_, _, _, s_md_pause l false I L c on, Inv_M h ?_⟩
  split
  · split
    · exact MF_w hS (by omega)
    · exact MF_w (MF_w hS (by omega)) (by omega)
  · exact MF_w hS (by omega)
theorem v_event (l : Launch) {I : qJ} {L : Nat → Nat → Int64} (h : Inv I) (key c day u : Int32) : ∃ (b9 : Int32) (I2 : qJ) (L2 : Nat → Nat → Int64), qSp l y_md_event b_md_event 6 (some .int) false 2 0 0 [.ref 47, .int key, .int c, .int day, .int u] 77 (fm I L) (qD (some (.int b9)) 77 (fm I2 L2)) ∧ Inv I2 := by
  obtain ⟨⟨T, hT2, hT⟩, ⟨ne, hne2, hne⟩, hE, hTz, ⟨z, hz2, hz⟩, ⟨zp, hzp2, hzp, hmp⟩, ⟨n, hn2, hn⟩⟩ := id h.2
  have hS := MF_self h.2
  refine ⟨_, _, _, s_md_event l false I L ne T hne hne2 hT key c day u, Inv_M h ?_⟩
  split
  · split
    · rename_i hd
      split
      · exact MF_w hS (by omega)
      · split
        · exact MF_w (MF_w hS (by omega)) (by omega)
        · rename_i h80
          exact MF_gen (MF_w (MF_gen (MF_w (MF_w (MF_w hS (by omega)) (by omega)) (by omega)) (by omega) (by omega) (by omega) (by omega) (by omega) (fun _ => day_b hT2 hd.1 hd.2.2) (by omega) (by omega) (by omega)) (by omega)) (by omega) (by omega) (by omega) (by omega) (fun _ _ => ⟨ne + 1, by omega, rfl⟩) (by omega) (by omega) (by omega) (by omega)
    · exact MF_w hS (by omega)
  · exact MF_w hS (by omega)
theorem v_plan (l : Launch) {I : qJ} {L : Nat → Nat → Int64} (h : Inv I) (c : Int32) (a : Int64) (d : Int32) : ∃ (b9 : Int32) (I2 : qJ) (L2 : Nat → Nat → Int64), qSp l y_md_plan b_md_plan 5 (some .int) false 2 0 0 [.ref 47, .int c, .long a, .int d] 77 (fm I L) (qD (some (.int b9)) 77 (fm I2 L2)) ∧ Inv I2 := by
  obtain ⟨⟨T, hT2, hT⟩, ⟨ne, hne2, hne⟩, hE, hTz, ⟨z, hz2, hz⟩, ⟨zp, hzp2, hzp, hmp⟩, ⟨n, hn2, hn⟩⟩ := id h.2
  have hS := MF_self h.2
  refine ⟨_, _, _, s_md_plan l false I L zp hzp hzp2 c a d, Inv_M h ?_⟩
  split
  · rename_i hc
    split
    · exact MF_w hS (by omega)
    · rename_i h10
      exact MF_plan (MF_w hS (by omega)) ((wI_ne (by omega)).trans hzp) (by omega) (one_le hc.2.2)
  · exact MF_w hS (by omega)
theorem v_pay (l : Launch) {I : qJ} {L : Nat → Nat → Int64} (h : Inv I) (c : Int32) (a : Int64) : ∃ (b9 : Int64) (I2 : qJ) (L2 : Nat → Nat → Int64), qSp l y_md_pay b_md_pay 6 (some .long) false 4 0 0 [.ref 47, .int c, .long a] 77 (fm I L) (qD (some (.long b9)) 77 (fm I2 L2)) ∧ Inv I2 := by
  obtain ⟨⟨T, hT2, hT⟩, ⟨ne, hne2, hne⟩, hE, hTz, ⟨z, hz2, hz⟩, ⟨zp, hzp2, hzp, hmp⟩, ⟨n, hn2, hn⟩⟩ := id h.2
  have hS := MF_self h.2
  refine ⟨_, _, _, s_md_pay l false I L z hz hz2 c a, Inv_M h ?_⟩
  split
  · exact MF_setI (MF_w hS (by omega))
  · exact MF_w hS (by omega)
theorem v_tick (l : Launch) {I : qJ} {L : Nat → Nat → Int64} (h : Inv I) (d : Int32) : ∃ (b9 : Int32) (I2 : qJ) (L2 : Nat → Nat → Int64), qSp l y_md_tick b_md_tick 4 (some .int) false 3 0 0 [.ref 47, .int d] 77 (fm I L) (qD (some (.int b9)) 77 (fm I2 L2)) ∧ Inv I2 := by
  obtain ⟨⟨T, hT2, hT⟩, ⟨ne, hne2, hne⟩, hE, hTz, ⟨z, hz2, hz⟩, ⟨zp, hzp2, hzp, hmp⟩, ⟨n, hn2, hn⟩⟩ := id h.2
  have hS := MF_self h.2
  refine ⟨_, _, _, s_md_tick l false I L z T hz hz2 hT hT2 d, Inv_M h ?_⟩
  split
  · rename_i hd
    split
    · exact MF_w hS (by omega)
    · rename_i h4
      exact MF_tk (MF_w hS (by omega)) _ (tick_b hT2 ((in_D d).mp hd) h4)
  · exact MF_w hS (by omega)
theorem v_count (l : Launch) {I : qJ} {L : Nat → Nat → Int64} (h : Inv I) (w : Int32) : ∃ (b9 : Int32) (I2 : qJ) (L2 : Nat → Nat → Int64), qSp l y_md_count b_md_count 2 (some .int) false 2 0 0 [.ref 47, .int w] 77 (fm I L) (qD (some (.int b9)) 77 (fm I2 L2)) ∧ Inv I2 := by
  obtain ⟨⟨T, hT2, hT⟩, ⟨ne, hne2, hne⟩, hE, hTz, ⟨z, hz2, hz⟩, ⟨zp, hzp2, hzp, hmp⟩, ⟨n, hn2, hn⟩⟩ := id h.2
  have hS := MF_self h.2
  refine ⟨_, _, _, s_md_count l false I L w, Inv_M h ?_⟩
  exact MF_w hS (by omega)
theorem v_invoice (l : Launch) {I : qJ} {L : Nat → Nat → Int64} (h : Inv I) (k w : Int32) : ∃ (b9 : Int64) (I2 : qJ) (L2 : Nat → Nat → Int64), qSp l y_md_invoice b_md_invoice 3 (some .long) false 2 0 0 [.ref 47, .int k, .int w] 77 (fm I L) (qD (some (.long b9)) 77 (fm I2 L2)) ∧ Inv I2 := by
  obtain ⟨⟨T, hT2, hT⟩, ⟨ne, hne2, hne⟩, hE, hTz, ⟨z, hz2, hz⟩, ⟨zp, hzp2, hzp, hmp⟩, ⟨n, hn2, hn⟩⟩ := id h.2
  have hS := MF_self h.2
  refine ⟨_, _, _, s_md_invoice l false I L z hz hz2 k w, Inv_M h ?_⟩
  exact MF_w hS (by omega)
theorem v_charge (l : Launch) {I : qJ} {L : Nat → Nat → Int64} (h : Inv I) (c p : Int32) : ∃ (b9 : Int64) (I2 : qJ) (L2 : Nat → Nat → Int64), qSp l y_md_charge b_md_charge 3 (some .long) false 5 0 0 [.ref 47, .int c, .int p] 77 (fm I L) (qD (some (.long b9)) 77 (fm I2 L2)) ∧ Inv I2 := by
  obtain ⟨⟨T, hT2, hT⟩, ⟨ne, hne2, hne⟩, hE, hTz, ⟨z, hz2, hz⟩, ⟨zp, hzp2, hzp, hmp⟩, ⟨n, hn2, hn⟩⟩ := id h.2
  have hS := MF_self h.2
  refine ⟨_, _, _, s_md_charge l false I L T ne hT hT2 hne hne2 (mE_of h.2 hne2) (mT_of h.2) c p, Inv_M h ?_⟩
  exact MF_w hS (by omega)
theorem v_told (l : Launch) {I : qJ} {L : Nat → Nat → Int64} (h : Inv I) (c w : Int32) : ∃ (b9 : Int64) (I2 : qJ) (L2 : Nat → Nat → Int64), qSp l y_md_told b_md_told 6 (some .long) false 2 0 0 [.ref 47, .int c, .int w] 77 (fm I L) (qD (some (.long b9)) 77 (fm I2 L2)) ∧ Inv I2 := by
  obtain ⟨⟨T, hT2, hT⟩, ⟨ne, hne2, hne⟩, hE, hTz, ⟨z, hz2, hz⟩, ⟨zp, hzp2, hzp, hmp⟩, ⟨n, hn2, hn⟩⟩ := id h.2
  have hS := MF_self h.2
  refine ⟨_, _, _, s_md_told l false I L z zp hz hz2 hzp hzp2 hmp c w, Inv_M h ?_⟩
  exact MF_w hS (by omega)
theorem v_books (l : Launch) {I : qJ} {L : Nat → Nat → Int64} (h : Inv I) (w : Int32) : ∃ (b9 : Int64) (I2 : qJ) (L2 : Nat → Nat → Int64), qSp l y_md_books b_md_books 5 (some .long) false 2 0 0 [.ref 47, .int w] 77 (fm I L) (qD (some (.long b9)) 77 (fm I2 L2)) ∧ Inv I2 := by
  obtain ⟨⟨T, hT2, hT⟩, ⟨ne, hne2, hne⟩, hE, hTz, ⟨z, hz2, hz⟩, ⟨zp, hzp2, hzp, hmp⟩, ⟨n, hn2, hn⟩⟩ := id h.2
  have hS := MF_self h.2
  refine ⟨_, _, _, s_md_books l false I L z zp hz hz2 hzp hzp2 hmp w, Inv_M h ?_⟩
  exact MF_w hS (by omega)
theorem v_text (l : Launch) {I : qJ} {L : Nat → Nat → Int64} (h : Inv I) (w : Int64) : ∃ (b9 : Int32) (I2 : qJ) (L2 : Nat → Nat → Int64), qSp l y_md_text b_md_text 6 (some .int) false 2 0 0 [.ref 47, .long w] 77 (fm I L) (qD (some (.int b9)) 77 (fm I2 L2)) ∧ Inv I2 := by
  obtain ⟨⟨T, hT2, hT⟩, ⟨ne, hne2, hne⟩, hE, hTz, ⟨z, hz2, hz⟩, ⟨zp, hzp2, hzp, hmp⟩, ⟨n, hn2, hn⟩⟩ := id h.2
  have hS := MF_self h.2
  refine ⟨_, _, _, s_md_text l false I L n hn hn2 w, Inv_M h ?_⟩
  split
  · exact MF_w hS (by omega)
  split
  · exact MF_w hS (by omega)
  · rename_i h60
    exact MF_ap (MF_w hS (by omega)) (by rw [m_ln_8]; omega) 8 (Nat.le_refl _)
theorem v_tariff (l : Launch) {I : qJ} {L : Nat → Nat → Int64} (h : Inv I) (t : Int32) : ∃ (b9 : Int32) (I2 : qJ) (L2 : Nat → Nat → Int64), qSp l y_md_tariff b_md_tariff 3 (some .int) false 6 0 0 [.ref 47, .int t] 77 (fm I L) (qD (some (.int b9)) 77 (fm I2 L2)) ∧ Inv I2 := by
  obtain ⟨⟨T, hT2, hT⟩, ⟨ne, hne2, hne⟩, hE, hTz, ⟨z, hz2, hz⟩, ⟨zp, hzp2, hzp, hmp⟩, ⟨n, hn2, hn⟩⟩ := id h.2
  have hS := MF_self h.2
  refine ⟨_, _, _, s_md_tariff l false I L n hn hn2 t, Inv_M h ?_⟩
  exact MF_tf hS hn hn2 t
theorem v_run (l : Launch) {I : qJ} {L : Nat → Nat → Int64} (h : Inv I) : ∃ (b9 : Int32) (I2 : qJ) (L2 : Nat → Nat → Int64), qSp l y_md_run b_md_run 9 (some .int) false 6 0 0 [.ref 47] 77 (fm I L) (qD (some (.int b9)) 77 (fm I2 L2)) ∧ Inv I2 := by
  obtain ⟨⟨T, hT2, hT⟩, ⟨ne, hne2, hne⟩, hE, hTz, ⟨z, hz2, hz⟩, -, -⟩ := id h.2
  obtain ⟨pe, p1, p2, p3⟩ := pe_ex (fun P => m_first (P + 1) ≤ nI T) 14
  exact ⟨_, _, _, s_md_run l false I L T ne pe ⟨hT, hne, mE_of h.2 hne2, mT_of h.2, z, hz2, hz⟩ hT2 hne2 p1 p2 (fun q => Int32.not_le.mp (p3 q)), Inv_M h (MF_rc (s := (wI I 47 0 0, L)) (MF_w (MF_self h.2) (by omega)) 5)⟩
