/-! the law: its head, its loop's head, its switch; from the entry -/
theorem qR_fn {K : qK} {E : qE} {X : qXC} {pc : Nat} {lv : List (Nat × Value)} {st : List Value} {n kc ks : Nat} {f g : Nat → va_E} (h : ∀ k, k < n → f k = g k) (k : qR K E X pc lv st n kc ks g) : qR K E X pc lv st n kc ks f := by
  intro p e R s m args below meth c H locs ls Q z ex D D3 C hP hS hl hE
  rw [qw_congr (z := z) (ex := ex) (D3 := D3) h] at hP
  exact k p e R s m args below meth c H locs ls Q z ex D D3 C hP hS hl hE
set_option maxRecDepth 10000 in
theorem lw_head {l : Launch} {b Ln : Nat} {xs : Nat → Int32} {E : qE} {X : qXC} {f : Nat → va_E} (k : qR (qKL l b Ln xs) E X 23 (lwV 0) [] 77 77 5632 (fm I0 L0)) : qR (qKL l b Ln xs) E X 0 [(0, .ref 77)] [] 0 0 0 f := by
  refine qr_new (ci := 6) (ty9 := t_bf) (fs := [.null, .null, .null, .null, .null, .null, .null, .null, .null, .int 0, .long 0]) (pc := 0) d_lw_law_0 rfl i_bf t_bf_ok cl_lw_8 in_bf ii_bf dv_bf nr_bf ⟨rfl, rfl⟩ (by decide) (Nat.le_of_ble_eq_true rfl) (Nat.le_of_ble_eq_true rfl) ?_
  refine qr_dup (pc := 3) d_lw_law_3 rfl ?_
  refine qr_callI (q := 0) (As := []) (pc := 4) d_lw_law_4 lk_lw_71 im_bf_init rfl (s_bf_init _ _ rfl) rfl rfl (Nat.le_of_ble_eq_true rfl) (Nat.le_of_ble_eq_true rfl) (Nat.le_of_ble_eq_true rfl) (Nat.le_of_ble_eq_true rfl) (Nat.le_of_ble_eq_true rfl) (fun _ => ⟨rfl, rfl, Or.inr (Nat.le_of_ble_eq_true rfl)⟩) (fun v n9 f9 hE => ?_)
  obtain ⟨rfl, rfl, hw1⟩ := hE
  refine qr_astore_n (lv' := [(1, .ref 0), (0, .ref 77)]) (pc := 7) d_lw_law_7 rfl (Nat.le_of_ble_eq_true rfl) rfl ?_
  refine qr_new (ci := 7) (ty9 := t_md) (fs := [.int 0, .int 0, .int 0, .null, .int 0, .null, .null, .null, .null, .null, .null, .null, .null, .null, .null, .null, .null, .null, .null, .null, .null, .null, .null, .int 0, .null, .null, .null, .null, .null, .int 0, .null, .null, .null, .null, .int 0, .long 0, .int 0, .int 0, .int 0]) (pc := 8) d_lw_law_8 rfl i_md t_md_ok cl_lw_72 in_md ii_md dv_md nr_md ⟨rfl, rfl⟩ (by decide) (Nat.le_of_ble_eq_true rfl) (Nat.le_of_ble_eq_true rfl) ?_
  refine qr_dup (pc := 11) d_lw_law_11 rfl ?_
  refine qr_callI (q := 47) (As := []) (pc := 12) d_lw_law_12 lk_lw_74 im_md_init rfl (s_md_init _ _ rfl) rfl rfl (Nat.le_of_ble_eq_true rfl) (Nat.le_of_ble_eq_true rfl) (Nat.le_of_ble_eq_true rfl) (Nat.le_of_ble_eq_true rfl) (Nat.le_of_ble_eq_true rfl) (fun _ => ⟨rfl, rfl, Or.inr (Nat.le_of_ble_eq_true rfl)⟩) (fun v n9 f8 hE => ?_)
  obtain ⟨rfl, rfl, hw2, hw3⟩ := hE
  refine qr_astore_n (lv' := [(2, .ref 47), (1, .ref 0), (0, .ref 77)]) (pc := 15) d_lw_law_15 rfl (Nat.le_of_ble_eq_true rfl) rfl ?_
  refine qr_iconst (v := 1) (pc := 16) d_lw_law_16 (by decide) ?_
  refine qr_newa (t := 1) (len := 1) (ty9 := .long) (a := (1, .inr (.inl (fun _ => 0)))) (pc := 17) d_lw_law_17 rfl rfl ac_long (by decide) (by decide) (by decide) (fun Cn h => nomatch h) (fun cA => rfl) (fun z ex => rfl) ⟨rfl, rfl⟩ (by decide) (Nat.le_of_ble_eq_true rfl) (Nat.le_of_ble_eq_true rfl) ?_
  refine qr_astore_n (lv' := [(3, .ref 76), (2, .ref 47), (1, .ref 0), (0, .ref 77)]) (pc := 19) d_lw_law_19 rfl (Nat.le_of_ble_eq_true rfl) rfl ?_
  refine qr_iconst (v := 0) (pc := 20) d_lw_law_20 (by decide) ?_
  refine qr_istore (lv' := [(4, .int 0), (3, .ref 76), (2, .ref 47), (1, .ref 0), (0, .ref 77)]) (pc := 21) d_lw_law_21 (Nat.le_of_ble_eq_true rfl) rfl ?_
  refine qR_fn (g := fm I0 L0) (fun k hk => ?_) ?_
  · by_cases h76 : k = 76
    · subst h76
      rfl
    · have e1 : ∀ (f : Nat → va_E) (e : va_E), va_up f 76 e k = f k := fun f e => if_neg h76
      rw [e1]
      by_cases h47 : k < 47
      · rw [hw2 k h47]
        have e2 : ∀ (f : Nat → va_E) (e : va_E), va_up f 47 e k = f k := fun f e => if_neg (by omega)
        rw [e2]
        exact hw1 k (Nat.zero_le k) h47
      · exact hw3 k (by omega) (by omega)
  · refine qR_sub (lv' := lwV 0) [4, 3, 2, 1, 0] ?_ k
    show [(0, Value.ref 77), (1, .ref 0), (2, .ref 47), (3, .ref 76), (4, .int 0)] = _
    rw [lwV, nI_0]
theorem lw_cmp {a Ln : Nat} (ha : a < 2 ^ 30) (hLn : Ln < 2 ^ 30) : (nI Ln - 5 < nI a) ↔ Ln < a + 5 := by
  have h1 : (nI Ln - 5).toInt = (Ln : Int) - 5 := by
    have h5 : (5 : Int32).toInt = 5 := by decide
    rw [Int32.toInt_sub, nI_toInt (by omega), h5]
    apply Int.bmod_eq_of_le <;> omega
  rw [Int32.lt_iff_toInt_lt, h1, nI_toInt (by omega)]
  omega
/-- the loop's head -/
theorem lw_hd {l : Launch} {b Ln a kc ks : Nat} {xs : Nat → Int32} {E : qE} {X : qXC} {f : Nat → va_E} (ha : a < 2 ^ 30) (hLn : Ln < 2 ^ 30) (hkc : kc ≤ 601024) (hks : ks ≤ 7293034) (hE : Ln < a + 5 → E (some (.int 1)) 77 f) (kin : a + 5 ≤ Ln → qR (qKL l b Ln xs) E X 32 (lwV a) [] 77 kc ks f) : qR (qKL l b Ln xs) E X 23 (lwV a) [] 77 kc ks f := by
  refine qr_iload (pc := 23) d_lw_law_23 rfl ?_
  refine qr_aload_n (pc := 25) d_lw_law_25 rfl rfl ?_
  refine qr_slen (v := nI Ln) (fun _ _ _ _ h => h) (pc := 26) d_lw_law_26 rfl ?_
  refine qr_iconst (v := 5) (pc := 27) d_lw_law_27 (by decide) ?_
  refine qr_isub (pc := 28) d_lw_law_28 ?_
  refine qr_icmp_gt (tgt := 840) (pc := 29) d_lw_law_29 (by decide) (fun h => ?_) (fun h => ?_)
  · refine qr_iconst (v := 1) (pc := 840) d_lw_law_840 (by decide) ?_
    exact qr_iret (pc := 841) d_lw_law_841 rfl rfl (hE ((lw_cmp ha hLn).mp h)) hkc hks
  · exact kin (Nat.not_lt.mp (fun q => h ((lw_cmp ha hLn).mpr q)))
/-- the step to the next call -/
theorem lw_nx {l : Launch} {b Ln a kc ks : Nat} {xs : Nat → Int32} {E : qE} {X : qXC} {f : Nat → va_E} (k : qR (qKL l b Ln xs) E X 23 (lwV (a + 5)) [] 77 kc ks f) : qR (qKL l b Ln xs) E X 834 (lwV a) [] 77 kc ks f := by
  refine qr_iinc (v := nI (a + 5)) (lv' := [(4, .int (nI (a + 5))), (0, .ref 77), (1, .ref 0), (2, .ref 47), (3, .ref 76)]) (pc := 834) d_lw_law_834 rfl (nI_p5 a) (Nat.le_of_ble_eq_true rfl) rfl ?_
  refine qr_goto (tgt := 23) (pc := 837) d_lw_law_837 (by decide) ?_
  exact qR_sub (lv' := lwV (a + 5)) [1, 2, 3, 4, 0] rfl k
/-- the switch -/
theorem lw_sw {l : Launch} {b Ln a kc ks : Nat} {xs : Nat → Int32} {E : qE} {X : qXC} {f : Nat → va_E} (ha : a + 5 ≤ Ln) (hLn : Ln < 2 ^ 31)
    (k0 : qR (qKL l b Ln xs) E X 120 (lwV a) [] 77 kc ks f)
    (k1 : qR (qKL l b Ln xs) E X 180 (lwV a) [] 77 kc ks f)
    (k2 : qR (qKL l b Ln xs) E X 208 (lwV a) [] 77 kc ks f)
    (k3 : qR (qKL l b Ln xs) E X 221 (lwV a) [] 77 kc ks f)
    (k4 : qR (qKL l b Ln xs) E X 261 (lwV a) [] 77 kc ks f)
    (k5 : qR (qKL l b Ln xs) E X 301 (lwV a) [] 77 kc ks f)
    (k6 : qR (qKL l b Ln xs) E X 357 (lwV a) [] 77 kc ks f)
    (k7 : qR (qKL l b Ln xs) E X 421 (lwV a) [] 77 kc ks f)
    (k8 : qR (qKL l b Ln xs) E X 449 (lwV a) [] 77 kc ks f)
    (k9 : qR (qKL l b Ln xs) E X 462 (lwV a) [] 77 kc ks f)
    (k10 : qR (qKL l b Ln xs) E X 534 (lwV a) [] 77 kc ks f)
    (k11 : qR (qKL l b Ln xs) E X 618 (lwV a) [] 77 kc ks f)
    (k12 : qR (qKL l b Ln xs) E X 658 (lwV a) [] 77 kc ks f)
    (k13 : qR (qKL l b Ln xs) E X 698 (lwV a) [] 77 kc ks f)
    (k14 : qR (qKL l b Ln xs) E X 738 (lwV a) [] 77 kc ks f)
    (k15 : qR (qKL l b Ln xs) E X 766 (lwV a) [] 77 kc ks f)
    (k16 : qR (qKL l b Ln xs) E X 806 (lwV a) [] 77 kc ks f)
    (kd : qR (qKL l b Ln xs) E X 834 (lwV a) [] 77 kc ks f) : qR (qKL l b Ln xs) E X 32 (lwV a) [] 77 kc ks f := by
  refine qr_aload_n (pc := 32) d_lw_law_32 rfl rfl ?_
  refine qr_iload (pc := 33) d_lw_law_33 rfl ?_
  refine qr_sldN (j := a) (fun _ _ _ _ h => h) (pc := 35) d_lw_law_35 (by omega) hLn ?_
  refine qr_bipush (v := 31) (pc := 36) d_lw_law_36 (by decide) ?_
  refine qr_iand (pc := 38) d_lw_law_38 ?_
  generalize hsw : xs a &&& 31 = sw
  by_cases hs0 : sw = 0
  · subst hs0
    exact qr_tableIn (x := 0) (off := 81) (tgt := 120) (pc := 39) d_lw_law_39 (by decide) (by decide) (by decide) (by decide) k0
  by_cases hs1 : sw = 1
  · subst hs1
    exact qr_tableIn (x := 1) (off := 141) (tgt := 180) (pc := 39) d_lw_law_39 (by decide) (by decide) (by decide) (by decide) k1
  by_cases hs2 : sw = 2
  · subst hs2
    exact qr_tableIn (x := 2) (off := 169) (tgt := 208) (pc := 39) d_lw_law_39 (by decide) (by decide) (by decide) (by decide) k2
  by_cases hs3 : sw = 3
  · subst hs3
    exact qr_tableIn (x := 3) (off := 182) (tgt := 221) (pc := 39) d_lw_law_39 (by decide) (by decide) (by decide) (by decide) k3
  by_cases hs4 : sw = 4
  · subst hs4
    exact qr_tableIn (x := 4) (off := 222) (tgt := 261) (pc := 39) d_lw_law_39 (by decide) (by decide) (by decide) (by decide) k4
  by_cases hs5 : sw = 5
  · subst hs5
    exact qr_tableIn (x := 5) (off := 262) (tgt := 301) (pc := 39) d_lw_law_39 (by decide) (by decide) (by decide) (by decide) k5
  by_cases hs6 : sw = 6
  · subst hs6
    exact qr_tableIn (x := 6) (off := 318) (tgt := 357) (pc := 39) d_lw_law_39 (by decide) (by decide) (by decide) (by decide) k6
  by_cases hs7 : sw = 7
  · subst hs7
    exact qr_tableIn (x := 7) (off := 382) (tgt := 421) (pc := 39) d_lw_law_39 (by decide) (by decide) (by decide) (by decide) k7
  by_cases hs8 : sw = 8
  · subst hs8
    exact qr_tableIn (x := 8) (off := 410) (tgt := 449) (pc := 39) d_lw_law_39 (by decide) (by decide) (by decide) (by decide) k8
  by_cases hs9 : sw = 9
  · subst hs9
    exact qr_tableIn (x := 9) (off := 423) (tgt := 462) (pc := 39) d_lw_law_39 (by decide) (by decide) (by decide) (by decide) k9
  by_cases hs10 : sw = 10
  · subst hs10
    exact qr_tableIn (x := 10) (off := 495) (tgt := 534) (pc := 39) d_lw_law_39 (by decide) (by decide) (by decide) (by decide) k10
  by_cases hs11 : sw = 11
  · subst hs11
    exact qr_tableIn (x := 11) (off := 579) (tgt := 618) (pc := 39) d_lw_law_39 (by decide) (by decide) (by decide) (by decide) k11
  by_cases hs12 : sw = 12
  · subst hs12
    exact qr_tableIn (x := 12) (off := 619) (tgt := 658) (pc := 39) d_lw_law_39 (by decide) (by decide) (by decide) (by decide) k12
  by_cases hs13 : sw = 13
  · subst hs13
    exact qr_tableIn (x := 13) (off := 659) (tgt := 698) (pc := 39) d_lw_law_39 (by decide) (by decide) (by decide) (by decide) k13
  by_cases hs14 : sw = 14
  · subst hs14
    exact qr_tableIn (x := 14) (off := 699) (tgt := 738) (pc := 39) d_lw_law_39 (by decide) (by decide) (by decide) (by decide) k14
  by_cases hs15 : sw = 15
  · subst hs15
    exact qr_tableIn (x := 15) (off := 727) (tgt := 766) (pc := 39) d_lw_law_39 (by decide) (by decide) (by decide) (by decide) k15
  by_cases hs16 : sw = 16
  · subst hs16
    exact qr_tableIn (x := 16) (off := 767) (tgt := 806) (pc := 39) d_lw_law_39 (by decide) (by decide) (by decide) (by decide) k16
  have hout : sw.toInt < 0 ∨ 16 < sw.toInt := by
    rcases (show sw.toInt < 0 ∨ 16 < sw.toInt ∨ sw.toInt = 0 ∨ sw.toInt = 1 ∨ sw.toInt = 2 ∨ sw.toInt = 3 ∨ sw.toInt = 4 ∨ sw.toInt = 5 ∨ sw.toInt = 6 ∨ sw.toInt = 7 ∨ sw.toInt = 8 ∨ sw.toInt = 9 ∨ sw.toInt = 10 ∨ sw.toInt = 11 ∨ sw.toInt = 12 ∨ sw.toInt = 13 ∨ sw.toInt = 14 ∨ sw.toInt = 15 ∨ sw.toInt = 16 by omega) with h9 | h9 | h9 | h9 | h9 | h9 | h9 | h9 | h9 | h9 | h9 | h9 | h9 | h9 | h9 | h9 | h9 | h9 | h9
    · exact Or.inl h9
    · exact Or.inr h9
    · exact absurd (Int32.toInt_inj.mp (h9.trans (by decide))) hs0
    · exact absurd (Int32.toInt_inj.mp (h9.trans (by decide))) hs1
    · exact absurd (Int32.toInt_inj.mp (h9.trans (by decide))) hs2
    · exact absurd (Int32.toInt_inj.mp (h9.trans (by decide))) hs3
    · exact absurd (Int32.toInt_inj.mp (h9.trans (by decide))) hs4
    · exact absurd (Int32.toInt_inj.mp (h9.trans (by decide))) hs5
    · exact absurd (Int32.toInt_inj.mp (h9.trans (by decide))) hs6
    · exact absurd (Int32.toInt_inj.mp (h9.trans (by decide))) hs7
    · exact absurd (Int32.toInt_inj.mp (h9.trans (by decide))) hs8
    · exact absurd (Int32.toInt_inj.mp (h9.trans (by decide))) hs9
    · exact absurd (Int32.toInt_inj.mp (h9.trans (by decide))) hs10
    · exact absurd (Int32.toInt_inj.mp (h9.trans (by decide))) hs11
    · exact absurd (Int32.toInt_inj.mp (h9.trans (by decide))) hs12
    · exact absurd (Int32.toInt_inj.mp (h9.trans (by decide))) hs13
    · exact absurd (Int32.toInt_inj.mp (h9.trans (by decide))) hs14
    · exact absurd (Int32.toInt_inj.mp (h9.trans (by decide))) hs15
    · exact absurd (Int32.toInt_inj.mp (h9.trans (by decide))) hs16
  exact qr_tableOut (tgt := 834) (pc := 39) d_lw_law_39 hout (by decide) kd
/-- more room is as good -/
theorem W_room {p : Program} {l : Launch} {e : Env} {R R' : Room} {s : State} {m : MethodId} {args : Array Value} {below : List Frame} {meth : Method} {c : Code} {H : Heap} {locs : List Loc} {cells slots : Nat} {Q : State → Prop} {g : JFrame} (h1 : R'.frames ≤ R.frames) (h2 : R'.cells ≤ R.cells) (h3 : R'.slots ≤ R.slots) (h4 : R'.locals ≤ R.locals)
    (k : W p l e R' s m args below meth c H locs cells slots Q g) : W p l e R s m args below meth c H locs cells slots Q g := by
  intro T hT X
  have h0 := X.room
  simp only [State.hasRoom, Bool.and_eq_true, decide_eq_true_eq] at h0
  obtain ⟨⟨⟨⟨a1, a2, a3, a4, a5, a6⟩, a7⟩, a8⟩, a9⟩ := h0
  have hr : s.hasRoom e.platform R' = true := by
    simp only [State.hasRoom, Bool.and_eq_true, decide_eq_true_eq]
    exact ⟨⟨⟨⟨by omega, by omega, by omega, by omega, by omega, a6⟩, by omega⟩, by omega⟩, a9⟩
  exact k T hT { X with room := hr }
