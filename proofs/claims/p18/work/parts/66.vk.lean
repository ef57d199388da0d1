/-! both sides, held together -/
abbrev rLg := Nat → Nat → Int64
def r_tO (J : qJ) : Nat := (J 0 9).toNatClampNeg
def r_RC (J M : qJ) (K N : rLg) (c : Nat) : Prop := J (37 + 2 * c) 1 = M 58 c ∧ J (37 + 2 * c) 2 = M 59 c ∧ J (37 + 2 * c) 3 = M 60 c ∧ K (37 + 2 * c) 4 = N 61 c ∧ (-1 ≤ (J (37 + 2 * c) 1).toInt ∧ (J (37 + 2 * c) 1).toInt ≤ 2) ∧ 0 ≤ (J (37 + 2 * c) 3).toInt ∧ (J (37 + 2 * c) 3).toInt ≤ 3
def r_RH (J M : qJ) : Prop := ∀ c, c < 5 → ∀ d, d < r_tO J → J (38 + 2 * c) d = M 62 (401 * c + d) - 1 ∧ -1 ≤ (J (38 + 2 * c) d).toInt ∧ (J (38 + 2 * c) d).toInt ≤ 2
def r_RE (J M : qJ) : Prop := J 9 4 = M 47 23 ∧ J 10 = M 63 ∧ J 11 = M 64 ∧ J 12 = M 65 ∧ J 13 = M 66 ∧ ∀ e, e < (J 9 4).toNatClampNeg → 1 ≤ (J 13 e).toInt ∧ (J 13 e).toInt ≤ 10000
def r_RI (J M : qJ) (K N : rLg) : Prop := J 14 5 = M 47 29 ∧ J 15 = M 67 ∧ J 16 = M 68 ∧ J 18 = M 69 ∧ K 17 = N 70 ∧ K 19 = N 71 ∧ ∀ k, (0 ≤ (K 19 k).toInt ∧ (K 19 k).toInt ≤ (K 17 k).toInt) ∨ K 19 k = K 17 k
def r_RP (J M : qJ) (K N : rLg) : Prop := J 20 4 = M 47 34 ∧ J 21 = M 72 ∧ J 23 = M 73 ∧ J 24 = M 74 ∧ K 22 = N 75 ∧ ∀ k, k < (J 20 4).toNatClampNeg → (∃ c, c < 5 ∧ J 21 k = nI c) ∧ 1 ≤ (J 23 k).toInt ∧ (J 23 k).toInt ≤ 400 ∧ 1 ≤ (K 22 k).toInt ∧ (K 22 k).toInt ≤ 1000000
def r_RX (J M : qJ) : Prop := J 1 3 = M 47 4 ∧ J 2 = M 48
def r_RR (J M : qJ) (K N : rLg) : Prop := (J 0 9 = M 47 2 ∧ K 0 10 = N 47 35) ∧ r_RX J M ∧ (∀ t, t < 3 → r_TR J M t) ∧ (∀ c, c < 5 → r_RC J M K N c) ∧ r_RH J M ∧ r_RE J M ∧ r_RI J M K N ∧ r_RP J M K N
section PT11
variable {J M J' M' : qJ} {K N K' N' : rLg}
theorem RC_congr {c : Nat} (_ : c < 5) (h : r_RC J M K N c) (hJ : J' (37 + 2 * c) = J (37 + 2 * c)) (hM : ∀ k, 58 ≤ k → k ≤ 60 → M' k c = M k c) (hK : K' (37 + 2 * c) 4 = K (37 + 2 * c) 4) (hN : N' 61 c = N 61 c) : r_RC J' M' K' N' c := by
  unfold r_RC
  rw [hJ, hK, hN, hM 58 (by omega) (by omega), hM 59 (by omega) (by omega), hM 60 (by omega) (by omega)]
  exact h
theorem RH_congr (h : r_RH J M) (h0 : J' 0 9 = J 0 9) (hJ : ∀ c, c < 5 → J' (38 + 2 * c) = J (38 + 2 * c)) (hM : M' 62 = M 62) : r_RH J' M' := by
  intro c hc d hd
  unfold r_tO at hd
  rw [h0] at hd
  rw [hJ c hc, hM]
  exact h c hc d hd
theorem RE_congr (h : r_RE J M) (hJ : ∀ k, 10 ≤ k → k ≤ 13 → J' k = J k) (h9 : J' 9 4 = J 9 4) (hM : ∀ k, 63 ≤ k → k ≤ 66 → M' k = M k) (h23 : M' 47 23 = M 47 23) : r_RE J' M' := by
  unfold r_RE
  rw [hJ 10 (by omega) (by omega), hJ 11 (by omega) (by omega), hJ 12 (by omega) (by omega), hJ 13 (by omega) (by omega), h9, hM 63 (by omega) (by omega), hM 64 (by omega) (by omega), hM 65 (by omega) (by omega), hM 66 (by omega) (by omega), h23]
  exact h
theorem RI_congr (h : r_RI J M K N) (h15 : J' 15 = J 15) (h16 : J' 16 = J 16) (h18 : J' 18 = J 18) (h9 : J' 14 5 = J 14 5) (hM : ∀ k, 67 ≤ k → k ≤ 69 → M' k = M k) (h29 : M' 47 29 = M 47 29) (hK : K' 17 = K 17) (hK2 : K' 19 = K 19) (hN : N' 70 = N 70) (hN2 : N' 71 = N 71) : r_RI J' M' K' N' := by
  unfold r_RI
  rw [h15, h16, h18, h9, hM 67 (by omega) (by omega), hM 68 (by omega) (by omega), hM 69 (by omega) (by omega), h29, hK, hK2, hN, hN2]
  exact h
theorem RP_congr (h : r_RP J M K N) (hJ : ∀ k, 21 ≤ k → k ≤ 24 → J' k = J k) (h9 : J' 20 4 = J 20 4) (hM : ∀ k, 72 ≤ k → k ≤ 74 → M' k = M k) (h34 : M' 47 34 = M 47 34) (hK : K' 22 = K 22) (hN : N' 75 = N 75) : r_RP J' M' K' N' := by
  unfold r_RP
  rw [hJ 21 (by omega) (by omega), hJ 23 (by omega) (by omega), hJ 24 (by omega) (by omega), h9, hM 72 (by omega) (by omega), hM 73 (by omega) (by omega), hM 74 (by omega) (by omega), h34, hK, hN]
  exact h
/-- r_RR speaks of the class's cells and of the reference's alone -/
theorem RR_congr (h : r_RR J M K N) (hJ : ∀ k, k < 47 → J' k = J k) (hM : ∀ k, 47 ≤ k → M' k = M k) (hK : ∀ k, k < 47 → K' k = K k) (hN : ∀ k, 47 ≤ k → k ≠ 76 → N' k = N k) : r_RR J' M' K' N' := by
  obtain ⟨⟨h1, h2⟩, h3, h4, h5, h6, h7, h8, h9⟩ := h
  refine ⟨⟨?_, ?_⟩, ⟨?_, ?_⟩, fun t ht => TR_congr (h4 t ht) (fun k _ _ => hJ k (by omega)) (fun k j _ _ _ _ => by rw [hM k (by omega)]), fun c hc => RC_congr hc (h5 c hc) (hJ _ (by omega)) (fun k _ _ => by rw [hM k (by omega)]) (by rw [hK _ (by omega)]) (by rw [hN _ (by omega) (by omega)]), RH_congr h6 (by rw [hJ _ (by omega)]) (fun c hc => hJ _ (by omega)) (hM _ (by omega)), RE_congr h7 (fun k _ _ => hJ k (by omega)) (by rw [hJ _ (by omega)]) (fun k _ _ => hM k (by omega)) (by rw [hM _ (by omega)]), RI_congr h8 (hJ _ (by omega)) (hJ _ (by omega)) (hJ _ (by omega)) (by rw [hJ _ (by omega)]) (fun k _ _ => hM k (by omega)) (by rw [hM _ (by omega)]) (hK _ (by omega)) (hK _ (by omega)) (hN _ (by omega) (by omega)) (hN _ (by omega) (by omega)), RP_congr h9 (fun k _ _ => hJ k (by omega)) (by rw [hJ _ (by omega)]) (fun k _ _ => hM k (by omega)) (by rw [hM _ (by omega)]) (hK _ (by omega)) (hN _ (by omega) (by omega))⟩
  · rw [hJ _ (by omega), hM _ (by omega)]; exact h1
  · rw [hK _ (by omega), hN _ (by omega) (by omega)]; exact h2
  · rw [hJ _ (by omega), hM _ (by omega)]; exact h3.1
  · rw [hJ _ (by omega), hM _ (by omega)]; exact h3.2
/-- the reference's own words 47 0 and 47 1 (and 36 .. 38) are not in it -/
theorem RR_w0 {j : Nat} {v : Int32} (h : r_RR J M K N) (hj : j = 0 ∨ j = 1 ∨ 36 ≤ j) : r_RR J (wI M 47 j v) K N := by
  obtain ⟨⟨h1, h2⟩, h3, h4, h5, h6, h7, h8, h9⟩ := h
  refine ⟨⟨?_, h2⟩, ⟨?_, ?_⟩, fun t ht => TR_congr (h4 t ht) (fun k _ _ => rfl) (fun k j _ _ _ _ => wI_ne (by omega)), fun c hc => RC_congr hc (h5 c hc) rfl (fun k _ _ => wI_ne (by omega)) rfl rfl, RH_congr h6 rfl (fun c hc => rfl) (wI_c9 (by omega)), RE_congr h7 (fun k _ _ => rfl) rfl (fun k _ _ => wI_c9 (by omega)) (wI_ne (by omega)), RI_congr h8 rfl rfl rfl rfl (fun k _ _ => wI_c9 (by omega)) (wI_ne (by omega)) rfl rfl rfl rfl, RP_congr h9 (fun k _ _ => rfl) rfl (fun k _ _ => wI_c9 (by omega)) (wI_ne (by omega)) rfl rfl⟩
  · rw [wI_ne (by omega)]; exact h1
  · rw [wI_ne (by omega)]; exact h3.1
  · rw [wI_c9 (by omega)]; exact h3.2
theorem RR_0 : r_RR I0 I0 L0 L0 := by
  have z0 : p_rg 0 := ⟨by decide, by decide⟩
  have i0 : ∀ {k j : Nat}, k ≠ 1 ∧ k ≠ 25 ∧ k ≠ 37 ∧ k ≠ 39 ∧ k ≠ 41 ∧ k ≠ 43 ∧ k ≠ 45 ∧ k ≠ 47 ∧ k ≠ 58 → I0 k j = 0 := fun h => I0_z h
  have e0 : ∀ {k l : Nat}, (k ≠ 1 ∧ k ≠ 25 ∧ k ≠ 37 ∧ k ≠ 39 ∧ k ≠ 41 ∧ k ≠ 43 ∧ k ≠ 45 ∧ k ≠ 47 ∧ k ≠ 58) → (l ≠ 1 ∧ l ≠ 25 ∧ l ≠ 37 ∧ l ≠ 39 ∧ l ≠ 41 ∧ l ≠ 43 ∧ l ≠ 45 ∧ l ≠ 47 ∧ l ≠ 58) → I0 k = I0 l := fun h1 h2 => funext fun j => (i0 h1).trans (i0 h2).symm
  refine ⟨⟨rfl, rfl⟩, ⟨rfl, e0 (by omega) (by omega)⟩, fun t ht => ?_, fun c hc => ?_, fun c hc d hd => absurd hd (by unfold r_tO; rw [i0 (by omega)]; exact Nat.not_lt_zero d), ⟨rfl, e0 (by omega) (by omega), e0 (by omega) (by omega), e0 (by omega) (by omega), e0 (by omega) (by omega), fun e he => absurd he (by rw [i0 (by omega)]; exact Nat.not_lt_zero e)⟩, ⟨rfl, e0 (by omega) (by omega), e0 (by omega) (by omega), e0 (by omega) (by omega), rfl, rfl, fun k => Or.inr rfl⟩, ⟨rfl, e0 (by omega) (by omega), e0 (by omega) (by omega), e0 (by omega) (by omega), rfl, fun k hk => absurd hk (by rw [i0 (by omega)]; exact Nat.not_lt_zero k)⟩⟩
  · unfold r_TR
    rw [i0 (by omega), i0 (by omega), i0 (by omega), i0 (by omega), i0 (by omega), i0 (by omega), i0 (by omega), i0 (by omega), i0 (by omega), i0 (by omega), i0 (by omega), i0 (by omega), i0 (by omega), i0 (by omega)]
    exact ⟨⟨rfl, z0⟩, ⟨rfl, z0⟩, ⟨rfl, z0⟩, ⟨rfl, z0⟩, fun _ => ⟨rfl, z0⟩, ⟨rfl, z0⟩, 0, by omega, nI_0.symm, nI_0.symm, fun k hk => absurd hk (by omega)⟩
  · have h := I0_cu hc
    unfold r_RC
    rw [h.1, h.2.1, h.2.2.1, h.2.2.2, i0 (by omega), i0 (by omega)]
    exact ⟨rfl, rfl, rfl, rfl, by decide, by decide⟩
end PT11
