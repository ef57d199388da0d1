/-! pure lemmas -/
theorem k32_0 : (0 : Int32).toInt = 0 := by decide
theorem k32_1 : (1 : Int32).toInt = 1 := by decide
theorem k32_m1 : (-1 : Int32).toInt = -1 := by decide
theorem k32_3 : (3 : Int32).toInt = 3 := by decide
theorem k32_5 : (5 : Int32).toInt = 5 := by decide
theorem k32_14 : (14 : Int32).toInt = 14 := by decide
theorem k32_32 : (32 : Int32).toInt = 32 := by decide
theorem k32_40 : (40 : Int32).toInt = 40 := by decide
theorem k32_126 : (126 : Int32).toInt = 126 := by decide
theorem k32_400 : (400 : Int32).toInt = 400 := by decide
theorem k32_10000 : (10000 : Int32).toInt = 10000 := by decide
theorem k32_100000 : (100000 : Int32).toInt = 100000 := by decide
theorem k32_1000000 : (1000000 : Int32).toInt = 1000000 := by decide
theorem k64_0 : (0 : Int64).toInt = 0 := by decide
theorem k64_1 : (1 : Int64).toInt = 1 := by decide
theorem k64_m1 : (-1 : Int64).toInt = -1 := by decide
theorem k64_2 : (2 : Int64).toInt = 2 := by decide
theorem k64_3 : (3 : Int64).toInt = 3 := by decide
theorem k64_4 : (4 : Int64).toInt = 4 := by decide
theorem k64_6 : (6 : Int64).toInt = 6 := by decide
theorem k64_13 : (13 : Int64).toInt = 13 := by decide
theorem k64_32 : (32 : Int64).toInt = 32 := by decide
theorem k64_40 : (40 : Int64).toInt = 40 := by decide
theorem k64_126 : (126 : Int64).toInt = 126 := by decide
theorem k64_400 : (400 : Int64).toInt = 400 := by decide
theorem k64_10000 : (10000 : Int64).toInt = 10000 := by decide
theorem k64_100000 : (100000 : Int64).toInt = 100000 := by decide
theorem k64_1000000 : (1000000 : Int64).toInt = 1000000 := by decide
theorem in_C (c : Int32) : (0 ≤ Int32.toInt64 c ∧ Int32.toInt64 c ≤ 4) ↔ ¬ noC c := by
  simp only [noC, Int64.le_iff_toInt_le, Int32.lt_iff_toInt_lt, Int32.le_iff_toInt_le, Int32.toInt_toInt64, k64_0, k64_4, k32_0, k32_5]
  omega
theorem in_T (t : Int32) : (0 ≤ Int32.toInt64 t ∧ Int32.toInt64 t ≤ 2) ↔ ¬ noT t := by
  simp only [noT, Int64.le_iff_toInt_le, Int32.lt_iff_toInt_lt, Int32.le_iff_toInt_le, Int32.toInt_toInt64, k64_0, k64_2, k32_0, k32_3]
  omega
theorem in_T1 (t : Int32) : ((-1) ≤ Int32.toInt64 t ∧ Int32.toInt64 t ≤ 2) ↔ (t = -1 ∨ ¬ noT t) := by
  rw [← Int32.toInt_inj]
  simp only [noT, Int64.le_iff_toInt_le, Int32.lt_iff_toInt_lt, Int32.le_iff_toInt_le, Int32.toInt_toInt64, k64_m1, k64_2, k32_0, k32_3, k32_m1]
  omega
theorem in_P (a : Int64) : (1 ≤ a ∧ a ≤ 1000000) ↔ ¬ noP a := by
  simp only [noP, Int64.le_iff_toInt_le, Int64.lt_iff_toInt_lt, k64_1, k64_1000000]
  omega
theorem in_U (u : Int32) : (1 ≤ Int32.toInt64 u ∧ Int32.toInt64 u ≤ 10000) ↔ ¬ (u < 1 ∨ 10000 < u) := by
  simp only [Int64.le_iff_toInt_le, Int32.lt_iff_toInt_lt, Int32.toInt_toInt64, k64_1, k64_10000, k32_1, k32_10000]
  omega
theorem in_M (u : Int32) : (0 ≤ Int32.toInt64 u ∧ Int32.toInt64 u ≤ 1000000) ↔ (¬ u < 0 ∧ ¬ 1000000 < u) := by
  simp only [Int64.le_iff_toInt_le, Int32.lt_iff_toInt_lt, Int32.toInt_toInt64, k64_0, k64_1000000, k32_0, k32_1000000]
  omega
theorem in_D (d : Int32) : (1 ≤ Int32.toInt64 d ∧ Int32.toInt64 d ≤ 40) ↔ ¬ (d < 1 ∨ 40 < d) := by
  simp only [Int64.le_iff_toInt_le, Int32.lt_iff_toInt_lt, Int32.toInt_toInt64, k64_1, k64_40, k32_1, k32_40]
  omega
theorem in_Y (d : Int32) : (1 ≤ Int32.toInt64 d ∧ Int32.toInt64 d ≤ 400) ↔ ¬ (d < 1 ∨ 400 < d) := by
  simp only [Int64.le_iff_toInt_le, Int32.lt_iff_toInt_lt, Int32.toInt_toInt64, k64_1, k64_400, k32_1, k32_400]
  omega
theorem in_Q (p : Int32) : (0 ≤ Int32.toInt64 p ∧ Int32.toInt64 p ≤ 13) ↔ (¬ p < 0 ∧ p < 14) := by
  simp only [Int64.le_iff_toInt_le, Int32.lt_iff_toInt_lt, Int32.toInt_toInt64, k64_0, k64_13, k32_0, k32_14]
  omega
theorem in_W {n : Nat} {w : Int32} {b : Int64} (hn : n < 2 ^ 31) (hb : b.toInt = (n : Int)) : (0 ≤ Int32.toInt64 w ∧ Int32.toInt64 w ≤ b) ↔ ∃ k : Nat, k ≤ n ∧ w = nI k := by
  simp only [Int64.le_iff_toInt_le, Int32.toInt_toInt64, k64_0, hb]
  constructor
  · intro ⟨h1, h2⟩
    have h3 := Int32.toInt_lt w
    refine ⟨w.toInt.toNat, by omega, Int32.toInt_inj.mp ?_⟩
    rw [nI_toInt (by omega)]
    omega
  · rintro ⟨k, hk, rfl⟩
    rw [nI_toInt (by omega)]
    omega
theorem wI_c {I : Nat → Nat → Int32} {k j a : Nat} {v : Int32} (h : a ≠ k) : wI I k j v a = I a := by simp [wI, va_up, h]
theorem wL_c {L : Nat → Nat → Int64} {k j a : Nat} {v : Int64} (h : a ≠ k) : wL L k j v a = L a := by simp [wL, va_up, h]
theorem wL_at9 (L : Nat → Nat → Int64) (k j : Nat) (v : Int64) : wL L k j v k j = v := by simp [wL, va_up, vp_updL]
theorem u_ap_c {I : Nat → Nat → Int32} {w : Int64} {n k : Nat} (h1 : k ≠ 1) (h2 : k ≠ 2) : ∀ i, u_ap I w n i k = I k
  | 0 => rfl
  | i + 1 => by
    unfold u_ap
    split
    · exact u_ap_c h1 h2 i
    · rw [wI_c h1, wI_c h2, u_ap_c h1 h2 i]
theorem m_ap_0 {I : Nat → Nat → Int32} {w : Int64} {n : Nat} : ∀ i, m_ap I w n i 47 0 = I 47 0
  | 0 => rfl
  | i + 1 => by
    unfold m_ap
    split
    · exact m_ap_0 i
    · rw [wI_ne (Or.inr (by decide)), wI_ne (Or.inl (by decide)), m_ap_0 i]
theorem cb_mb (w : Int64) : ∀ i, i < 8 → cb w i = mb w (7 - i) := by
  have h : ∀ i, i < 8 → u_sh i = 8 * nI (7 - i) := by decide +kernel
  intro i hi
  unfold cb mb
  rw [h i hi]
theorem bad_eq (x : Int32) : (!(x == 0) && (decide (x < 32) || decide (126 < x))) = (!(x == 0) && !(decide (32 ≤ Int32.toInt64 x ∧ Int32.toInt64 x ≤ 126))) := by
  congr 1
  have : (x < 32 ∨ 126 < x) ↔ ¬ (32 ≤ Int32.toInt64 x ∧ Int32.toInt64 x ≤ 126) := by
    simp only [Int64.le_iff_toInt_le, Int32.lt_iff_toInt_lt, Int32.toInt_toInt64, k64_32, k64_126, k32_32, k32_126]
    omega
  by_cases h : x < 32 ∨ 126 < x
  · have h2 := this.mp h
    rw [decide_eq_false h2]
    rcases h with h | h <;> simp [h]
  · have h2 : 32 ≤ Int32.toInt64 x ∧ Int32.toInt64 x ≤ 126 := Decidable.not_not.mp (fun q => h (this.mpr q))
    rw [decide_eq_true h2]
    have h3 : ¬ x < 32 := fun q => h (Or.inl q)
    have h4 : ¬ 126 < x := fun q => h (Or.inr q)
    simp [h3, h4]
theorem cN_eq (w : Int64) : u_cN w 8 = m_cN w 8 := by
  simp only [u_cN, m_cN, cb_mb w 0 (by decide), cb_mb w 1 (by decide), cb_mb w 2 (by decide), cb_mb w 3 (by decide), cb_mb w 4 (by decide), cb_mb w 5 (by decide), cb_mb w 6 (by decide), cb_mb w 7 (by decide), ib9, ib, Nat.reduceSub]
  omega
theorem anyb_eq (w : Int64) : u_anyb w 8 = m_anyb w 8 := by
  simp only [u_anyb, m_anyb, cb_mb w 0 (by decide), cb_mb w 1 (by decide), cb_mb w 2 (by decide), cb_mb w 3 (by decide), cb_mb w 4 (by decide), cb_mb w 5 (by decide), cb_mb w 6 (by decide), cb_mb w 7 (by decide), bad_eq]
  generalize (!(mb w 0 == 0) && !decide (32 ≤ Int32.toInt64 (mb w 0) ∧ Int32.toInt64 (mb w 0) ≤ 126)) = b0
  generalize (!(mb w 1 == 0) && !decide (32 ≤ Int32.toInt64 (mb w 1) ∧ Int32.toInt64 (mb w 1) ≤ 126)) = b1
  generalize (!(mb w 2 == 0) && !decide (32 ≤ Int32.toInt64 (mb w 2) ∧ Int32.toInt64 (mb w 2) ≤ 126)) = b2
  generalize (!(mb w 3 == 0) && !decide (32 ≤ Int32.toInt64 (mb w 3) ∧ Int32.toInt64 (mb w 3) ≤ 126)) = b3
  generalize (!(mb w 4 == 0) && !decide (32 ≤ Int32.toInt64 (mb w 4) ∧ Int32.toInt64 (mb w 4) ≤ 126)) = b4
  generalize (!(mb w 5 == 0) && !decide (32 ≤ Int32.toInt64 (mb w 5) ∧ Int32.toInt64 (mb w 5) ≤ 126)) = b5
  generalize (!(mb w 6 == 0) && !decide (32 ≤ Int32.toInt64 (mb w 6) ∧ Int32.toInt64 (mb w 6) ≤ 126)) = b6
  generalize (!(mb w 7 == 0) && !decide (32 ≤ Int32.toInt64 (mb w 7) ∧ Int32.toInt64 (mb w 7) ≤ 126)) = b7
  revert b0 b1 b2 b3 b4 b5 b6 b7
  decide
/-- the fresh ints are 0 but in few cells -/
theorem I0_z {k j : Nat} (h : k ≠ 1 ∧ k ≠ 25 ∧ k ≠ 37 ∧ k ≠ 39 ∧ k ≠ 41 ∧ k ≠ 43 ∧ k ≠ 45 ∧ k ≠ 47 ∧ k ≠ 58) : I0 k j = 0 := by
  obtain ⟨h1, h2, h3, h4, h5, h6, h7, h8, h9⟩ := h
  simp [I0, h1, h2, h3, h4, h5, h6, h7, h8, h9]
theorem I0_cu {c : Nat} (hc : c < 5) : I0 (37 + 2 * c) 1 = -1 ∧ I0 (37 + 2 * c) 2 = 0 ∧ I0 (37 + 2 * c) 3 = 0 ∧ I0 58 c = -1 := by
  match c, hc with
  | 0, _ => exact ⟨rfl, rfl, rfl, rfl⟩
  | 1, _ => exact ⟨rfl, rfl, rfl, rfl⟩
  | 2, _ => exact ⟨rfl, rfl, rfl, rfl⟩
  | 3, _ => exact ⟨rfl, rfl, rfl, rfl⟩
  | 4, _ => exact ⟨rfl, rfl, rfl, rfl⟩
theorem C_of {c : Int32} (h : ¬ noC c) : ∃ j, j < 5 ∧ c = nI j ∧ c.toNatClampNeg = j := by
  have h1 : ¬ c < 0 := fun q => h (Or.inl q)
  have h2 : ¬ 5 ≤ c := fun q => h (Or.inr q)
  obtain ⟨j, hj, rfl⟩ := nI_of h1
  have h3 : ¬ nI 5 ≤ nI j := h2
  rw [nI_leI (by decide) hj] at h3
  exact ⟨j, by omega, rfl, nI_clamp hj⟩
theorem T_of {t : Int32} (h : ¬ noT t) : ∃ j, j < 3 ∧ t = nI j ∧ t.toNatClampNeg = j := by
  have h1 : ¬ t < 0 := fun q => h (Or.inl q)
  have h2 : ¬ 3 ≤ t := fun q => h (Or.inr q)
  obtain ⟨j, hj, rfl⟩ := nI_of h1
  have h3 : ¬ nI 3 ≤ nI j := h2
  rw [nI_leI (by decide) hj] at h3
  exact ⟨j, by omega, rfl, nI_clamp hj⟩
theorem u_look_c {I : Nat → Nat → Int32} {q a : Nat} {d : Int32} (h : a ≠ q) : u_look I q d a = I a := by
  unfold u_look u_look2 u_look1
  rw [wI_c h]
  split <;> split <;> simp only [wI_c h]
theorem u_keep_c {I : Nat → Nat → Int32} {q q2 a : Nat} {d : Int32} (h : a ≠ q2) : u_keep I q q2 d a = I a := by
  unfold u_keep
  split
  · rfl
  split
  · rfl
  exact wI_c h
theorem u_kps_c {I : Nat → Nat → Int32} {a : Nat} (h : 47 ≤ a) : ∀ c, c ≤ 4 → u_kps I (c + 1) a = u_kps I c a
  | c, hc => u_keep_c (by omega)
theorem u_kps_47 {I : Nat → Nat → Int32} {a : Nat} (h : 47 ≤ a) : ∀ c, c ≤ 5 → u_kps I c a = I a
  | 0, _ => rfl
  | c + 1, hc => (u_kps_c h c (by omega)).trans (u_kps_47 h c (by omega))
theorem u_lks_47 {I : Nat → Nat → Int32} {L : Nat → Nat → Int64} {z a : Nat} (h : 47 ≤ a) : ∀ c, c ≤ 5 → u_lks I L z c a = I a
  | 0, _ => rfl
  | c + 1, hc => (u_look_c (by omega)).trans (u_lks_47 h c (by omega))
theorem u_tk_47 {I : Nat → Nat → Int32} {L : Nat → Nat → Int64} {z a : Nat} (h : 47 ≤ a) : ∀ k, u_tk I L z k a = I a
  | 0 => rfl
  | k + 1 => by
    show u_pass (u_tk I L z k) L z a = I a
    unfold u_pass
    rw [u_lks_47 h 5 (by omega), wI_c (by omega), u_kps_47 h 5 (by omega)]
    exact u_tk_47 h k
theorem u_tk_09 {I : Nat → Nat → Int32} {L : Nat → Nat → Int64} {z : Nat} : ∀ k, u_tk I L z k 0 9 = I 0 9 + nI k
  | 0 => by show I 0 9 = I 0 9 + nI 0; rw [nI_0, Int32.add_zero]
  | k + 1 => by
    show u_pass (u_tk I L z k) L z 0 9 = _
    unfold u_pass
    rw [u_lks_ne (by omega), wI_at, u_kps_ne (by omega), u_tk_09 k, nI_succ, Int32.add_assoc]
theorem m_tk_0 {I : Nat → Nat → Int32} {L : Nat → Nat → Int64} {z T : Nat} : ∀ k, m_tk I L z T k 47 0 = I 47 0
  | 0 => rfl
  | k + 1 => by
    show m_day (m_tk I L z T k) L z (T + k) 47 0 = _
    unfold m_day
    rw [m_lks_ne (by omega) (by omega), wI_ne (Or.inr (by decide)), m_was_ne (by omega), m_tk_0 k]
def FD0 : Nat → Nat := fun P => [0, 31, 60, 91, 121, 152, 182, 213, 244, 274, 305, 335, 366, 397, 425].getD P 0
theorem FD0_I : ∀ P, P ≤ 14 → I0 25 P = nI (FD0 P) := by decide +kernel
theorem FD0_m : ∀ P, P < 14 → FD0 P ≤ FD0 (P + 1) := by decide +kernel
theorem FD0_b : ∀ P, P ≤ 14 → FD0 P ≤ 1000 := by decide +kernel
theorem cT0 : cT I0 := by
  intro t ht
  match t, ht with
  | 0, _ => exact ⟨rfl, by decide⟩
  | 1, _ => exact ⟨rfl, by decide⟩
  | 2, _ => exact ⟨rfl, by decide⟩
theorem mT0 : mT I0 := by
  intro t ht
  match t, ht with
  | 0, _ => exact ⟨rfl, by decide⟩
  | 1, _ => exact ⟨rfl, by decide⟩
  | 2, _ => exact ⟨rfl, by decide⟩
  | 3, _ => exact ⟨rfl, by decide⟩
theorem L0_z (k j : Nat) : L0 k j = 0 := rfl
theorem w7 {w : Int32} {n : Nat} (h : ∃ k : Nat, k ≤ n ∧ w = nI k) (hn : n ≤ 6) : w = 0 ∨ w = 1 ∨ w = 2 ∨ w = 3 ∨ w = 4 ∨ w = 5 ∨ w = 6 := by
  obtain ⟨k, hk, rfl⟩ := h
  match k, (show k ≤ 6 by omega) with
  | 0, _ => exact Or.inl rfl
  | 1, _ => exact Or.inr (Or.inl rfl)
  | 2, _ => exact Or.inr (Or.inr (Or.inl rfl))
  | 3, _ => exact Or.inr (Or.inr (Or.inr (Or.inl rfl)))
  | 4, _ => exact Or.inr (Or.inr (Or.inr (Or.inr (Or.inl rfl))))
  | 5, _ => exact Or.inr (Or.inr (Or.inr (Or.inr (Or.inr (Or.inl rfl)))))
  | 6, _ => exact Or.inr (Or.inr (Or.inr (Or.inr (Or.inr (Or.inr rfl)))))
theorem in_6 (w : Int32) : (0 ≤ Int32.toInt64 w ∧ Int32.toInt64 w ≤ 6) ↔ (w = 0 ∨ w = 1 ∨ w = 2 ∨ w = 3 ∨ w = 4 ∨ w = 5 ∨ w = 6) := by
  rw [in_W (n := 6) (by decide) k64_6]
  refine ⟨fun h => w7 h (by omega), fun h => ?_⟩
  rcases h with rfl | rfl | rfl | rfl | rfl | rfl | rfl
  · exact ⟨0, by omega, rfl⟩
  · exact ⟨1, by omega, rfl⟩
  · exact ⟨2, by omega, rfl⟩
  · exact ⟨3, by omega, rfl⟩
  · exact ⟨4, by omega, rfl⟩
  · exact ⟨5, by omega, rfl⟩
  · exact ⟨6, by omega, rfl⟩
theorem in_4 (w : Int32) : (0 ≤ Int32.toInt64 w ∧ Int32.toInt64 w ≤ 4) ↔ (w = 0 ∨ w = 1 ∨ w = 2 ∨ w = 3 ∨ w = 4) := by
  rw [in_W (n := 4) (by decide) k64_4]
  constructor
  · rintro ⟨k, hk, rfl⟩
    match k, hk with
    | 0, _ => exact Or.inl rfl
    | 1, _ => exact Or.inr (Or.inl rfl)
    | 2, _ => exact Or.inr (Or.inr (Or.inl rfl))
    | 3, _ => exact Or.inr (Or.inr (Or.inr (Or.inl rfl)))
    | 4, _ => exact Or.inr (Or.inr (Or.inr (Or.inr rfl)))
  · rintro (rfl | rfl | rfl | rfl | rfl)
    · exact ⟨0, by omega, rfl⟩
    · exact ⟨1, by omega, rfl⟩
    · exact ⟨2, by omega, rfl⟩
    · exact ⟨3, by omega, rfl⟩
    · exact ⟨4, by omega, rfl⟩
theorem nI_div {a b : Nat} (ha : a < 2 ^ 31) (hb : b < 2 ^ 31) : nI a / nI b = nI (a / b) := by
  apply Int32.toInt_inj.mp
  have h1 : a / b ≤ a := Nat.div_le_self a b
  have hne : nI b ≠ -1 := fun h => by
    have := congrArg Int32.toInt h
    rw [nI_toInt hb, k32_m1] at this
    omega
  rw [Int32.toInt_div_of_ne_right _ _ hne, nI_toInt ha, nI_toInt hb, nI_toInt (by omega)]
  exact Int.ofNat_tdiv a b
theorem nI_mul (a b : Nat) : nI a * nI b = nI (a * b) := (Int32.ofNat_mul a b).symm
theorem nI_sub {a b : Nat} (h : b ≤ a) : nI a - nI b = nI (a - b) := by
  have : nI a = nI (a - b) + nI b := by rw [nI_add]; congr 1; omega
  rw [this, Int32.add_sub_cancel]
/-- months of the calendar as natural numbers: month k after January 2000 -/
def nlp (q : Nat) : Nat := if (2000 + q) % 4 = 0 ∧ ((2000 + q) % 100 ≠ 0 ∨ (2000 + q) % 400 = 0) then 1 else 0
def nmo (q m : Nat) : Nat := if m = 1 then 28 + nlp q else if m = 3 ∨ m = 5 ∨ m = 8 ∨ m = 10 then 30 else 31
def nd (k : Nat) : Nat := nmo (k / 12) (k % 12)
def nf : Nat → Nat
  | 0 => 0
  | k + 1 => nf k + nd k
theorem nd_pos (k : Nat) : 28 ≤ nd k := by
  unfold nd nmo
  split
  · omega
  · split <;> omega
theorem nf_mono {a c : Nat} (h : a ≤ c) : nf a ≤ nf c := by
  induction c with
  | zero => rw [show a = 0 by omega]; exact Nat.le_refl _
  | succ c ih =>
    by_cases e : a = c + 1
    · rw [e]; exact Nat.le_refl _
    · exact Nat.le_trans (ih (by omega)) (Nat.le_add_right _ _)
theorem nf_28 (k : Nat) : 28 * k ≤ nf k := by
  induction k with
  | zero => exact Nat.le_refl _
  | succ k ih =>
    have := nd_pos k
    show 28 * (k + 1) ≤ nf k + nd k
    omega
theorem nf_find {D : Nat} : ∀ n, D < nf n → ∃ P, P < n ∧ nf P ≤ D ∧ D < nf (P + 1)
  | 0, h => absurd h (by show ¬ D < 0; omega)
  | n + 1, h => by
    by_cases e : D < nf n
    · obtain ⟨P, h1, h2⟩ := nf_find n e
      exact ⟨P, by omega, h2⟩
    · exact ⟨n, by omega, by omega, h⟩
theorem nd_12 (q m : Nat) (hm : m < 12) : nd (12 * q + m) = nmo q m := by
  unfold nd
  rw [show (12 * q + m) / 12 = q by omega, show (12 * q + m) % 12 = m by omega]
theorem nf_12 (q : Nat) : nf (12 * (q + 1)) = nf (12 * q) + 365 + nlp q := by
  have e : 12 * (q + 1) = 12 * q + 12 := by omega
  rw [e]
  show nf (12 * q) + nd (12 * q + 0) + nd (12 * q + 1) + nd (12 * q + 2) + nd (12 * q + 3) + nd (12 * q + 4) + nd (12 * q + 5) + nd (12 * q + 6) + nd (12 * q + 7) + nd (12 * q + 8) + nd (12 * q + 9) + nd (12 * q + 10) + nd (12 * q + 11) = _
  simp only [nd_12 q _ (by decide : 0 < 12), nd_12 q _ (by decide : 1 < 12), nd_12 q _ (by decide : 2 < 12), nd_12 q _ (by decide : 3 < 12), nd_12 q _ (by decide : 4 < 12), nd_12 q _ (by decide : 5 < 12), nd_12 q _ (by decide : 6 < 12), nd_12 q _ (by decide : 7 < 12), nd_12 q _ (by decide : 8 < 12), nd_12 q _ (by decide : 9 < 12), nd_12 q _ (by decide : 10 < 12), nd_12 q _ (by decide : 11 < 12)]
  have h1 : nmo q 0 = 31 := rfl
  have h2 : nmo q 1 = 28 + nlp q := rfl
  have h3 : nmo q 2 = 31 := rfl
  have h4 : nmo q 3 = 30 := rfl
  have h5 : nmo q 4 = 31 := rfl
  have h6 : nmo q 5 = 30 := rfl
  have h7 : nmo q 6 = 31 := rfl
  have h8 : nmo q 7 = 31 := rfl
  have h9 : nmo q 8 = 30 := rfl
  have h10 : nmo q 9 = 31 := rfl
  have h11 : nmo q 10 = 30 := rfl
  have h12 : nmo q 11 = 31 := rfl
  omega
theorem nlp_le (q : Nat) : nlp q ≤ 1 := by unfold nlp; split <;> omega
theorem nf_366 (q : Nat) : nf (12 * q) ≤ 366 * q := by
  induction q with
  | zero => exact Nat.le_refl _
  | succ q ih =>
    rw [nf_12]
    have := nlp_le q
    omega
theorem m_leap_n : ∀ q, q < 400 → m_leap (2000 + nI q) = nI (nlp q) := by decide +kernel
theorem u_leap_n : ∀ q, q < 400 → u_leap (nI (2000 + q)) = nI (nlp q) := by decide +kernel
theorem u_fdy_n1 : ∀ q, q < 400 → u_fdy (nI (2000 + q) + 1) = u_fdy (nI (2000 + q)) + nI (365 + nlp q) := by decide +kernel
theorem u_fdy_n : ∀ q, q ≤ 400 → u_fdy (nI (2000 + q)) = nI (nf (12 * q))
  | 0, _ => by decide
  | q + 1, h => by
    show u_fdy (nI (2000 + q + 1)) = _
    rw [← nI_1 (2000 + q), u_fdy_n1 q (by omega), u_fdy_n q (by omega), nI_add, nf_12]
    congr 1
    omega
theorem u_dim_n {q m : Nat} (hq : q < 400) (hm : m < 12) : u_dim (nI (2000 + q)) (nI (m + 1)) = nI (nmo q m) := by
  have hl := u_leap_n q hq
  have h0 := nlp_le q
  match m, hm with
  | 0, _ => rfl
  | 1, _ =>
    show (if u_leap (nI (2000 + q)) = 0 then (28 : Int32) else 29) = nI (28 + nlp q)
    rw [hl]
    rcases (show nlp q = 0 ∨ nlp q = 1 by omega) with e | e <;> rw [e] <;> decide
  | 2, _ => rfl
  | 3, _ => rfl
  | 4, _ => rfl
  | 5, _ => rfl
  | 6, _ => rfl
  | 7, _ => rfl
  | 8, _ => rfl
  | 9, _ => rfl
  | 10, _ => rfl
  | 11, _ => rfl
theorem m_days_n {k : Nat} (hk : k < 4800) : m_days (nI k) = nI (nd k) := by
  have e1 : nI k / 12 = nI (k / 12) := nI_div (b := 12) (by omega) (by decide)
  have e2 : nI k - nI k / 12 * 12 = nI (k % 12) := by
    rw [e1]
    show nI k - nI (k / 12) * nI 12 = _
    rw [nI_mul, nI_sub (by omega)]
    congr 1
    omega
  have hl := m_leap_n (k / 12) (by omega)
  have h0 := nlp_le (k / 12)
  unfold m_days
  rw [e2, e1]
  unfold nd
  match hm : k % 12, (show k % 12 < 12 by omega) with
  | 0, _ => rfl
  | 1, _ =>
    show (if m_leap (2000 + nI (k / 12)) = 0 then (28 : Int32) else 29) = nI (28 + nlp (k / 12))
    rw [hl]
    rcases (show nlp (k / 12) = 0 ∨ nlp (k / 12) = 1 by omega) with e | e <;> rw [e] <;> decide
  | 2, _ => rfl
  | 3, _ => rfl
  | 4, _ => rfl
  | 5, _ => rfl
  | 6, _ => rfl
  | 7, _ => rfl
  | 8, _ => rfl
  | 9, _ => rfl
  | 10, _ => rfl
  | 11, _ => rfl
theorem m_left_n {D : Nat} : ∀ k, k < 4800 → nf k ≤ D → m_left (nI D) k = nI (D - nf k)
  | 0, _, _ => rfl
  | k + 1, hk, h => by
    have h1 : nf (k + 1) = nf k + nd k := rfl
    show m_left (nI D) k - m_days (nI k) = _
    rw [m_left_n k (by omega) (by omega), m_days_n (by omega), nI_sub (by omega), h1]
    congr 1
    omega
theorem u_lf_n {D q : Nat} (hq : q < 400) : ∀ m, m ≤ 12 → nf (12 * q + m) ≤ D → u_lf (nI (D - nf (12 * q))) (nI (2000 + q)) m = nI (D - nf (12 * q + m))
  | 0, _, _ => rfl
  | m + 1, hm, h => by
    have h1 : nf (12 * q + (m + 1)) = nf (12 * q + m) + nd (12 * q + m) := rfl
    show u_lf (nI (D - nf (12 * q))) (nI (2000 + q)) m - u_dim (nI (2000 + q)) (nI (m + 1)) = _
    rw [u_lf_n hq m (by omega) (by omega), u_dim_n hq (by omega), ← nd_12 q m (by omega), nI_sub (by omega), h1]
    congr 1
    omega
theorem u_md_n {q : Nat} (hq : q < 400) : ∀ m, m ≤ 12 → u_md (nI (2000 + q)) m = nI (nf (12 * q + m))
  | 0, _ => u_fdy_n q (by omega)
  | m + 1, hm => by
    show u_md (nI (2000 + q)) m + u_dim (nI (2000 + q)) (nI (m + 1)) = _
    rw [u_md_n hq m (by omega), u_dim_n hq (by omega), ← nd_12 q m (by omega), nI_add]
    rfl
theorem in_date (d : Int32) : (0 ≤ Int32.toInt64 d ∧ Int32.toInt64 d ≤ 100000) ↔ ¬ (d < 0 ∨ 100000 < d) := by
  simp only [Int64.le_iff_toInt_le, Int32.lt_iff_toInt_lt, Int32.toInt_toInt64, k64_0, k64_100000, k32_0, k32_100000]
  omega
theorem in_3 (w : Int32) : (0 ≤ Int32.toInt64 w ∧ Int32.toInt64 w ≤ 3) ↔ (w = 0 ∨ w = 1 ∨ w = 2 ∨ w = 3) := by
  rw [in_W (n := 3) (by decide) k64_3]
  constructor
  · rintro ⟨k, hk, rfl⟩
    match k, hk with
    | 0, _ => exact Or.inl rfl
    | 1, _ => exact Or.inr (Or.inl rfl)
    | 2, _ => exact Or.inr (Or.inr (Or.inl rfl))
    | 3, _ => exact Or.inr (Or.inr (Or.inr rfl))
  · rintro (rfl | rfl | rfl | rfl)
    · exact ⟨0, by omega, rfl⟩
    · exact ⟨1, by omega, rfl⟩
    · exact ⟨2, by omega, rfl⟩
    · exact ⟨3, by omega, rfl⟩
/-- the month of a day -/
theorem day_at {d : Int32} (h : ¬ (d < 0 ∨ 100000 < d)) : ∃ D P, D ≤ 100000 ∧ d = nI D ∧ P < 3600 ∧ nf P ≤ D ∧ D < nf (P + 1) := by
  have h1 : ¬ d < 0 := fun q => h (Or.inl q)
  have h2 : ¬ 100000 < d := fun q => h (Or.inr q)
  obtain ⟨D, hD, rfl⟩ := nI_of h1
  have h3 : ¬ nI 100000 < nI D := h2
  rw [nI_ltI (by decide) hD] at h3
  have h4 := nf_28 3600
  obtain ⟨P, h5, h6⟩ := nf_find (D := D) 3600 (by omega)
  exact ⟨D, P, by omega, rfl, h5, h6⟩
theorem nd_le (k : Nat) : nd k ≤ 31 := by
  have := nlp_le (k / 12)
  unfold nd nmo
  split
  · omega
  · split <;> omega
theorem date_u {D P : Nat} (hD : D ≤ 100000) (hP : P < 3600) (h1 : nf P ≤ D) (h2 : D < nf (P + 1)) :
    (2000 + nI D / 366 = nI (2000 + D / 366)) ∧ (2000 + D / 366 ≤ 2000 + P / 12) ∧ (2000 + P / 12 ≤ 2400) ∧ (∀ y, 2000 + D / 366 ≤ y → y < 2000 + P / 12 → u_fdy (nI y + 1) ≤ nI D) ∧ (2000 + P / 12 < 2400 → ¬ u_fdy (nI (2000 + P / 12) + 1) ≤ nI D) ∧ (P % 12 ≤ 11) ∧ (∀ k, k < P % 12 → u_dim (nI (2000 + P / 12)) (nI (k + 1)) ≤ u_lf (nI D - u_fdy (nI (2000 + P / 12))) (nI (2000 + P / 12)) k) ∧ (P % 12 < 11 → ¬ u_dim (nI (2000 + P / 12)) (nI (P % 12 + 1)) ≤ u_lf (nI D - u_fdy (nI (2000 + P / 12))) (nI (2000 + P / 12)) (P % 12)) ∧ ((nI (2000 + P / 12) - 2000) * 12 + nI (P % 12 + 1) - 1 = nI P) ∧ ((nI P - nI P / 12 * 12) + 1 = nI (P % 12 + 1)) := by
  have hq : P / 12 < 400 := by omega
  have hPm : 12 * (P / 12) + P % 12 = P := by omega
  have hnd := nd_pos P
  have hnd2 := nd_le P
  have hs : nf (P + 1) = nf P + nd P := rfl
  have hlow : nf (12 * (P / 12)) ≤ D := Nat.le_trans (nf_mono (by omega)) h1
  have hup : D < nf (12 * (P / 12 + 1)) := Nat.lt_of_lt_of_le h2 (nf_mono (by omega))
  have hu := nf_366 (P / 12 + 1)
  have e0 : nI D - u_fdy (nI (2000 + P / 12)) = nI (D - nf (12 * (P / 12))) := by
    rw [u_fdy_n _ (by omega), nI_sub hlow]
  have e1 : nI P / 12 = nI (P / 12) := nI_div (b := 12) (by omega) (by decide)
  refine ⟨?_, by omega, by omega, fun y hy1 hy2 => ?_, fun _ => ?_, by omega, fun k hk => ?_, fun _ => ?_, ?_, ?_⟩
  · have : nI D / 366 = nI (D / 366) := nI_div (b := 366) (by omega) (by decide)
    rw [this]
    show nI 2000 + nI (D / 366) = _
    rw [nI_add]
  · obtain ⟨r, rfl⟩ : ∃ r, y = 2000 + r := ⟨y - 2000, by omega⟩
    have e2 : nI (2000 + r) + 1 = nI (2000 + (r + 1)) := nI_1 (2000 + r)
    rw [e2, u_fdy_n (r + 1) (by omega)]
    have h3 : nf (12 * (r + 1)) ≤ D := Nat.le_trans (nf_mono (by omega)) h1
    exact (nI_leI (by omega) (by omega)).mpr h3
  · have e2 : nI (2000 + P / 12) + 1 = nI (2000 + (P / 12 + 1)) := nI_1 (2000 + P / 12)
    have hb : nf (12 * (P / 12 + 1)) ≤ 366 * (P / 12 + 1) := hu
    rw [e2, u_fdy_n (P / 12 + 1) (by omega), nI_leI (by omega) (by omega)]
    omega
  · have h3 : nf (12 * (P / 12) + (k + 1)) ≤ D := Nat.le_trans (nf_mono (by omega)) h1
    have h4 : nf (12 * (P / 12) + (k + 1)) = nf (12 * (P / 12) + k) + nd (12 * (P / 12) + k) := rfl
    rw [e0, u_lf_n hq k (by omega) (by omega), u_dim_n hq (by omega), ← nd_12 (P / 12) k (by omega), nI_leI (by omega) (by omega)]
    omega
  · rw [e0, u_lf_n hq (P % 12) (by omega) (by rw [hPm]; exact h1), u_dim_n hq (by omega), ← nd_12 (P / 12) (P % 12) (by omega), hPm, nI_leI (by omega) (by omega)]
    omega
  · have e2 : nI (2000 + P / 12) - 2000 = nI (P / 12) := by
      show nI (2000 + P / 12) - nI 2000 = _
      rw [nI_sub (by omega), show 2000 + P / 12 - 2000 = P / 12 by omega]
    rw [e2]
    show nI (P / 12) * nI 12 + nI (P % 12 + 1) - nI 1 = _
    rw [nI_mul, nI_add, nI_sub (by omega)]
    congr 1
    omega
  · rw [e1]
    show nI P - nI (P / 12) * nI 12 + nI 1 = _
    rw [nI_mul, nI_sub (by omega), nI_add]
    congr 1
    omega
theorem date_m {D P : Nat} (hD : D ≤ 100000) (hP : P < 3600) (h1 : nf P ≤ D) (h2 : D < nf (P + 1)) : (∀ k, k < P → m_days (nI k) ≤ m_left (nI D) k) ∧ m_left (nI D) P < m_days (nI P) := by
  have hs : nf (P + 1) = nf P + nd P := rfl
  have h9 := nf_28 0
  have hb : ∀ k, nd k ≤ 31 := fun k => by
    have := nlp_le (k / 12)
    unfold nd nmo
    split
    · omega
    · split <;> omega
  refine ⟨fun k hk => ?_, ?_⟩
  · have h3 : nf (k + 1) ≤ D := Nat.le_trans (nf_mono (by omega)) h1
    have h4 : nf (k + 1) = nf k + nd k := rfl
    have := hb k
    rw [m_left_n k (by omega) (by omega), m_days_n (by omega), nI_leI (by omega) (by omega)]
    omega
  · have := hb P
    rw [m_left_n P (by omega) h1, m_days_n (by omega), nI_ltI (by omega) (by omega)]
    omega
