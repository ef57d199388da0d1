/-! pure: numbers, frames -/
theorem k32_0 : (0 : Int32).toInt = 0 := by decide
theorem k32_1 : (1 : Int32).toInt = 1 := by decide
theorem k32_m1 : (-1 : Int32).toInt = -1 := by decide
theorem k32_3 : (3 : Int32).toInt = 3 := by decide
theorem k32_5 : (5 : Int32).toInt = 5 := by decide
theorem k32_14 : (14 : Int32).toInt = 14 := by decide
theorem k32_32 : (32 : Int32).toInt = 32 := by decide
theorem k32_40 : (40 : Int32).toInt = 40 := by decide
theorem k32_126 : (126 : Int32).toInt = 126 := by decide
theorem k32_400 : (400 : Int32).toInt = 400 := by decide
theorem k32_10000 : (10000 : Int32).toInt = 10000 := by decide
theorem k32_100000 : (100000 : Int32).toInt = 100000 := by decide
theorem k32_1000000 : (1000000 : Int32).toInt = 1000000 := by decide
theorem k64_0 : (0 : Int64).toInt = 0 := by decide
theorem k64_1 : (1 : Int64).toInt = 1 := by decide
theorem k64_m1 : (-1 : Int64).toInt = -1 := by decide
theorem k64_2 : (2 : Int64).toInt = 2 := by decide
theorem k64_3 : (3 : Int64).toInt = 3 := by decide
theorem k64_4 : (4 : Int64).toInt = 4 := by decide
theorem k64_6 : (6 : Int64).toInt = 6 := by decide
theorem k64_13 : (13 : Int64).toInt = 13 := by decide
theorem k64_32 : (32 : Int64).toInt = 32 := by decide
theorem k64_40 : (40 : Int64).toInt = 40 := by decide
theorem k64_126 : (126 : Int64).toInt = 126 := by decide
theorem k64_400 : (400 : Int64).toInt = 400 := by decide
theorem k64_10000 : (10000 : Int64).toInt = 10000 := by decide
theorem k64_100000 : (100000 : Int64).toInt = 100000 := by decide
theorem k64_1000000 : (1000000 : Int64).toInt = 1000000 := by decide
theorem in_C (c : Int32) : (0 ≤ Int32.toInt64 c ∧ Int32.toInt64 c ≤ 4) ↔ ¬ noC c := by
  simp only [noC, Int64.le_iff_toInt_le, Int32.lt_iff_toInt_lt, Int32.le_iff_toInt_le, Int32.toInt_toInt64, k64_0, k64_4, k32_0, k32_5]
  omega
theorem in_T (t : Int32) : (0 ≤ Int32.toInt64 t ∧ Int32.toInt64 t ≤ 2) ↔ ¬ noT t := by
  simp only [noT, Int64.le_iff_toInt_le, Int32.lt_iff_toInt_lt, Int32.le_iff_toInt_le, Int32.toInt_toInt64, k64_0, k64_2, k32_0, k32_3]
  omega
theorem in_T1 (t : Int32) : ((-1) ≤ Int32.toInt64 t ∧ Int32.toInt64 t ≤ 2) ↔ (t = -1 ∨ ¬ noT t) := by
  rw [← Int32.toInt_inj]
  simp only [noT, Int64.le_iff_toInt_le, Int32.lt_iff_toInt_lt, Int32.le_iff_toInt_le, Int32.toInt_toInt64, k64_m1, k64_2, k32_0, k32_3, k32_m1]
  omega
theorem in_P (a : Int64) : (1 ≤ a ∧ a ≤ 1000000) ↔ ¬ noP a := by
  simp only [noP, Int64.le_iff_toInt_le, Int64.lt_iff_toInt_lt, k64_1, k64_1000000]
  omega
theorem in_U (u : Int32) : (1 ≤ Int32.toInt64 u ∧ Int32.toInt64 u ≤ 10000) ↔ ¬ (u < 1 ∨ 10000 < u) := by
  simp only [Int64.le_iff_toInt_le, Int32.lt_iff_toInt_lt, Int32.toInt_toInt64, k64_1, k64_10000, k32_1, k32_10000]
  omega
theorem in_M (u : Int32) : (0 ≤ Int32.toInt64 u ∧ Int32.toInt64 u ≤ 1000000) ↔ (¬ u < 0 ∧ ¬ 1000000 < u) := by
  simp only [Int64.le_iff_toInt_le, Int32.lt_iff_toInt_lt, Int32.toInt_toInt64, k64_0, k64_1000000, k32_0, k32_1000000]
  omega
theorem in_D (d : Int32) : (1 ≤ Int32.toInt64 d ∧ Int32.toInt64 d ≤ 40) ↔ ¬ (d < 1 ∨ 40 < d) := by
  simp only [Int64.le_iff_toInt_le, Int32.lt_iff_toInt_lt, Int32.toInt_toInt64, k64_1, k64_40, k32_1, k32_40]
  omega
theorem in_Y (d : Int32) : (1 ≤ Int32.toInt64 d ∧ Int32.toInt64 d ≤ 400) ↔ ¬ (d < 1 ∨ 400 < d) := by
  simp only [Int64.le_iff_toInt_le, Int32.lt_iff_toInt_lt, Int32.toInt_toInt64, k64_1, k64_400, k32_1, k32_400]
  omega
theorem in_Q (p : Int32) : (0 ≤ Int32.toInt64 p ∧ Int32.toInt64 p ≤ 13) ↔ (¬ p < 0 ∧ p < 14) := by
  simp only [Int64.le_iff_toInt_le, Int32.lt_iff_toInt_lt, Int32.toInt_toInt64, k64_0, k64_13, k32_0, k32_14]
  omega
theorem in_W {n : Nat} {w : Int32} {b : Int64} (hn : n < 2 ^ 31) (hb : b.toInt = (n : Int)) : (0 ≤ Int32.toInt64 w ∧ Int32.toInt64 w ≤ b) ↔ ∃ k : Nat, k ≤ n ∧ w = nI k := by
  simp only [Int64.le_iff_toInt_le, Int32.toInt_toInt64, k64_0, hb]
  constructor
  · intro ⟨h1, h2⟩
    have h3 := Int32.toInt_lt w
    refine ⟨w.toInt.toNat, by omega, Int32.toInt_inj.mp ?_⟩
    rw [nI_toInt (by omega)]
    omega
  · rintro ⟨k, hk, rfl⟩
    rw [nI_toInt (by omega)]
    omega
theorem wI_c {I : Nat → Nat → Int32} {k j a : Nat} {v : Int32} (h : a ≠ k) : wI I k j v a = I a := by simp [wI, va_up, h]
theorem wL_c {L : Nat → Nat → Int64} {k j a : Nat} {v : Int64} (h : a ≠ k) : wL L k j v a = L a := by simp [wL, va_up, h]
theorem wL_at9 (L : Nat → Nat → Int64) (k j : Nat) (v : Int64) : wL L k j v k j = v := by simp [wL, va_up, vp_updL]
theorem u_ap_c {I : Nat → Nat → Int32} {w : Int64} {n k : Nat} (h1 : k ≠ 1) (h2 : k ≠ 2) : ∀ i, u_ap I w n i k = I k
  | 0 => rfl
  | i + 1 => by
    unfold u_ap
    split
    · exact u_ap_c h1 h2 i
    · rw [wI_c h1, wI_c h2, u_ap_c h1 h2 i]
theorem m_ap_0 {I : Nat → Nat → Int32} {w : Int64} {n : Nat} : ∀ i, m_ap I w n i 47 0 = I 47 0
  | 0 => rfl
  | i + 1 => by
    unfold m_ap
    split
    · exact m_ap_0 i
    · rw [wI_ne (Or.inr (by decide)), wI_ne (Or.inl (by decide)), m_ap_0 i]
theorem cb_mb (w : Int64) : ∀ i, i < 8 → cb w i = mb w (7 - i) := by
  have h : ∀ i, i < 8 → u_sh i = 8 * nI (7 - i) := by decide +kernel
  intro i hi
  unfold cb mb
  rw [h i hi]
theorem bad_eq (x : Int32) : (!(x == 0) && (decide (x < 32) || decide (126 < x))) = (!(x == 0) && !(decide (32 ≤ Int32.toInt64 x ∧ Int32.toInt64 x ≤ 126))) := by
  congr 1
  have : (x < 32 ∨ 126 < x) ↔ ¬ (32 ≤ Int32.toInt64 x ∧ Int32.toInt64 x ≤ 126) := by
    simp only [Int64.le_iff_toInt_le, Int32.lt_iff_toInt_lt, Int32.toInt_toInt64, k64_32, k64_126, k32_32, k32_126]
    omega
  by_cases h : x < 32 ∨ 126 < x
  · have h2 := this.mp h
    rw [decide_eq_false h2]
    rcases h with h | h <;> simp [h]
  · have h2 : 32 ≤ Int32.toInt64 x ∧ Int32.toInt64 x ≤ 126 := Decidable.not_not.mp (fun q => h (this.mpr q))
    rw [decide_eq_true h2]
    have h3 : ¬ x < 32 := fun q => h (Or.inl q)
    have h4 : ¬ 126 < x := fun q => h (Or.inr q)
    simp [h3, h4]
theorem cN_eq (w : Int64) : u_cN w 8 = m_cN w 8 := by
  simp only [u_cN, m_cN, cb_mb w 0 (by decide), cb_mb w 1 (by decide), cb_mb w 2 (by decide), cb_mb w 3 (by decide), cb_mb w 4 (by decide), cb_mb w 5 (by decide), cb_mb w 6 (by decide), cb_mb w 7 (by decide), ib9, ib, Nat.reduceSub]
  omega
theorem anyb_eq (w : Int64) : u_anyb w 8 = m_anyb w 8 := by
  simp only [u_anyb, m_anyb, cb_mb w 0 (by decide), cb_mb w 1 (by decide), cb_mb w 2 (by decide), cb_mb w 3 (by decide), cb_mb w 4 (by decide), cb_mb w 5 (by decide), cb_mb w 6 (by decide), cb_mb w 7 (by decide), bad_eq]
  generalize (!(mb w 0 == 0) && !decide (32 ≤ Int32.toInt64 (mb w 0) ∧ Int32.toInt64 (mb w 0) ≤ 126)) = b0
  generalize (!(mb w 1 == 0) && !decide (32 ≤ Int32.toInt64 (mb w 1) ∧ Int32.toInt64 (mb w 1) ≤ 126)) = b1
  generalize (!(mb w 2 == 0) && !decide (32 ≤ Int32.toInt64 (mb w 2) ∧ Int32.toInt64 (mb w 2) ≤ 126)) = b2
  generalize (!(mb w 3 == 0) && !decide (32 ≤ Int32.toInt64 (mb w 3) ∧ Int32.toInt64 (mb w 3) ≤ 126)) = b3
  generalize (!(mb w 4 == 0) && !decide (32 ≤ Int32.toInt64 (mb w 4) ∧ Int32.toInt64 (mb w 4) ≤ 126)) = b4
  generalize (!(mb w 5 == 0) && !decide (32 ≤ Int32.toInt64 (mb w 5) ∧ Int32.toInt64 (mb w 5) ≤ 126)) = b5
  generalize (!(mb w 6 == 0) && !decide (32 ≤ Int32.toInt64 (mb w 6) ∧ Int32.toInt64 (mb w 6) ≤ 126)) = b6
  generalize (!(mb w 7 == 0) && !decide (32 ≤ Int32.toInt64 (mb w 7) ∧ Int32.toInt64 (mb w 7) ≤ 126)) = b7
  revert b0 b1 b2 b3 b4 b5 b6 b7
  decide
