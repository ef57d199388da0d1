/-! the calendar: the class's and the reference's -/
section PG
theorem nI_div {a b : Nat} (ha : a < 2 ^ 31) (hb : b < 2 ^ 31) : nI a / nI b = nI (a / b) := by
  apply Int32.toInt_inj.mp
  have h1 : a / b ≤ a := Nat.div_le_self a b
  have hne : nI b ≠ -1 := fun h => by
    have := congrArg Int32.toInt h
    rw [nI_toInt hb, k32_m1] at this
    omega
  rw [Int32.toInt_div_of_ne_right _ _ hne, nI_toInt ha, nI_toInt hb, nI_toInt (by omega)]
  exact Int.ofNat_tdiv a b
theorem nI_mul (a b : Nat) : nI a * nI b = nI (a * b) := (Int32.ofNat_mul a b).symm
theorem nI_sub {a b : Nat} (h : b ≤ a) : nI a - nI b = nI (a - b) := by
  have : nI a = nI (a - b) + nI b := by rw [nI_add]; congr 1; omega
  rw [this, Int32.add_sub_cancel]
/-- months of the calendar as natural numbers: month k after January 2000 -/
def nlp (q : Nat) : Nat := if (2000 + q) % 4 = 0 ∧ ((2000 + q) % 100 ≠ 0 ∨ (2000 + q) % 400 = 0) then 1 else 0
def nmo (q m : Nat) : Nat := if m = 1 then 28 + nlp q else if m = 3 ∨ m = 5 ∨ m = 8 ∨ m = 10 then 30 else 31
def nd (k : Nat) : Nat := nmo (k / 12) (k % 12)
def nf : Nat → Nat
  | 0 => 0
  | k + 1 => nf k + nd k
theorem nd_pos (k : Nat) : 28 ≤ nd k := by
  unfold nd nmo
  split
  · omega
  · split <;> omega
theorem nf_mono {a c : Nat} (h : a ≤ c) : nf a ≤ nf c := by
  induction c with
  | zero => rw [show a = 0 by omega]; exact Nat.le_refl _
  | succ c ih =>
    by_cases e : a = c + 1
    · rw [e]; exact Nat.le_refl _
    · exact Nat.le_trans (ih (by omega)) (Nat.le_add_right _ _)
theorem nf_28 (k : Nat) : 28 * k ≤ nf k := by
  induction k with
  | zero => exact Nat.le_refl _
  | succ k ih =>
    have := nd_pos k
    show 28 * (k + 1) ≤ nf k + nd k
    omega
theorem nf_find {D : Nat} : ∀ n, D < nf n → ∃ P, P < n ∧ nf P ≤ D ∧ D < nf (P + 1)
  | 0, h => absurd h (by show ¬ D < 0; omega)
  | n + 1, h => by
    by_cases e : D < nf n
    · obtain ⟨P, h1, h2⟩ := nf_find n e
      exact ⟨P, by omega, h2⟩
    · exact ⟨n, by omega, by omega, h⟩
theorem nd_12 (q m : Nat) (hm : m < 12) : nd (12 * q + m) = nmo q m := by
  unfold nd
  rw [show (12 * q + m) / 12 = q by omega, show (12 * q + m) % 12 = m by omega]
theorem nf_12 (q : Nat) : nf (12 * (q + 1)) = nf (12 * q) + 365 + nlp q := by
  have e : 12 * (q + 1) = 12 * q + 12 := by omega
  rw [e]
  show nf (12 * q) + nd (12 * q + 0) + nd (12 * q + 1) + nd (12 * q + 2) + nd (12 * q + 3) + nd (12 * q + 4) + nd (12 * q + 5) + nd (12 * q + 6) + nd (12 * q + 7) + nd (12 * q + 8) + nd (12 * q + 9) + nd (12 * q + 10) + nd (12 * q + 11) = _
  simp only [nd_12 q _ (by decide : 0 < 12), nd_12 q _ (by decide : 1 < 12), nd_12 q _ (by decide : 2 < 12), nd_12 q _ (by decide : 3 < 12), nd_12 q _ (by decide : 4 < 12), nd_12 q _ (by decide : 5 < 12), nd_12 q _ (by decide : 6 < 12), nd_12 q _ (by decide : 7 < 12), nd_12 q _ (by decide : 8 < 12), nd_12 q _ (by decide : 9 < 12), nd_12 q _ (by decide : 10 < 12), nd_12 q _ (by decide : 11 < 12)]
  have h1 : nmo q 0 = 31 := rfl
  have h2 : nmo q 1 = 28 + nlp q := rfl
  have h3 : nmo q 2 = 31 := rfl
  have h4 : nmo q 3 = 30 := rfl
  have h5 : nmo q 4 = 31 := rfl
  have h6 : nmo q 5 = 30 := rfl
  have h7 : nmo q 6 = 31 := rfl
  have h8 : nmo q 7 = 31 := rfl
  have h9 : nmo q 8 = 30 := rfl
  have h10 : nmo q 9 = 31 := rfl
  have h11 : nmo q 10 = 30 := rfl
  have h12 : nmo q 11 = 31 := rfl
  omega
theorem nlp_le (q : Nat) : nlp q ≤ 1 := by unfold nlp; split <;> omega
theorem nf_366 (q : Nat) : nf (12 * q) ≤ 366 * q := by
  induction q with
  | zero => exact Nat.le_refl _
  | succ q ih =>
    rw [nf_12]
    have := nlp_le q
    omega
theorem m_leap_n : ∀ q, q < 400 → m_leap (2000 + nI q) = nI (nlp q) := by decide +kernel
theorem u_leap_n : ∀ q, q < 400 → u_leap (nI (2000 + q)) = nI (nlp q) := by decide +kernel
theorem u_fdy_n1 : ∀ q, q < 400 → u_fdy (nI (2000 + q) + 1) = u_fdy (nI (2000 + q)) + nI (365 + nlp q) := by decide +kernel
theorem u_fdy_n : ∀ q, q ≤ 400 → u_fdy (nI (2000 + q)) = nI (nf (12 * q))
  | 0, _ => by decide
  | q + 1, h => by
    show u_fdy (nI (2000 + q + 1)) = _
    rw [← nI_1 (2000 + q), u_fdy_n1 q (by omega), u_fdy_n q (by omega), nI_add, nf_12]
    congr 1
    omega
theorem u_dim_n {q m : Nat} (hq : q < 400) (hm : m < 12) : u_dim (nI (2000 + q)) (nI (m + 1)) = nI (nmo q m) := by
  have hl := u_leap_n q hq
  have h0 := nlp_le q
  match m, hm with
  | 0, _ => rfl
  | 1, _ =>
    show (if u_leap (nI (2000 + q)) = 0 then (28 : Int32) else 29) = nI (28 + nlp q)
    rw [hl]
    rcases (show nlp q = 0 ∨ nlp q = 1 by omega) with e | e <;> rw [e] <;> decide
  | 2, _ => rfl
  | 3, _ => rfl
  | 4, _ => rfl
  | 5, _ => rfl
  | 6, _ => rfl
  | 7, _ => rfl
  | 8, _ => rfl
  | 9, _ => rfl
  | 10, _ => rfl
  | 11, _ => rfl
theorem m_days_n {k : Nat} (hk : k < 4800) : m_days (nI k) = nI (nd k) := by
  have e1 : nI k / 12 = nI (k / 12) := nI_div (b := 12) (by omega) (by decide)
  have e2 : nI k - nI k / 12 * 12 = nI (k % 12) := by
    rw [e1]
    show nI k - nI (k / 12) * nI 12 = _
    rw [nI_mul, nI_sub (by omega)]
    congr 1
    omega
  have hl := m_leap_n (k / 12) (by omega)
  have h0 := nlp_le (k / 12)
  unfold m_days
  rw [e2, e1]
  unfold nd
  match hm : k % 12, (show k % 12 < 12 by omega) with
  | 0, _ => rfl
  | 1, _ =>
    show (if m_leap (2000 + nI (k / 12)) = 0 then (28 : Int32) else 29) = nI (28 + nlp (k / 12))
    rw [hl]
    rcases (show nlp (k / 12) = 0 ∨ nlp (k / 12) = 1 by omega) with e | e <;> rw [e] <;> decide
  | 2, _ => rfl
  | 3, _ => rfl
  | 4, _ => rfl
  | 5, _ => rfl
  | 6, _ => rfl
  | 7, _ => rfl
  | 8, _ => rfl
  | 9, _ => rfl
  | 10, _ => rfl
  | 11, _ => rfl
theorem m_left_n {D : Nat} : ∀ k, k < 4800 → nf k ≤ D → m_left (nI D) k = nI (D - nf k)
  | 0, _, _ => rfl
  | k + 1, hk, h => by
    have h1 : nf (k + 1) = nf k + nd k := rfl
    show m_left (nI D) k - m_days (nI k) = _
    rw [m_left_n k (by omega) (by omega), m_days_n (by omega), nI_sub (by omega), h1]
    congr 1
    omega
theorem u_lf_n {D q : Nat} (hq : q < 400) : ∀ m, m ≤ 12 → nf (12 * q + m) ≤ D → u_lf (nI (D - nf (12 * q))) (nI (2000 + q)) m = nI (D - nf (12 * q + m))
  | 0, _, _ => rfl
  | m + 1, hm, h => by
    have h1 : nf (12 * q + (m + 1)) = nf (12 * q + m) + nd (12 * q + m) := rfl
    show u_lf (nI (D - nf (12 * q))) (nI (2000 + q)) m - u_dim (nI (2000 + q)) (nI (m + 1)) = _
    rw [u_lf_n hq m (by omega) (by omega), u_dim_n hq (by omega), ← nd_12 q m (by omega), nI_sub (by omega), h1]
    congr 1
    omega
theorem u_md_n {q : Nat} (hq : q < 400) : ∀ m, m ≤ 12 → u_md (nI (2000 + q)) m = nI (nf (12 * q + m))
  | 0, _ => u_fdy_n q (by omega)
  | m + 1, hm => by
    show u_md (nI (2000 + q)) m + u_dim (nI (2000 + q)) (nI (m + 1)) = _
    rw [u_md_n hq m (by omega), u_dim_n hq (by omega), ← nd_12 q m (by omega), nI_add]
    rfl
end PG
