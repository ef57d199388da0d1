/-! both sides, held together -/
theorem acc1 (x : Int64) (c : Int32) (hx : 0 ≤ x.toInt) (hx2 : x.toInt < 2 ^ 40) (hc : 0 ≤ c.toInt) (hc2 : c.toInt < 256) : ((x <<< ((Int32.toInt64 8) &&& 63)) ||| Int32.toInt64 c).toInt = x.toInt * 256 + c.toInt := by
  rw [show (Int32.toInt64 8) &&& 63 = 8 by decide]
  obtain ⟨X, hX⟩ : ∃ X : Nat, x.toInt = X := ⟨x.toInt.toNat, by omega⟩
  obtain ⟨C, hC⟩ : ∃ C : Nat, c.toInt = C := ⟨c.toInt.toNat, by omega⟩
  have hXn : x.toBitVec.toNat = X := by
    have h := x.toInt_toBitVec
    rw [hX, BitVec.toInt_eq_toNat_cond] at h
    have := x.toBitVec.isLt
    split at h <;> omega
  have hc64 : (Int32.toInt64 c).toInt = C := by rw [Int32.toInt_toInt64, hC]
  have hCn : (Int32.toInt64 c).toBitVec.toNat = C := by
    have h := (Int32.toInt64 c).toInt_toBitVec
    rw [hc64, BitVec.toInt_eq_toNat_cond] at h
    have := (Int32.toInt64 c).toBitVec.isLt
    split at h <;> omega
  have key : ((x <<< (8 : Int64)) ||| Int32.toInt64 c).toBitVec.toNat = X * 256 + C := by
    rw [Int64.toBitVec_or, BitVec.toNat_or, hCn]
    have : (x <<< (8 : Int64)).toBitVec.toNat = X <<< 8 := by
      rw [Int64.toBitVec_shiftLeft, show ((8 : Int64).toBitVec.smod 64) = 8#64 by decide, BitVec.shiftLeft_eq', BitVec.toNat_shiftLeft, hXn]
      rw [Nat.shiftLeft_eq, Nat.shiftLeft_eq, show (8#64).toNat = 8 from rfl]
      omega
    rw [this, ← Nat.shiftLeft_add_eq_or_of_lt (by omega), Nat.shiftLeft_eq]
  rw [← Int64.toInt_toBitVec, BitVec.toInt_eq_toNat_of_lt (by omega), key, hX, hC]
  omega
section WD
variable {J M : qJ} {a b n z s e : Nat}
def p_lc (c : Int32) : Prop := 97 ≤ c.toInt ∧ c.toInt ≤ 122
theorem acc_s (h : ∀ k, k < 4 → k < e - s → p_lc (M 48 (s + k))) : ∀ k, k ≤ 4 → k ≤ e - s → 0 ≤ (m_acc M s k).toInt ∧ (m_acc M s k).toInt < 256 ^ k ∧ (k < 4 → k < e - s → (m_acc M s (k + 1)).toInt = (m_acc M s k).toInt * 256 + (M 48 (s + k)).toInt)
  | 0, _, _ => by
    have h0 : (m_acc M s 0).toInt = 0 := by rw [m_acc]; decide
    rw [h0]
    refine ⟨by omega, by decide, fun h4 h5 => ?_⟩
    have := h 0 h4 h5
    unfold p_lc at this
    rw [m_acc, acc1 _ _ (by omega) (by omega) (by omega) (by omega)]
    omega
  | k + 1, hk, hk2 => by
    obtain ⟨h1, h2, h3⟩ := acc_s h k (by omega) (by omega)
    have h4 := h3 (by omega) (by omega)
    have hc := h k (by omega) (by omega)
    unfold p_lc at hc
    have hp : (256 : Int) ^ (k + 1) ≤ 4294967296 := by
      match k, hk with
      | 0, _ => decide
      | 1, _ => decide
      | 2, _ => decide
      | 3, _ => decide
    have hp2 : (256 : Int) ^ (k + 1) = 256 ^ k * 256 := Int.pow_succ ..
    refine ⟨by omega, by omega, fun h5 h6 => ?_⟩
    have hd := h (k + 1) h5 h6
    unfold p_lc at hd
    rw [m_acc, acc1 _ _ (by omega) (by omega) (by omega) (by omega)]
theorem i32_ne {c d : Int32} (k : Int) (hk : d.toInt = k) : (c = d) ↔ c.toInt = k := by rw [← hk]; exact Int32.toInt_inj.symm
theorem i64_ne {c d : Int64} (k : Int) (hk : d.toInt = k) : (c = d) ↔ c.toInt = k := by rw [← hk]; exact Int64.toInt_inj.symm
theorem wv_val (h : ∀ k, k < 4 → k < e - s → p_lc (M 48 (s + k))) : ∃ c0 c1 c2 c3 : Int, (e - s > 0 → (M 48 s).toInt = c0 ∧ 97 ≤ c0 ∧ c0 ≤ 122) ∧ (e - s > 1 → (M 48 (s + 1)).toInt = c1 ∧ 97 ≤ c1 ∧ c1 ≤ 122) ∧ (e - s > 2 → (M 48 (s + 2)).toInt = c2 ∧ 97 ≤ c2 ∧ c2 ≤ 122) ∧ (e - s > 3 → (M 48 (s + 3)).toInt = c3 ∧ 97 ≤ c3 ∧ c3 ≤ 122) ∧ (e - s = 0 → (m_wv M s e).toInt = 0) ∧ (e - s = 1 → (m_wv M s e).toInt = c0) ∧ (e - s = 2 → (m_wv M s e).toInt = c0 * 256 + c1) ∧ (e - s = 3 → (m_wv M s e).toInt = (c0 * 256 + c1) * 256 + c2) ∧ (e - s = 4 → (m_wv M s e).toInt = ((c0 * 256 + c1) * 256 + c2) * 256 + c3) ∧ (e - s > 4 → (m_wv M s e).toInt = 0) := by
  have h0 : (m_acc M s 0).toInt = 0 := by rw [m_acc]; decide
  refine ⟨(M 48 s).toInt, (M 48 (s + 1)).toInt, (M 48 (s + 2)).toInt, (M 48 (s + 3)).toInt, fun q => ⟨rfl, h 0 (by omega) q⟩, fun q => ⟨rfl, h 1 (by omega) q⟩, fun q => ⟨rfl, h 2 (by omega) q⟩, fun q => ⟨rfl, h 3 (by omega) q⟩, ?_, ?_, ?_, ?_, ?_, ?_⟩
  · intro q
    rw [m_wv, if_pos (by omega), q]
    exact h0
  · intro q
    have a0 := (acc_s h 0 (by omega) (by omega)).2.2 (by omega) (by omega)
    rw [m_wv, if_pos (by omega), q, a0, h0]
    exact Int.zero_add _
  · intro q
    have a0 := (acc_s h 0 (by omega) (by omega)).2.2 (by omega) (by omega)
    have a1 := (acc_s h 1 (by omega) (by omega)).2.2 (by omega) (by omega)
    rw [m_wv, if_pos (by omega), q, a1, a0, h0]
    simp
  · intro q
    have a0 := (acc_s h 0 (by omega) (by omega)).2.2 (by omega) (by omega)
    have a1 := (acc_s h 1 (by omega) (by omega)).2.2 (by omega) (by omega)
    have a2 := (acc_s h 2 (by omega) (by omega)).2.2 (by omega) (by omega)
    rw [m_wv, if_pos (by omega), q, a2, a1, a0, h0]
    simp
  · intro q
    have a0 := (acc_s h 0 (by omega) (by omega)).2.2 (by omega) (by omega)
    have a1 := (acc_s h 1 (by omega) (by omega)).2.2 (by omega) (by omega)
    have a2 := (acc_s h 2 (by omega) (by omega)).2.2 (by omega) (by omega)
    have a3 := (acc_s h 3 (by omega) (by omega)).2.2 (by omega) (by omega)
    rw [m_wv, if_pos (by omega), q, a3, a2, a1, a0, h0]
    simp
  · intro q
    rw [m_wv, if_neg (by omega)]
    decide
theorem sp3 {i : Nat} {b0 b1 b2 : Int32} {w : Int64} {k0 k1 k2 : Int} (hl : qLenS.getD i 0 = 3) (hb : qBytS.getD i [] = [b0, b1, b2]) (h0 : b0.toInt = k0) (h1 : b1.toInt = k1) (h2 : b2.toInt = k2) (hk : 97 ≤ k0 ∧ k0 ≤ 122 ∧ 97 ≤ k1 ∧ k1 ≤ 122 ∧ 97 ≤ k2 ∧ k2 ≤ 122) (hw : w.toInt = (k0 * 256 + k1) * 256 + k2) (ht : J 2 = M 48) (h : ∀ k, k < 4 → k < e - s → p_lc (M 48 (s + k))) : (m_wv M s e = w) ↔ ¬ u_sp J i s e = 0 := by
  obtain ⟨c0, c1, c2, c3, d0, d1, d2, d3, v0, v1, v2, v3, v4, v5⟩ := wv_val h
  rw [i64_ne _ hw]
  unfold u_sp
  rw [hl]
  simp only [u_spb, hb, ht, List.getD_cons_zero, List.getD_cons_succ, Bool.true_and, Bool.and_eq_true, beq_iff_eq, Nat.add_zero, i32_ne _ h0, i32_ne _ h1, i32_ne _ h2]
  constructor
  · intro q
    have hd : e - s = 3 := by omega
    rw [if_pos ⟨hd, by have := d0 (by omega); have := d1 (by omega); have := d2 (by omega); have := v3 hd; omega⟩]
    decide
  · intro q
    split at q
    · rename_i g
      have := d0 (by omega); have := d1 (by omega); have := d2 (by omega); have := v3 g.1
      omega
    · exact absurd rfl q
theorem sp4 {i : Nat} {b0 b1 b2 b3 : Int32} {w : Int64} {k0 k1 k2 k3 : Int} (hl : qLenS.getD i 0 = 4) (hb : qBytS.getD i [] = [b0, b1, b2, b3]) (h0 : b0.toInt = k0) (h1 : b1.toInt = k1) (h2 : b2.toInt = k2) (h3 : b3.toInt = k3) (hk : 97 ≤ k0 ∧ k0 ≤ 122 ∧ 97 ≤ k1 ∧ k1 ≤ 122 ∧ 97 ≤ k2 ∧ k2 ≤ 122 ∧ 97 ≤ k3 ∧ k3 ≤ 122) (hw : w.toInt = ((k0 * 256 + k1) * 256 + k2) * 256 + k3) (ht : J 2 = M 48) (h : ∀ k, k < 4 → k < e - s → p_lc (M 48 (s + k))) : (m_wv M s e = w) ↔ ¬ u_sp J i s e = 0 := by
  obtain ⟨c0, c1, c2, c3, d0, d1, d2, d3, v0, v1, v2, v3, v4, v5⟩ := wv_val h
  rw [i64_ne _ hw]
  unfold u_sp
  rw [hl]
  simp only [u_spb, hb, ht, List.getD_cons_zero, List.getD_cons_succ, Bool.true_and, Bool.and_eq_true, beq_iff_eq, Nat.add_zero, i32_ne _ h0, i32_ne _ h1, i32_ne _ h2, i32_ne _ h3]
  constructor
  · intro q
    have hd : e - s = 4 := by omega
    rw [if_pos ⟨hd, by have := d0 (by omega); have := d1 (by omega); have := d2 (by omega); have := d3 (by omega); have := v4 hd; omega⟩]
    decide
  · intro q
    split at q
    · rename_i g
      have := d0 (by omega); have := d1 (by omega); have := d2 (by omega); have := d3 (by omega); have := v4 g.1
      omega
    · exact absurd rfl q
/-- the word, read by both -/
theorem wd_eq (ht : J 2 = M 48) (h : ∀ k, k < 4 → k < e - s → p_lc (M 48 (s + k))) : m_wd M s e = u_word J s e := by
  have g0 := sp3 (i := 0) (w := 6710629) (J := J) (M := M) (s := s) (e := e) rfl rfl (k0 := 102) (k1 := 101) (k2 := 101) (by decide) (by decide) (by decide) (by decide) (by decide) ht h
  have g1 := sp4 (i := 1) (w := 1718773093) (J := J) (M := M) (s := s) (e := e) rfl rfl (k0 := 102) (k1 := 114) (k2 := 101) (k3 := 101) (by decide) (by decide) (by decide) (by decide) (by decide) (by decide) ht h
  have g2 := sp3 (i := 2) (w := 7170414) (J := J) (M := M) (s := s) (e := e) rfl rfl (k0 := 109) (k1 := 105) (k2 := 110) (by decide) (by decide) (by decide) (by decide) (by decide) ht h
  have g3 := sp3 (i := 3) (w := 7366002) (J := J) (M := M) (s := s) (e := e) rfl rfl (k0 := 112) (k1 := 101) (k2 := 114) (by decide) (by decide) (by decide) (by decide) (by decide) ht h
  have g4 := sp4 (i := 4) (w := 1953064306) (J := J) (M := M) (s := s) (e := e) rfl rfl (k0 := 116) (k1 := 105) (k2 := 101) (k3 := 114) (by decide) (by decide) (by decide) (by decide) (by decide) (by decide) ht h
  have g5 := sp4 (i := 5) (w := 1919251316) (J := J) (M := M) (s := s) (e := e) rfl rfl (k0 := 114) (k1 := 101) (k2 := 115) (k3 := 116) (by decide) (by decide) (by decide) (by decide) (by decide) (by decide) ht h
  unfold m_wd u_word
  simp only [g0, g1, g2, g3, g4, g5]
end WD
