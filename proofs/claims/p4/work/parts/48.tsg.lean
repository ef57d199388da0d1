/-! the class's parser: what stays, what holds behind each step -/
def rok (n : Nat) (I J : Nat → Nat → Int32) : Prop := (∃ a, a ≤ n ∧ J 1 4 = nI a) ∧ J 1 3 = I 1 3 ∧ J 1 5 = I 1 5 ∧ (∃ z, z ≤ 4 ∧ J 4 5 = nI z) ∧ ∀ k, k ≠ 1 → k ≠ 3 → k ≠ 4 → k ≠ 5 → k ≠ 6 → J k = I k
section RK
variable {n a z : Nat} {I J : Nat → Nat → Int32} {low w v : Int32}
theorem wI_c9 {I : Nat → Nat → Int32} {k j a : Nat} {v : Int32} (h : a ≠ k) : wI I k j v a = I a := by simp [wI, va_up, h]
theorem rok_rw (h : rok n I J) (ha2 : a ≤ n) : rok n I (u_rw J a n low) := by
  obtain ⟨h1, h2, h3, ⟨z, hz, h4⟩, h5⟩ := h
  refine ⟨⟨_, u_ra_le J ha2, u_rw_at⟩, (u_rw_ne (Or.inr ⟨by decide, by decide⟩)).trans h2, (u_rw_ne (Or.inr ⟨by decide, by decide⟩)).trans h3, ⟨z, hz, (u_rw_ne (Or.inl (by decide))).trans h4⟩, fun k k1 k3 k4 k5 k6 => ?_⟩
  rw [← h5 k k1 k3 k4 k5 k6]
  funext j
  exact u_rw_ne (Or.inl k1)
theorem rok_w {k j : Nat} (h : rok n I J) (hk : (k = 4 ∧ j ≠ 5) ∨ k = 5 ∨ k = 6 ∨ k = 3 ∨ (k = 1 ∧ j = 6)) : rok n I (wI J k j v) := by
  obtain ⟨⟨a, ha, h1⟩, h2, h3, ⟨z, hz, h4⟩, h5⟩ := h
  refine ⟨⟨a, ha, (wI_ne (by omega)).trans h1⟩, (wI_ne (by omega)).trans h2, (wI_ne (by omega)).trans h3, ⟨z, hz, (wI_ne (by omega)).trans h4⟩, fun q k1 k3 k4 k5 k6 => ?_⟩
  rw [wI_c9 (by omega)]
  exact h5 q k1 k3 k4 k5 k6
theorem rok_w45 (h : rok n I J) (hz : z ≤ 4) : rok n I (wI J 4 5 (nI z)) := by
  obtain ⟨⟨a, ha, h1⟩, h2, h3, -, h5⟩ := h
  refine ⟨⟨a, ha, (wI_ne (by omega)).trans h1⟩, (wI_ne (by omega)).trans h2, (wI_ne (by omega)).trans h3, ⟨z, hz, wI_at _ _ _ _⟩, fun q k1 k3 k4 k5 k6 => ?_⟩
  rw [wI_c9 (by omega)]
  exact h5 q k1 k3 k4 k5 k6
theorem rok_14 (h : rok n I J) (ha : a ≤ n) : rok n I (wI J 1 4 (nI a)) := by
  obtain ⟨-, h2, h3, ⟨z, hz, h4⟩, h5⟩ := h
  refine ⟨⟨a, ha, wI_at _ _ _ _⟩, (wI_ne (by omega)).trans h2, (wI_ne (by omega)).trans h3, ⟨z, hz, (wI_ne (by omega)).trans h4⟩, fun q k1 k3 k4 k5 k6 => ?_⟩
  rw [wI_c9 (by omega)]
  exact h5 q k1 k3 k4 k5 k6
theorem rok_0 (ha : I 1 4 = nI a) (ha2 : a ≤ n) (hz : I 4 5 = nI z) (hz2 : z ≤ 4) : rok n I I := ⟨⟨a, ha2, ha⟩, rfl, rfl, ⟨z, hz2, hz⟩, fun _ _ _ _ _ _ => rfl⟩
theorem rok_two2 (h : rok n I J) (ha2 : a ≤ n) (hz2 : z ≤ 4) : rok n I (u_two2 J a n z w low) := by
  have h1 : rok n I (u_rw J a n low) := rok_rw h ha2
  have h2 : rok n I (u_rw (u_rw J a n low) (u_ra J a n) n 0) := rok_rw h1 (u_ra_le J ha2)
  unfold u_two2
  split
  · exact h1
  split
  · exact h2
  split
  · split
    · exact h2
    · rename_i hz4
      have hz3 : z + 1 ≤ 4 := by
        have := mt (nI_leI (a := 4) (b := z) (by decide) (by omega)).mpr hz4
        omega
      exact rok_w45 (rok_w (rok_w h2 (by omega)) (by omega)) hz3
  · exact rok_w (rok_w h2 (by omega)) (by omega)
theorem rok_rns (h : rok n I J) (ha2 : a ≤ n) (hz2 : z ≤ 4) : rok n I (u_rns J a n z w) := by
  have h1 : rok n I (u_rw J a n 0) := rok_rw h ha2
  unfold u_rns
  split
  · exact rok_two2 h ha2 hz2
  split
  · exact h1
  split
  · exact rok_w h1 (by omega)
  split
  · exact rok_w h1 (by omega)
  split
  · exact rok_w h1 (by omega)
  · exact rok_w h1 (by omega)
theorem rok_ew (h : rok n I J) (ha2 : a ≤ n) : rok n I (u_ew J a n w) := by
  unfold u_ew
  split
  · split
    · exact rok_14 h ha2
    · exact rok_w (rok_14 h ha2) (by omega)
  split
  · rename_i h9
    exact rok_14 (rok_14 h ha2) (by omega)
  · exact rok_w (rok_14 h ha2) (by omega)
end RK
/-- one PART is read: the steps, and what becomes of the state -/
def aof (J : Nat → Nat → Int32) : Nat := (J 1 4).toNatClampNeg
def tof (J : Nat → Nat → Int32) : Nat := (J 4 5).toNatClampNeg
def u_p1 (I : Nat → Nat → Int32) (a n : Nat) : Nat → Nat → Int32 := wI I 1 4 (nI (u_bl I a n))
def u_pe (I : Nat → Nat → Int32) (a n : Nat) : Nat := u_lt (u_p1 I a n) (u_bl I a n) n
def u_p2 (I : Nat → Nat → Int32) (a n : Nat) : Nat → Nat → Int32 := wI (u_p1 I a n) 1 4 (nI (u_pe I a n))
def u_pw (I : Nat → Nat → Int32) (a n : Nat) : Int32 := u_word (u_p2 I a n) (u_bl I a n) (u_pe I a n)
def u_p3 (I : Nat → Nat → Int32) (a n : Nat) : Nat → Nat → Int32 := wI (u_p2 I a n) 3 (u_pw I a n).toNatClampNeg (vp_nar .boolean 1)
def u_p4 (I : Nat → Nat → Int32) (a n z : Nat) : Nat → Nat → Int32 := u_rns (u_p3 I a n) (u_pe I a n) n z (u_pw I a n)
def u_p5 (I : Nat → Nat → Int32) (a n z : Nat) : Nat → Nat → Int32 := u_ew (u_p4 I a n z) (u_bl (u_p4 I a n z) (aof (u_p4 I a n z)) n) n (u_pw I a n)
def u_part (I : Nat → Nat → Int32) (a n z : Nat) : Nat → Nat → Int32 := if u_pe I a n = u_bl I a n then wI (u_p2 I a n) 1 6 (nI (u_pe I a n)) else if u_can (u_p2 I a n) (u_pw I a n) = 0 then wI (u_p2 I a n) 1 6 (nI (u_bl I a n)) else if ¬ u_p4 I a n z 1 6 = -2 then u_p4 I a n z else u_p5 I a n z
section RP
variable {n a z : Nat} {I : Nat → Nat → Int32}
theorem u_pe_ok (ha2 : a ≤ n) : u_bl I a n ≤ u_pe I a n ∧ u_pe I a n ≤ n := ⟨(u_lt_ok (u_p1 I a n) (u_bl_ok I ha2).2.2.2).1, (u_lt_ok (u_p1 I a n) (u_bl_ok I ha2).2.2.2).2.2.2⟩
theorem rok_p2 (ha : I 1 4 = nI a) (ha2 : a ≤ n) (hz : I 4 5 = nI z) (hz2 : z ≤ 4) : rok n I (u_p2 I a n) := rok_14 (rok_14 (rok_0 ha ha2 hz hz2) (u_bl_ok I ha2).2.2.2) (u_pe_ok ha2).2
theorem rok_p4 (ha : I 1 4 = nI a) (ha2 : a ≤ n) (hz : I 4 5 = nI z) (hz2 : z ≤ 4) : rok n I (u_p4 I a n z) := rok_rns (rok_w (rok_p2 ha ha2 hz hz2) (by omega)) (u_pe_ok ha2).2 hz2
theorem aof_ok {J : Nat → Nat → Int32} (hn2 : n ≤ 60) (h : rok n I J) : J 1 4 = nI (aof J) ∧ aof J ≤ n := by
  obtain ⟨⟨a, ha, h1⟩, -⟩ := h
  have e : aof J = a := by unfold aof; rw [h1]; exact nI_clamp (by omega)
  rw [e]
  exact ⟨h1, ha⟩
theorem tof_ok {J : Nat → Nat → Int32} (h : rok n I J) : J 4 5 = nI (tof J) ∧ tof J ≤ 4 := by
  obtain ⟨-, -, -, ⟨z, hz, h1⟩, -⟩ := h
  have e : tof J = z := by unfold tof; rw [h1]; exact nI_clamp (by omega)
  rw [e]
  exact ⟨h1, hz⟩
theorem rok_part (hn2 : n ≤ 60) (ha : I 1 4 = nI a) (ha2 : a ≤ n) (hz : I 4 5 = nI z) (hz2 : z ≤ 4) : rok n I (u_part I a n z) := by
  have h2 := rok_p2 (n := n) ha ha2 hz hz2
  have h4 := rok_p4 (n := n) ha ha2 hz hz2
  unfold u_part
  split
  · exact rok_w h2 (by omega)
  split
  · exact rok_w h2 (by omega)
  split
  · exact h4
  · exact rok_ew h4 (u_bl_ok _ (aof_ok hn2 h4).2).2.2.2
end RP
