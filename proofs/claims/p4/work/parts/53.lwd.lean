/-! the law: decode rows, words -/
abbrev hh_text : List (Nat × Nat × Nat × Nat) := [(0, 9, 12, 13), (0, 9, 16, 15)]
theorem cw_text : Cond.codeWith y_lw_text b_lw_text 5 (some .int) hh_text ∈ qg := q_t2 143 rfl rfl
theorem sm_lw_text : Cond.static y_lw_text ∈ qg := q_t2 142 rfl rfl
abbrev hh_tariff : List (Nat × Nat × Nat × Nat) := [(0, 9, 12, 13)]
theorem cw_tariff : Cond.codeWith y_lw_tariff b_lw_tariff 4 (some .int) hh_tariff ∈ qg := q_t3 2 rfl rfl
theorem sm_lw_tariff : Cond.static y_lw_tariff ∈ qg := q_t3 1 rfl rfl
abbrev hh_use : List (Nat × Nat × Nat × Nat) := [(0, 9, 12, 13)]
theorem cw_use : Cond.codeWith y_lw_use b_lw_use 5 (some .int) hh_use ∈ qg := q_t3 173 rfl rfl
theorem sm_lw_use : Cond.static y_lw_use ∈ qg := q_t3 172 rfl rfl
abbrev hh_subscribe : List (Nat × Nat × Nat × Nat) := [(0, 10, 13, 13)]
theorem cw_subscribe : Cond.codeWith y_lw_subscribe b_lw_subscribe 5 (some .int) hh_subscribe ∈ qg := q_t3 181 rfl rfl
theorem sm_lw_subscribe : Cond.static y_lw_subscribe ∈ qg := q_t3 180 rfl rfl
abbrev hh_pause : List (Nat × Nat × Nat × Nat) := [(0, 17, 20, 13), (0, 17, 24, 15)]
theorem cw_pause : Cond.codeWith y_lw_pause b_lw_pause 5 (some .int) hh_pause ∈ qg := q_t3 203 rfl rfl
theorem sm_lw_pause : Cond.static y_lw_pause ∈ qg := q_t3 202 rfl rfl
abbrev hh_event : List (Nat × Nat × Nat × Nat) := [(0, 14, 17, 13), (0, 14, 21, 37), (0, 14, 25, 15)]
theorem cw_event : Cond.codeWith y_lw_event b_lw_event 7 (some .int) hh_event ∈ qg := q_t3 219 rfl rfl
theorem sm_lw_event : Cond.static y_lw_event ∈ qg := q_t3 218 rfl rfl
abbrev hh_tick : List (Nat × Nat × Nat × Nat) := [(0, 9, 12, 13), (0, 9, 15, 15)]
theorem cw_tick : Cond.codeWith y_lw_tick b_lw_tick 4 (some .int) hh_tick ∈ qg := q_t4 15 rfl rfl
theorem sm_lw_tick : Cond.static y_lw_tick ∈ qg := q_t4 14 rfl rfl
abbrev hh_pay : List (Nat × Nat × Nat × Nat) := [(0, 10, 13, 13)]
theorem cw_pay : Cond.codeWith y_lw_pay b_lw_pay 6 (some .int) hh_pay ∈ qg := q_t4 30 rfl rfl
theorem sm_lw_pay : Cond.static y_lw_pay ∈ qg := q_t4 29 rfl rfl
abbrev hh_plan : List (Nat × Nat × Nat × Nat) := [(0, 13, 16, 13), (0, 13, 20, 15)]
theorem cw_plan : Cond.codeWith y_lw_plan b_lw_plan 7 (some .int) hh_plan ∈ qg := q_t4 41 rfl rfl
theorem sm_lw_plan : Cond.static y_lw_plan ∈ qg := q_t4 40 rfl rfl
abbrev hh_charge : List (Nat × Nat × Nat × Nat) := [(0, 9, 12, 13)]
theorem cw_charge : Cond.codeWith y_lw_charge b_lw_charge 5 (some .int) hh_charge ∈ qg := q_t4 61 rfl rfl
theorem sm_lw_charge : Cond.static y_lw_charge ∈ qg := q_t4 60 rfl rfl
abbrev hh_invoice : List (Nat × Nat × Nat × Nat) := [(0, 9, 12, 56), (0, 9, 16, 13)]
theorem cw_invoice : Cond.codeWith y_lw_invoice b_lw_invoice 5 (some .int) hh_invoice ∈ qg := q_t4 68 rfl rfl
theorem sm_lw_invoice : Cond.static y_lw_invoice ∈ qg := q_t4 67 rfl rfl
abbrev hh_told : List (Nat × Nat × Nat × Nat) := [(0, 9, 12, 13)]
theorem cw_told : Cond.codeWith y_lw_told b_lw_told 5 (some .int) hh_told ∈ qg := q_t4 116 rfl rfl
theorem sm_lw_told : Cond.static y_lw_told ∈ qg := q_t4 115 rfl rfl
abbrev hh_books : List (Nat × Nat × Nat × Nat) := [(0, 8, 11, 13)]
theorem cw_books : Cond.codeWith y_lw_books b_lw_books 4 (some .int) hh_books ∈ qg := q_t4 143 rfl rfl
theorem sm_lw_books : Cond.static y_lw_books ∈ qg := q_t4 142 rfl rfl
abbrev hh_date : List (Nat × Nat × Nat × Nat) := [(0, 10, 13, 13)]
theorem cw_date : Cond.codeWith y_lw_date b_lw_date 5 (some .int) hh_date ∈ qg := q_t4 170 rfl rfl
theorem sm_lw_date : Cond.static y_lw_date ∈ qg := q_t4 169 rfl rfl
abbrev hh_count : List (Nat × Nat × Nat × Nat) := [(0, 9, 12, 13)]
theorem cw_count : Cond.codeWith y_lw_count b_lw_count 4 (some .int) hh_count ∈ qg := q_t4 183 rfl rfl
theorem sm_lw_count : Cond.static y_lw_count ∈ qg := q_t4 182 rfl rfl
theorem lk_lw_77 : Cond.methodLink "BillForgeLaw" 77 y_lw_text ∈ qg := q_t2 141 rfl rfl
theorem lk_lw_83 : Cond.methodLink "BillForgeLaw" 83 y_lw_tariff ∈ qg := q_t3 0 rfl rfl
theorem lk_lw_92 : Cond.methodLink "BillForgeLaw" 92 y_lw_use ∈ qg := q_t3 171 rfl rfl
theorem lk_lw_96 : Cond.methodLink "BillForgeLaw" 96 y_lw_subscribe ∈ qg := q_t3 179 rfl rfl
theorem lk_lw_99 : Cond.methodLink "BillForgeLaw" 99 y_lw_pause ∈ qg := q_t3 201 rfl rfl
theorem lk_lw_103 : Cond.methodLink "BillForgeLaw" 103 y_lw_event ∈ qg := q_t3 217 rfl rfl
theorem lk_lw_107 : Cond.methodLink "BillForgeLaw" 107 y_lw_tick ∈ qg := q_t4 13 rfl rfl
theorem lk_lw_114 : Cond.methodLink "BillForgeLaw" 114 y_lw_pay ∈ qg := q_t4 28 rfl rfl
theorem lk_lw_118 : Cond.methodLink "BillForgeLaw" 118 y_lw_plan ∈ qg := q_t4 39 rfl rfl
theorem lk_lw_122 : Cond.methodLink "BillForgeLaw" 122 y_lw_charge ∈ qg := q_t4 59 rfl rfl
theorem lk_lw_125 : Cond.methodLink "BillForgeLaw" 125 y_lw_invoice ∈ qg := q_t4 66 rfl rfl
theorem lk_lw_128 : Cond.methodLink "BillForgeLaw" 128 y_lw_told ∈ qg := q_t4 114 rfl rfl
theorem lk_lw_131 : Cond.methodLink "BillForgeLaw" 131 y_lw_books ∈ qg := q_t4 141 rfl rfl
theorem lk_lw_134 : Cond.methodLink "BillForgeLaw" 134 y_lw_date ∈ qg := q_t4 168 rfl rfl
theorem lk_lw_137 : Cond.methodLink "BillForgeLaw" 137 y_lw_count ∈ qg := q_t4 181 rfl rfl
theorem ti_xA : Cond.instantiable xA 6 ∈ qg := q_t2 154 rfl rfl
theorem ti_xS : Cond.instantiable xS 6 ∈ qg := q_t2 222 rfl rfl
theorem ti_xI : Cond.instantiable xI 6 ∈ qg := q_t3 226 rfl rfl
theorem ti_xN : Cond.instantiable xN 6 ∈ qg := q_t4 79 rfl rfl
theorem qRows_hit {own En : String} {pc a b h ty : Nat} {r : List (Nat × Nat × Nat × Nat)} (h1 : a ≤ pc) (h2 : pc < b) (h0 : ty ≠ 0) (hl : Cond.classLink own ty En ∈ qg) (hc : Cond.castable En En ∈ qFw) : qRows own En pc h ((a, b, h, ty) :: r) := ⟨h1, h2, h0, En, hl, Or.inl ⟨rfl, rfl, hc⟩⟩
theorem qRows_pass {own En Cn : String} {pc hpc a b h ty : Nat} {r : List (Nat × Nat × Nat × Nat)} (h1 : a ≤ pc) (h2 : pc < b) (h0 : ty ≠ 0) (hl : Cond.classLink own ty Cn ∈ qg) (hn : (En, Cn) ∈ qNc) (k : qRows own En pc hpc r) : qRows own En pc hpc ((a, b, h, ty) :: r) := ⟨h1, h2, h0, Cn, hl, Or.inr ⟨hn, k⟩⟩
/-- what a wrapper of the law gives: 0 and the world f1, or the number of what was thrown and the world f0 -/
def qEw (c : Prop) (f1 f0 : Nat → va_E) (cs : List (String × Int)) (P : String → Prop) : qE := fun v n' f' => 77 = n' ∧ ((c ∧ some (.int 0) = v ∧ f1 = f') ∨ ∃ q ∈ cs, P q.1 ∧ some (.int (Int32.ofInt q.2)) = v ∧ f0 = f')
/-- the same, where what is thrown leaves worlds of its own -/
def qEw3 (c : Prop) (f1 : Nat → va_E) (cs : List (String × Int)) (P : String → (Nat → va_E) → Prop) : qE := fun v n' f' => 77 = n' ∧ ((c ∧ some (.int 0) = v ∧ f1 = f') ∨ ∃ q ∈ cs, P q.1 f' ∧ some (.int (Int32.ofInt q.2)) = v)
theorem nI_p2 (a : Nat) : nI a + 2 = nI (a + 2) := by rw [← nI_1 (a + 1), ← nI_1 a, Int32.add_assoc]; rfl
theorem nI_p3 (a : Nat) : nI a + 3 = nI (a + 3) := by rw [← nI_1 (a + 2), ← nI_p2 a, Int32.add_assoc]; rfl
theorem nI_p4 (a : Nat) : nI a + 4 = nI (a + 4) := by rw [← nI_1 (a + 3), ← nI_p3 a, Int32.add_assoc]; rfl
theorem nI_p5 (a : Nat) : nI a + 5 = nI (a + 5) := by rw [← nI_1 (a + 4), ← nI_p4 a, Int32.add_assoc]; rfl
theorem qr_sldN {K : qK} {E : qE} {X : qXC} {pc : Nat} {lv : List (Nat × Value)} {st : List Value} {n kc ks : Nat} {f : Nat → va_E} {b L j : Nat} {xs : Nat → Int32} (hK : ∀ z ex s c, kP K z ex s c → qScr b L xs z ex s c) (hd : decode (kcc K) pc = .ok (.iaload, 1)) (hj : j < L) (hL : L < 2 ^ 31) (k : qR K E X (pc + 1) lv (.int (xs j) :: st) n kc ks f) : qR K E X pc lv (.int (nI j) :: .ref 77 :: st) n kc ks f :=
  qr_sld hK hd (vp_in_nI hj hL) (by rw [nI_clamp (Nat.lt_trans hj hL)]; exact k)
