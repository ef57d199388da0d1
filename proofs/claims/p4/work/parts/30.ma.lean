/-! BillForgeModel: object 47, rows 48 to 75 -/
theorem ix4 (t k : Nat) : (4 : Int32) * nI t + nI k = nI (4 * t + k) := by rw [show (4 : Int32) = nI 4 from rfl, pk_mul, nI_add]
theorem ix401 (c d : Nat) : (401 : Int32) * nI c + nI d = nI (401 * c + d) := by rw [show (401 : Int32) = nI 401 from rfl, pk_mul, nI_add]
def m_leap (y : Int32) : Int32 := if y - y / 4 * 4 = 0 ∧ (¬ y - y / 100 * 100 = 0 ∨ y - y / 400 * 400 = 0) then 1 else 0
def m_days (p : Int32) : Int32 := if p - p / 12 * 12 = 1 then (if m_leap (2000 + p / 12) = 0 then 28 else 29) else if p - p / 12 * 12 = 3 ∨ p - p / 12 * 12 = 5 ∨ p - p / 12 * 12 = 8 ∨ p - p / 12 * 12 = 10 then 30 else 31
def m_first : Nat → Int32
  | 0 => 0
  | k + 1 => m_first k + m_days (nI k)
def m_over (I : Nat → Nat → Int32) (L : Nat → Nat → Int64) (k : Nat) : Int32 := if L 70 k ≤ L 71 k then 0 else if I 47 2 - I 69 k - 14 ≤ 0 then 0 else I 47 2 - I 69 k - 14
def m_earn1 (I : Nat → Nat → Int32) (L : Nat → Nat → Int64) (k : Nat) : Int64 := if I 47 2 - I 74 k < I 73 k then L 75 k * Int32.toInt64 (I 47 2 - I 74 k) / Int32.toInt64 (I 73 k) else L 75 k
def m_open (I : Nat → Nat → Int32) (L : Nat → Nat → Int64) (c : Int32) : Nat → Int64
  | 0 => 0
  | k + 1 => if I 67 k = c then (if L 70 k ≤ L 71 k then m_open I L c k else m_open I L c k + (L 70 k - L 71 k)) else m_open I L c k
def m_live (I : Nat → Nat → Int32) (T c d : Nat) : Int32 := if d < T then I 62 (401 * c + d) - 1 else if T < d then -1 else if I 59 c = 1 then -1 else I 58 c
/-- price and priced behind the first k tiers -/
def m_pt (e p : Nat → Int32) (v : Int64) : Nat → Int64 × Int64
  | 0 => (0, 0)
  | k + 1 => if (m_pt e p v k).2 < (if v < Int32.toInt64 (e k) then v else Int32.toInt64 (e k)) then
      ((m_pt e p v k).1 + ((if v < Int32.toInt64 (e k) then v else Int32.toInt64 (e k)) - (m_pt e p v k).2) * Int32.toInt64 (p k), (if v < Int32.toInt64 (e k) then v else Int32.toInt64 (e k)))
    else m_pt e p v k
def m_v (u fr : Int64) : Int64 := if u ≤ fr then 0 else u - fr
def m_sum (I : Nat → Nat → Int32) (t z : Nat) (v : Int64) : Int64 := if I 52 t ≤ 0 then (m_pt (fun k => I 56 (4 * t + k)) (fun k => I 57 (4 * t + k)) v z).1 + (v - (m_pt (fun k => I 56 (4 * t + k)) (fun k => I 57 (4 * t + k)) v z).2) * Int32.toInt64 (I 55 t) else (v + Int32.toInt64 (I 52 t) - 1) / Int32.toInt64 (I 52 t) * Int32.toInt64 (I 53 t)
def m_priced (I : Nat → Nat → Int32) (t z : Nat) (u fr le : Int64) : Int64 := if m_sum I t z (m_v u fr) < le then le else m_sum I t z (m_v u fr)
set_option maxRecDepth 10000 in
theorem s_md_where (l : Launch) (x : Bool) (I : Nat → Nat → Int32) (L : Nat → Nat → Int64)  : qSp l y_md_where b_md_where 1 (some .int) x 1 0 0 [.ref 47] 77 (fm I L) (qD (some (.int (I 47 1))) 77 (fm (wI I 47 0 0) L)) := by
  refine qSp_of (ini := false) (by decide +kernel) (fun h => nomatch h) (Nat.le_of_ble_eq_true rfl) ?_
  show qR _ _ _ 0 [(0, .ref 47)] [] _ _ _ _
  refine qr_aload_n (pc := 0) d_md_where_0 rfl rfl ?_
  refine qr_iconst (v := 0) (pc := 1) d_md_where_1 (by decide) ?_
  refine qr_putI (pc := 2) d_md_where_2 fl_md_99 (by decide) (by decide) (c_47 _ _) (Nat.le_of_ble_eq_true rfl) (qFit_i _) (fun w => rfl) ?_
  refine qr_aload_n (pc := 5) d_md_where_5 rfl rfl ?_
  refine qr_get (v := .int (I 47 1)) (pc := 6) d_md_where_6 fl_md_7 (by decide) (by decide) (c_47 _ _) rfl ?_
  exact qr_iret (pc := 9) d_md_where_9 rfl rfl ⟨rfl, rfl, rfl⟩ (Nat.zero_le _) (Nat.zero_le _)
set_option maxRecDepth 10000 in
theorem s_md_refuse (l : Launch) (x : Bool) (I : Nat → Nat → Int32) (L : Nat → Nat → Int64) (h : Int32) : qSp l y_md_refuse b_md_refuse 2 (some .int) x 1 0 0 [.ref 47, .int h] 77 (fm I L) (qD (some (.int 0)) 77 (fm (wI I 47 0 h) L)) := by
  refine qSp_of (ini := false) (by decide +kernel) (fun h => nomatch h) (Nat.le_of_ble_eq_true rfl) ?_
  show qR _ _ _ 0 [(0, .ref 47), (1, .int h)] [] _ _ _ _
  refine qr_aload_n (pc := 0) d_md_refuse_0 rfl rfl ?_
  refine qr_iload_n (pc := 1) d_md_refuse_1 rfl rfl ?_
  refine qr_putI (pc := 2) d_md_refuse_2 fl_md_99 (by decide) (by decide) (c_47 _ _) (Nat.le_of_ble_eq_true rfl) (qFit_i _) (fun w => rfl) ?_
  refine qr_iconst (v := 0) (pc := 5) d_md_refuse_5 (by decide) ?_
  exact qr_iret (pc := 6) d_md_refuse_6 rfl rfl ⟨rfl, rfl, rfl⟩ (Nat.zero_le _) (Nat.zero_le _)
set_option maxRecDepth 10000 in
theorem s_md_in (l : Launch) (x : Bool) (n : Nat) (f : Nat → va_E) (v a b : Int64) : qSp l y_md_in b_md_in 6 (some .boolean) x 1 0 0 [.long v, .long a, .long b] n f (qD (some (.int (if a ≤ v ∧ v ≤ b then 1 else 0))) n f) := by
  refine qSp_of (ini := false) (by decide +kernel) (fun h => nomatch h) (Nat.le_of_ble_eq_true rfl) ?_
  show qR _ _ _ 0 [(0, .long v), (2, .long a), (4, .long b)] [] _ _ _ _
  refine qr_lload_n (pc := 0) d_md_in_0 rfl rfl ?_
  refine qr_lload_n (pc := 1) d_md_in_1 rfl rfl ?_
  refine qr_lcmp (pc := 2) d_md_in_2 ?_
  refine qr_if_lt (tgt := 17) (pc := 3) d_md_in_3 (by decide) (fun h3 => ?_) (fun h3 => ?_)
  · skip
    rw [lgc_lt] at h3
    have g3 := Int64.not_le.mpr h3
    refine qr_iconst (v := 0) (pc := 17) d_md_in_17 (by decide) ?_
    exact qr_iret (pc := 18) d_md_in_18 rfl rfl ⟨(by simp [Int64.not_lt, Int64.not_le, *]), rfl, rfl⟩ (Nat.zero_le _) (Nat.zero_le _)
  · skip
    rw [lgc_lt] at h3
    have g3 := Int64.not_lt.mp h3
    refine qr_lload_n (pc := 6) d_md_in_6 rfl rfl ?_
    refine qr_lload (pc := 7) d_md_in_7 rfl ?_
    refine qr_lcmp (pc := 9) d_md_in_9 ?_
    refine qr_if_gt (tgt := 17) (pc := 10) d_md_in_10 (by decide) (fun h10 => ?_) (fun h10 => ?_)
    · skip
      rw [lgc_gt] at h10
      have g10 := Int64.not_le.mpr h10
      refine qr_iconst (v := 0) (pc := 17) d_md_in_17 (by decide) ?_
      exact qr_iret (pc := 18) d_md_in_18 rfl rfl ⟨(by simp [Int64.not_lt, Int64.not_le, *]), rfl, rfl⟩ (Nat.zero_le _) (Nat.zero_le _)
    · skip
      rw [lgc_gt] at h10
      have g10 := Int64.not_lt.mp h10
      refine qr_iconst (v := 1) (pc := 13) d_md_in_13 (by decide) ?_
      refine qr_goto (tgt := 18) (pc := 14) d_md_in_14 (by decide) ?_
      exact qr_iret (pc := 18) d_md_in_18 rfl rfl ⟨(by simp [Int64.not_lt, Int64.not_le, *]), rfl, rfl⟩ (Nat.zero_le _) (Nat.zero_le _)
set_option maxRecDepth 10000 in
theorem s_md_isDigit (l : Launch) (x : Bool) (n : Nat) (f : Nat → va_E) (c : Int32) : qSp l y_md_isDigit b_md_isDigit 1 (some .boolean) x 2 0 0 [.int c] n f (qD (some (.int (if 48 ≤ Int32.toInt64 c ∧ Int32.toInt64 c ≤ 57 then 1 else 0))) n f) := by
  refine qSp_of (ini := false) (by decide +kernel) (fun h => nomatch h) (Nat.le_of_ble_eq_true rfl) ?_
  show qR _ _ _ 0 [(0, .int c)] [] _ _ _ _
  refine qr_iload_n (pc := 0) d_md_isDigit_0 rfl rfl ?_
  refine qr_i2l (pc := 1) d_md_isDigit_1 ?_
  refine qr_ldc2 (v := 48) (pc := 2) d_md_isDigit_2 kl_md_124 ?_
  refine qr_ldc2 (v := 57) (pc := 5) d_md_isDigit_5 kl_md_126 ?_
  refine qr_callS (As := [.long (Int32.toInt64 c), .long 48, .long 57]) (pc := 8) d_md_isDigit_8 lk_md_106 sm_md_in (s_md_in _ x _ _ (Int32.toInt64 c) 48 57) rfl rfl (Nat.le_of_ble_eq_true rfl) (Nat.le_of_ble_eq_true rfl) (Nat.le_of_ble_eq_true rfl) (Nat.zero_le _) (Nat.zero_le _) (fun h => ⟨h, rfl, Or.inl rfl⟩) (fun v n9 f9 hE8 => ?_)
  obtain ⟨rfl, rfl, rfl⟩ := hE8
  exact qr_iret (pc := 11) d_md_isDigit_11 rfl (qB.nar (qB_if _)) ⟨rfl, rfl, rfl⟩ (Nat.zero_le _) (Nat.zero_le _)
set_option maxRecDepth 10000 in
theorem s_md_leaps (l : Launch) (x : Bool) (n : Nat) (f : Nat → va_E) (y : Int32) : qSp l y_md_leaps b_md_leaps 1 (some .boolean) x 1 0 0 [.int y] n f (qD (some (.int (m_leap y))) n f) := by
  refine qSp_of (ini := false) (by decide +kernel) (fun h => nomatch h) (Nat.le_of_ble_eq_true rfl) ?_
  show qR _ _ _ 0 [(0, .int y)] [] _ _ _ _
  refine qr_iload_n (pc := 0) d_md_leaps_0 rfl rfl ?_
  refine qr_iconst (v := 4) (pc := 1) d_md_leaps_1 (by decide) ?_
  refine qr_irem (pc := 2) d_md_leaps_2 (by decide) ?_
  refine qr_if_ne (tgt := 25) (pc := 3) d_md_leaps_3 (by decide) (fun h3 => ?_) (fun h3 => ?_)
  · skip
    refine qr_iconst (v := 0) (pc := 25) d_md_leaps_25 (by decide) ?_
    exact qr_iret (pc := 26) d_md_leaps_26 rfl rfl ⟨(by simp [m_leap, *]), rfl, rfl⟩ (Nat.zero_le _) (Nat.zero_le _)
  · skip
    refine qr_iload_n (pc := 6) d_md_leaps_6 rfl rfl ?_
    refine qr_bipush (v := 100) (pc := 7) d_md_leaps_7 (by decide) ?_
    refine qr_irem (pc := 9) d_md_leaps_9 (by decide) ?_
    refine qr_if_ne (tgt := 21) (pc := 10) d_md_leaps_10 (by decide) (fun h10 => ?_) (fun h10 => ?_)
    · skip
      refine qr_iconst (v := 1) (pc := 21) d_md_leaps_21 (by decide) ?_
      refine qr_goto (tgt := 26) (pc := 22) d_md_leaps_22 (by decide) ?_
      exact qr_iret (pc := 26) d_md_leaps_26 rfl rfl ⟨(by simp [m_leap, *]), rfl, rfl⟩ (Nat.zero_le _) (Nat.zero_le _)
    · skip
      refine qr_iload_n (pc := 13) d_md_leaps_13 rfl rfl ?_
      refine qr_sipush (v := 400) (pc := 14) d_md_leaps_14 (by decide) ?_
      refine qr_irem (pc := 17) d_md_leaps_17 (by decide) ?_
      refine qr_if_ne (tgt := 25) (pc := 18) d_md_leaps_18 (by decide) (fun h18 => ?_) (fun h18 => ?_)
      · skip
        refine qr_iconst (v := 0) (pc := 25) d_md_leaps_25 (by decide) ?_
        exact qr_iret (pc := 26) d_md_leaps_26 rfl rfl ⟨(by simp [m_leap, *]), rfl, rfl⟩ (Nat.zero_le _) (Nat.zero_le _)
      · skip
        refine qr_iconst (v := 1) (pc := 21) d_md_leaps_21 (by decide) ?_
        refine qr_goto (tgt := 26) (pc := 22) d_md_leaps_22 (by decide) ?_
        exact qr_iret (pc := 26) d_md_leaps_26 rfl rfl ⟨(by simp [m_leap, *]), rfl, rfl⟩ (Nat.zero_le _) (Nat.zero_le _)
set_option maxRecDepth 10000 in
theorem s_md_daysOf (l : Launch) (x : Bool) (n : Nat) (f : Nat → va_E) (p : Int32) : qSp l y_md_daysOf b_md_daysOf 3 (some .int) x 2 0 0 [.int p] n f (qD (some (.int (m_days p))) n f) := by
  refine qSp_of (ini := false) (by decide +kernel) (fun h => nomatch h) (Nat.le_of_ble_eq_true rfl) ?_
  show qR _ _ _ 0 [(0, .int p)] [] _ _ _ _
  refine qr_iload_n (pc := 0) d_md_daysOf_0 rfl rfl ?_
  refine qr_bipush (v := 12) (pc := 1) d_md_daysOf_1 (by decide) ?_
  refine qr_irem (pc := 3) d_md_daysOf_3 (by decide) ?_
  refine qr_istore_n (lv' := [(1, .int (p - p / 12 * 12)), (0, .int p)]) (pc := 4) d_md_daysOf_4 rfl (Nat.le_of_ble_eq_true rfl) rfl ?_
  refine qr_sipush (v := 2000) (pc := 5) d_md_daysOf_5 (by decide) ?_
  refine qr_iload_n (pc := 8) d_md_daysOf_8 rfl rfl ?_
  refine qr_bipush (v := 12) (pc := 9) d_md_daysOf_9 (by decide) ?_
  refine qr_idiv (pc := 11) d_md_daysOf_11 (by decide) ?_
  refine qr_iadd (pc := 12) d_md_daysOf_12 ?_
  refine qr_istore_n (lv' := [(2, .int (2000 + (p / 12))), (1, .int (p - p / 12 * 12)), (0, .int p)]) (pc := 13) d_md_daysOf_13 rfl (Nat.le_of_ble_eq_true rfl) rfl ?_
  refine qr_iload_n (pc := 14) d_md_daysOf_14 rfl rfl ?_
  refine qr_iconst (v := 1) (pc := 15) d_md_daysOf_15 (by decide) ?_
  refine qr_icmp_ne (tgt := 34) (pc := 16) d_md_daysOf_16 (by decide) (fun h16 => ?_) (fun h16 => ?_)
  · skip
    refine qr_iload_n (pc := 34) d_md_daysOf_34 rfl rfl ?_
    refine qr_iconst (v := 3) (pc := 35) d_md_daysOf_35 (by decide) ?_
    refine qr_icmp_eq (tgt := 56) (pc := 36) d_md_daysOf_36 (by decide) (fun h36 => ?_) (fun h36 => ?_)
    · skip
      refine qr_bipush (v := 30) (pc := 56) d_md_daysOf_56 (by decide) ?_
      refine qr_goto (tgt := 63) (pc := 58) d_md_daysOf_58 (by decide) ?_
      exact qr_iret (pc := 63) d_md_daysOf_63 rfl rfl ⟨(by simp [m_days, *]), rfl, rfl⟩ (Nat.zero_le _) (Nat.zero_le _)
    · skip
      refine qr_iload_n (pc := 39) d_md_daysOf_39 rfl rfl ?_
      refine qr_iconst (v := 5) (pc := 40) d_md_daysOf_40 (by decide) ?_
      refine qr_icmp_eq (tgt := 56) (pc := 41) d_md_daysOf_41 (by decide) (fun h41 => ?_) (fun h41 => ?_)
      · skip
        refine qr_bipush (v := 30) (pc := 56) d_md_daysOf_56 (by decide) ?_
        refine qr_goto (tgt := 63) (pc := 58) d_md_daysOf_58 (by decide) ?_
        exact qr_iret (pc := 63) d_md_daysOf_63 rfl rfl ⟨(by simp [m_days, *]), rfl, rfl⟩ (Nat.zero_le _) (Nat.zero_le _)
      · skip
        refine qr_iload_n (pc := 44) d_md_daysOf_44 rfl rfl ?_
        refine qr_bipush (v := 8) (pc := 45) d_md_daysOf_45 (by decide) ?_
        refine qr_icmp_eq (tgt := 56) (pc := 47) d_md_daysOf_47 (by decide) (fun h47 => ?_) (fun h47 => ?_)
        · skip
          refine qr_bipush (v := 30) (pc := 56) d_md_daysOf_56 (by decide) ?_
          refine qr_goto (tgt := 63) (pc := 58) d_md_daysOf_58 (by decide) ?_
          exact qr_iret (pc := 63) d_md_daysOf_63 rfl rfl ⟨(by simp [m_days, *]), rfl, rfl⟩ (Nat.zero_le _) (Nat.zero_le _)
        · skip
          refine qr_iload_n (pc := 50) d_md_daysOf_50 rfl rfl ?_
          refine qr_bipush (v := 10) (pc := 51) d_md_daysOf_51 (by decide) ?_
          refine qr_icmp_ne (tgt := 61) (pc := 53) d_md_daysOf_53 (by decide) (fun h53 => ?_) (fun h53 => ?_)
          · skip
            refine qr_bipush (v := 31) (pc := 61) d_md_daysOf_61 (by decide) ?_
            exact qr_iret (pc := 63) d_md_daysOf_63 rfl rfl ⟨(by simp [m_days, *]), rfl, rfl⟩ (Nat.zero_le _) (Nat.zero_le _)
          · skip
            refine qr_bipush (v := 30) (pc := 56) d_md_daysOf_56 (by decide) ?_
            refine qr_goto (tgt := 63) (pc := 58) d_md_daysOf_58 (by decide) ?_
            exact qr_iret (pc := 63) d_md_daysOf_63 rfl rfl ⟨(by simp [m_days, *]), rfl, rfl⟩ (Nat.zero_le _) (Nat.zero_le _)
  · skip
    refine qr_iload_n (pc := 19) d_md_daysOf_19 rfl rfl ?_
    refine qr_callS (As := [.int (2000 + (p / 12))]) (pc := 20) d_md_daysOf_20 lk_md_178 sm_md_leaps (s_md_leaps _ x _ _ (2000 + (p / 12))) rfl rfl (Nat.le_of_ble_eq_true rfl) (Nat.le_of_ble_eq_true rfl) (Nat.le_of_ble_eq_true rfl) (Nat.zero_le _) (Nat.zero_le _) (fun h => ⟨h, rfl, Or.inl rfl⟩) (fun v n9 f9 hE20 => ?_)
    obtain ⟨rfl, rfl, rfl⟩ := hE20
    refine qr_if_eq (tgt := 31) (pc := 23) d_md_daysOf_23 (by decide) (fun h23 => ?_) (fun h23 => ?_)
    · skip
      refine qr_bipush (v := 28) (pc := 31) d_md_daysOf_31 (by decide) ?_
      exact qr_iret (pc := 33) d_md_daysOf_33 rfl rfl ⟨(by simp [m_days, *]), rfl, rfl⟩ (Nat.zero_le _) (Nat.zero_le _)
    · skip
      refine qr_bipush (v := 29) (pc := 26) d_md_daysOf_26 (by decide) ?_
      refine qr_goto (tgt := 33) (pc := 28) d_md_daysOf_28 (by decide) ?_
      exact qr_iret (pc := 33) d_md_daysOf_33 rfl rfl ⟨(by simp [m_days, *]), rfl, rfl⟩ (Nat.zero_le _) (Nat.zero_le _)
set_option maxRecDepth 10000 in
theorem s_md_firstOf (l : Launch) (x : Bool) (n : Nat) (f : Nat → va_E) (P : Nat) (hP : P < 100000) : qSp l y_md_firstOf b_md_firstOf 3 (some .int) x 3 0 0 [.int (nI P)] n f (qD (some (.int (m_first P))) n f) := by
  refine qSp_of (ini := false) (by decide +kernel) (fun h => nomatch h) (Nat.le_of_ble_eq_true rfl) ?_
  show qR _ _ _ 0 [(0, .int (nI P))] [] _ _ _ _
  refine qr_iconst (v := 0) (pc := 0) d_md_firstOf_0 (by decide) ?_
  refine qr_istore_n (lv' := [(1, .int 0), (0, .int (nI P))]) (pc := 1) d_md_firstOf_1 rfl (Nat.le_of_ble_eq_true rfl) rfl ?_
  refine qr_iconst (v := 0) (pc := 2) d_md_firstOf_2 (by decide) ?_
  refine qr_istore_n (lv' := [(2, .int 0), (1, .int 0), (0, .int (nI P))]) (pc := 3) d_md_firstOf_3 rfl (Nat.le_of_ble_eq_true rfl) rfl ?_
  have loop4 : ∀ (j k : Nat), P - k < j → k ≤ P → qR (l, y_md_firstOf.cls, b_md_firstOf, 3, (some .int), false, x, 3, 0, 0, n, q0) (qD (some (.int (m_first P))) n f) (fun _ _ _ => False) 4 [(2, .int (nI k)), (1, .int (m_first k)), (0, .int (nI P))] [] n 0 0 f := by
    intro j
    induction j with
    | zero => intro k hj; omega
    | succ j ih =>
    intro k hjj hk
    refine qr_iload_n (pc := 4) d_md_firstOf_4 rfl rfl ?_
    refine qr_iload_n (pc := 5) d_md_firstOf_5 rfl rfl ?_
    refine qr_icmp_ge (tgt := 22) (pc := 6) d_md_firstOf_6 (by decide) (fun h6 => ?_) (fun h6 => ?_)
    · skip
      have hkz : P = k := by
        have := (nI_leI (a := P) (b := k) (by omega) (by omega)).mp h6
        omega
      subst hkz
      refine qr_iload_n (pc := 22) d_md_firstOf_22 rfl rfl ?_
      exact qr_iret (pc := 23) d_md_firstOf_23 rfl rfl ⟨rfl, rfl, rfl⟩ (Nat.zero_le _) (Nat.zero_le _)
    · skip
      have hkz : k < P := by
        have := mt (nI_leI (a := P) (b := k) (by omega) (by omega)).mpr h6
        omega
      refine qr_iload_n (pc := 9) d_md_firstOf_9 rfl rfl ?_
      refine qr_iload_n (pc := 10) d_md_firstOf_10 rfl rfl ?_
      refine qr_callS (As := [.int (nI k)]) (pc := 11) d_md_firstOf_11 lk_md_181 sm_md_daysOf (s_md_daysOf _ x _ _ (nI k)) rfl rfl (Nat.le_of_ble_eq_true rfl) (Nat.le_of_ble_eq_true rfl) (Nat.le_of_ble_eq_true rfl) (Nat.zero_le _) (Nat.zero_le _) (fun h => ⟨h, rfl, Or.inl rfl⟩) (fun v n9 f9 hE11 => ?_)
      obtain ⟨rfl, rfl, rfl⟩ := hE11
      refine qr_iadd (pc := 14) d_md_firstOf_14 ?_
      refine qr_istore_n (lv' := [(1, .int ((m_first k) + (m_days (nI k)))), (2, .int (nI k)), (0, .int (nI P))]) (pc := 15) d_md_firstOf_15 rfl (Nat.le_of_ble_eq_true rfl) rfl ?_
      refine qr_iinc (v := nI (k + 1)) (lv' := [(2, .int (nI (k + 1))), (1, .int ((m_first k) + (m_days (nI k)))), (0, .int (nI P))]) (pc := 16) d_md_firstOf_16 rfl (nI_1 k) (Nat.le_of_ble_eq_true rfl) rfl ?_
      refine qr_goto (tgt := 4) (pc := 19) d_md_firstOf_19 (by decide) ?_
      exact qR_st (by rfl) rfl (rfl) (ih (k + 1) (by omega) (by omega))
  exact loop4 (P + 1) 0 (by omega) (by omega)
set_option maxRecDepth 10000 in
theorem s_md_overdue (l : Launch) (x : Bool) (I : Nat → Nat → Int32) (L : Nat → Nat → Int64) (i : Nat) (hi : i < 50) : qSp l y_md_overdue b_md_overdue 3 (some .int) x 1 0 0 [.ref 47, .int (nI i)] 77 (fm I L) (qD (some (.int (m_over I L i))) 77 (fm I L)) := by
  refine qSp_of (ini := false) (by decide +kernel) (fun h => nomatch h) (Nat.le_of_ble_eq_true rfl) ?_
  show qR _ _ _ 0 [(0, .ref 47), (1, .int (nI i))] [] _ _ _ _
  refine qr_aload_n (pc := 0) d_md_overdue_0 rfl rfl ?_
  refine qr_get (v := .int (I 47 2)) (pc := 1) d_md_overdue_1 fl_md_188 (by decide) (by decide) (c_47 _ _) rfl ?_
  refine qr_aload_n (pc := 4) d_md_overdue_4 rfl rfl ?_
  refine qr_get (v := .ref 69) (pc := 5) d_md_overdue_5 fl_md_78 (by decide) (by decide) (c_47 _ _) rfl ?_
  refine qr_iload_n (pc := 8) d_md_overdue_8 rfl rfl ?_
  refine qr_ialdN (j := i) (pc := 9) d_md_overdue_9 (by decide) (by decide) (c_69 _ _) (by omega) (by decide) ?_
  refine qr_isub (pc := 10) d_md_overdue_10 ?_
  refine qr_bipush (v := 14) (pc := 11) d_md_overdue_11 (by decide) ?_
  refine qr_isub (pc := 13) d_md_overdue_13 ?_
  refine qr_istore_n (lv' := [(2, .int (((I 47 2) - (I 69 i)) - 14)), (0, .ref 47), (1, .int (nI i))]) (pc := 14) d_md_overdue_14 rfl (Nat.le_of_ble_eq_true rfl) rfl ?_
  refine qr_aload_n (pc := 15) d_md_overdue_15 rfl rfl ?_
  refine qr_get (v := .ref 70) (pc := 16) d_md_overdue_16 fl_md_81 (by decide) (by decide) (c_47 _ _) rfl ?_
  refine qr_iload_n (pc := 19) d_md_overdue_19 rfl rfl ?_
  refine qr_laldN (j := i) (pc := 20) d_md_overdue_20 (by decide) (by decide) (c_70 _ _) (by omega) (by decide) ?_
  refine qr_aload_n (pc := 21) d_md_overdue_21 rfl rfl ?_
  refine qr_get (v := .ref 71) (pc := 22) d_md_overdue_22 fl_md_84 (by decide) (by decide) (c_47 _ _) rfl ?_
  refine qr_iload_n (pc := 25) d_md_overdue_25 rfl rfl ?_
  refine qr_laldN (j := i) (pc := 26) d_md_overdue_26 (by decide) (by decide) (c_71 _ _) (by omega) (by decide) ?_
  refine qr_lcmp (pc := 27) d_md_overdue_27 ?_
  refine qr_if_le (tgt := 39) (pc := 28) d_md_overdue_28 (by decide) (fun h28 => ?_) (fun h28 => ?_)
  · skip
    rw [lgc_le] at h28
    refine qr_iconst (v := 0) (pc := 39) d_md_overdue_39 (by decide) ?_
    exact qr_iret (pc := 40) d_md_overdue_40 rfl rfl ⟨(by simp [m_over, *]), rfl, rfl⟩ (Nat.zero_le _) (Nat.zero_le _)
  · skip
    rw [lgc_le] at h28
    refine qr_iload_n (pc := 31) d_md_overdue_31 rfl rfl ?_
    refine qr_if_le (tgt := 39) (pc := 32) d_md_overdue_32 (by decide) (fun h32 => ?_) (fun h32 => ?_)
    · skip
      refine qr_iconst (v := 0) (pc := 39) d_md_overdue_39 (by decide) ?_
      exact qr_iret (pc := 40) d_md_overdue_40 rfl rfl ⟨(by simp [m_over, *]), rfl, rfl⟩ (Nat.zero_le _) (Nat.zero_le _)
    · skip
      refine qr_iload_n (pc := 35) d_md_overdue_35 rfl rfl ?_
      refine qr_goto (tgt := 40) (pc := 36) d_md_overdue_36 (by decide) ?_
      exact qr_iret (pc := 40) d_md_overdue_40 rfl rfl ⟨(by simp [m_over, *]), rfl, rfl⟩ (Nat.zero_le _) (Nat.zero_le _)
set_option maxRecDepth 10000 in
theorem s_md_earned (l : Launch) (x : Bool) (I : Nat → Nat → Int32) (L : Nat → Nat → Int64) (i : Nat) (hi : i < 10) (hd : 1 ≤ I 73 i) : qSp l y_md_earned b_md_earned 3 (some .long) x 1 0 0 [.ref 47, .int (nI i)] 77 (fm I L) (qD (some (.long (m_earn1 I L i))) 77 (fm I L)) := by
  refine qSp_of (ini := false) (by decide +kernel) (fun h => nomatch h) (Nat.le_of_ble_eq_true rfl) ?_
  show qR _ _ _ 0 [(0, .ref 47), (1, .int (nI i))] [] _ _ _ _
  refine qr_aload_n (pc := 0) d_md_earned_0 rfl rfl ?_
  refine qr_get (v := .int (I 47 2)) (pc := 1) d_md_earned_1 fl_md_188 (by decide) (by decide) (c_47 _ _) rfl ?_
  refine qr_aload_n (pc := 4) d_md_earned_4 rfl rfl ?_
  refine qr_get (v := .ref 74) (pc := 5) d_md_earned_5 fl_md_93 (by decide) (by decide) (c_47 _ _) rfl ?_
  refine qr_iload_n (pc := 8) d_md_earned_8 rfl rfl ?_
  refine qr_ialdN (j := i) (pc := 9) d_md_earned_9 (by decide) (by decide) (c_74 _ _) (by omega) (by decide) ?_
  refine qr_isub (pc := 10) d_md_earned_10 ?_
  refine qr_istore_n (lv' := [(2, .int ((I 47 2) - (I 74 i))), (0, .ref 47), (1, .int (nI i))]) (pc := 11) d_md_earned_11 rfl (Nat.le_of_ble_eq_true rfl) rfl ?_
  refine qr_iload_n (pc := 12) d_md_earned_12 rfl rfl ?_
  refine qr_aload_n (pc := 13) d_md_earned_13 rfl rfl ?_
  refine qr_get (v := .ref 73) (pc := 14) d_md_earned_14 fl_md_90 (by decide) (by decide) (c_47 _ _) rfl ?_
  refine qr_iload_n (pc := 17) d_md_earned_17 rfl rfl ?_
  refine qr_ialdN (j := i) (pc := 18) d_md_earned_18 (by decide) (by decide) (c_73 _ _) (by omega) (by decide) ?_
  refine qr_icmp_lt (tgt := 31) (pc := 19) d_md_earned_19 (by decide) (fun h19 => ?_) (fun h19 => ?_)
  · skip
    refine qr_aload_n (pc := 31) d_md_earned_31 rfl rfl ?_
    refine qr_get (v := .ref 75) (pc := 32) d_md_earned_32 fl_md_96 (by decide) (by decide) (c_47 _ _) rfl ?_
    refine qr_iload_n (pc := 35) d_md_earned_35 rfl rfl ?_
    refine qr_laldN (j := i) (pc := 36) d_md_earned_36 (by decide) (by decide) (c_75 _ _) (by omega) (by decide) ?_
    refine qr_iload_n (pc := 37) d_md_earned_37 rfl rfl ?_
    refine qr_i2l (pc := 38) d_md_earned_38 ?_
    refine qr_lmul (pc := 39) d_md_earned_39 ?_
    refine qr_aload_n (pc := 40) d_md_earned_40 rfl rfl ?_
    refine qr_get (v := .ref 73) (pc := 41) d_md_earned_41 fl_md_90 (by decide) (by decide) (c_47 _ _) rfl ?_
    refine qr_iload_n (pc := 44) d_md_earned_44 rfl rfl ?_
    refine qr_ialdN (j := i) (pc := 45) d_md_earned_45 (by decide) (by decide) (c_73 _ _) (by omega) (by decide) ?_
    refine qr_i2l (pc := 46) d_md_earned_46 ?_
    refine qr_ldiv (pc := 47) d_md_earned_47 (i2l_ne hd) ?_
    exact qr_lret (pc := 48) d_md_earned_48 rfl ⟨(by simp [m_earn1, *]), rfl, rfl⟩ (Nat.zero_le _) (Nat.zero_le _)
  · skip
    refine qr_aload_n (pc := 22) d_md_earned_22 rfl rfl ?_
    refine qr_get (v := .ref 75) (pc := 23) d_md_earned_23 fl_md_96 (by decide) (by decide) (c_47 _ _) rfl ?_
    refine qr_iload_n (pc := 26) d_md_earned_26 rfl rfl ?_
    refine qr_laldN (j := i) (pc := 27) d_md_earned_27 (by decide) (by decide) (c_75 _ _) (by omega) (by decide) ?_
    refine qr_goto (tgt := 48) (pc := 28) d_md_earned_28 (by decide) ?_
    exact qr_lret (pc := 48) d_md_earned_48 rfl ⟨(by simp [m_earn1, *]), rfl, rfl⟩ (Nat.zero_le _) (Nat.zero_le _)
set_option maxRecDepth 10000 in
theorem s_md_open (l : Launch) (x : Bool) (I : Nat → Nat → Int32) (L : Nat → Nat → Int64) (z : Nat) (hz : I 47 29 = nI z) (hz2 : z ≤ 50) (c : Int32) : qSp l y_md_open b_md_open 5 (some .long) x 1 0 0 [.ref 47, .int c] 77 (fm I L) (qD (some (.long (m_open I L c z))) 77 (fm I L)) := by
  refine qSp_of (ini := false) (by decide +kernel) (fun h => nomatch h) (Nat.le_of_ble_eq_true rfl) ?_
  show qR _ _ _ 0 [(0, .ref 47), (1, .int c)] [] _ _ _ _
  refine qr_lconst (v := 0) (pc := 0) d_md_open_0 (by decide) ?_
  refine qr_lstore_n (lv' := [(2, .long 0), (0, .ref 47), (1, .int c)]) (pc := 1) d_md_open_1 rfl (Nat.le_of_ble_eq_true rfl) rfl ?_
  refine qr_iconst (v := 0) (pc := 2) d_md_open_2 (by decide) ?_
  refine qr_istore (lv' := [(4, .int 0), (2, .long 0), (0, .ref 47), (1, .int c)]) (pc := 3) d_md_open_3 (Nat.le_of_ble_eq_true rfl) rfl ?_
  have loop5 : ∀ (j k : Nat), z - k < j → k ≤ z → qR (l, y_md_open.cls, b_md_open, 5, (some .long), false, x, 1, 0, 0, 77, q0) (qD (some (.long (m_open I L c z))) 77 (fm I L)) (fun _ _ _ => False) 5 [(4, .int (nI k)), (2, .long (m_open I L c k)), (0, .ref 47), (1, .int c)] [] 77 0 0 (fm I L) := by
    intro j
    induction j with
    | zero => intro k hj; omega
    | succ j ih =>
    intro k hjj hk
    refine qr_iload (pc := 5) d_md_open_5 rfl ?_
    refine qr_aload_n (pc := 7) d_md_open_7 rfl rfl ?_
    refine qr_get (v := .int (nI z)) (pc := 8) d_md_open_8 fl_md_213 (by decide) (by decide) (c_47 _ _) (congrArg (fun t => some (Value.int t)) hz) ?_
    refine qr_icmp_ge (tgt := 67) (pc := 11) d_md_open_11 (by decide) (fun h11 => ?_) (fun h11 => ?_)
    · skip
      have hkz : z = k := by
        have := (nI_leI (a := z) (b := k) (by omega) (by omega)).mp h11
        omega
      subst hkz
      refine qr_lload_n (pc := 67) d_md_open_67 rfl rfl ?_
      exact qr_lret (pc := 68) d_md_open_68 rfl ⟨rfl, rfl, rfl⟩ (Nat.zero_le _) (Nat.zero_le _)
    · skip
      have hkz : k < z := by
        have := mt (nI_leI (a := z) (b := k) (by omega) (by omega)).mpr h11
        omega
      refine qr_aload_n (pc := 14) d_md_open_14 rfl rfl ?_
      refine qr_get (v := .ref 67) (pc := 15) d_md_open_15 fl_md_72 (by decide) (by decide) (c_47 _ _) rfl ?_
      refine qr_iload (pc := 18) d_md_open_18 rfl ?_
      refine qr_ialdN (j := k) (pc := 20) d_md_open_20 (by decide) (by decide) (c_67 _ _) (by omega) (by decide) ?_
      refine qr_iload_n (pc := 21) d_md_open_21 rfl rfl ?_
      refine qr_icmp_ne (tgt := 61) (pc := 22) d_md_open_22 (by decide) (fun h22 => ?_) (fun h22 => ?_)
      · skip
        refine qr_iinc (v := nI (k + 1)) (lv' := [(4, .int (nI (k + 1))), (2, .long (m_open I L c k)), (0, .ref 47), (1, .int c)]) (pc := 61) d_md_open_61 rfl (nI_1 k) (Nat.le_of_ble_eq_true rfl) rfl ?_
        refine qr_goto (tgt := 5) (pc := 64) d_md_open_64 (by decide) ?_
        exact qR_st (by simp [m_open, *]) rfl (rfl) (ih (k + 1) (by omega) (by omega))
      · skip
        refine qr_aload_n (pc := 25) d_md_open_25 rfl rfl ?_
        refine qr_get (v := .ref 70) (pc := 26) d_md_open_26 fl_md_81 (by decide) (by decide) (c_47 _ _) rfl ?_
        refine qr_iload (pc := 29) d_md_open_29 rfl ?_
        refine qr_laldN (j := k) (pc := 31) d_md_open_31 (by decide) (by decide) (c_70 _ _) (by omega) (by decide) ?_
        refine qr_aload_n (pc := 32) d_md_open_32 rfl rfl ?_
        refine qr_get (v := .ref 71) (pc := 33) d_md_open_33 fl_md_84 (by decide) (by decide) (c_47 _ _) rfl ?_
        refine qr_iload (pc := 36) d_md_open_36 rfl ?_
        refine qr_laldN (j := k) (pc := 38) d_md_open_38 (by decide) (by decide) (c_71 _ _) (by omega) (by decide) ?_
        refine qr_lcmp (pc := 39) d_md_open_39 ?_
        refine qr_if_le (tgt := 61) (pc := 40) d_md_open_40 (by decide) (fun h40 => ?_) (fun h40 => ?_)
        · skip
          rw [lgc_le] at h40
          refine qr_iinc (v := nI (k + 1)) (lv' := [(4, .int (nI (k + 1))), (2, .long (m_open I L c k)), (0, .ref 47), (1, .int c)]) (pc := 61) d_md_open_61 rfl (nI_1 k) (Nat.le_of_ble_eq_true rfl) rfl ?_
          refine qr_goto (tgt := 5) (pc := 64) d_md_open_64 (by decide) ?_
          exact qR_st (by simp [m_open, *]) rfl (rfl) (ih (k + 1) (by omega) (by omega))
        · skip
          rw [lgc_le] at h40
          refine qr_lload_n (pc := 43) d_md_open_43 rfl rfl ?_
          refine qr_aload_n (pc := 44) d_md_open_44 rfl rfl ?_
          refine qr_get (v := .ref 70) (pc := 45) d_md_open_45 fl_md_81 (by decide) (by decide) (c_47 _ _) rfl ?_
          refine qr_iload (pc := 48) d_md_open_48 rfl ?_
          refine qr_laldN (j := k) (pc := 50) d_md_open_50 (by decide) (by decide) (c_70 _ _) (by omega) (by decide) ?_
          refine qr_aload_n (pc := 51) d_md_open_51 rfl rfl ?_
          refine qr_get (v := .ref 71) (pc := 52) d_md_open_52 fl_md_84 (by decide) (by decide) (c_47 _ _) rfl ?_
          refine qr_iload (pc := 55) d_md_open_55 rfl ?_
          refine qr_laldN (j := k) (pc := 57) d_md_open_57 (by decide) (by decide) (c_71 _ _) (by omega) (by decide) ?_
          refine qr_lsub (pc := 58) d_md_open_58 ?_
          refine qr_ladd (pc := 59) d_md_open_59 ?_
          refine qr_lstore_n (lv' := [(2, .long ((m_open I L c k) + ((L 70 k) - (L 71 k)))), (4, .int (nI k)), (0, .ref 47), (1, .int c)]) (pc := 60) d_md_open_60 rfl (Nat.le_of_ble_eq_true rfl) rfl ?_
          refine qr_iinc (v := nI (k + 1)) (lv' := [(4, .int (nI (k + 1))), (2, .long ((m_open I L c k) + ((L 70 k) - (L 71 k)))), (0, .ref 47), (1, .int c)]) (pc := 61) d_md_open_61 rfl (nI_1 k) (Nat.le_of_ble_eq_true rfl) rfl ?_
          refine qr_goto (tgt := 5) (pc := 64) d_md_open_64 (by decide) ?_
          exact qR_st (by simp [m_open, *]) rfl (rfl) (ih (k + 1) (by omega) (by omega))
  exact loop5 (z + 1) 0 (by omega) (by omega)
set_option maxRecDepth 10000 in
theorem s_md_live (l : Launch) (x : Bool) (I : Nat → Nat → Int32) (L : Nat → Nat → Int64) (T c d : Nat) (hT : I 47 2 = nI T) (hT2 : T ≤ 400) (hc : c < 5) (hd : d < 1000) : qSp l y_md_live b_md_live 3 (some .int) x 1 0 0 [.ref 47, .int (nI c), .int (nI d)] 77 (fm I L) (qD (some (.int (m_live I T c d))) 77 (fm I L)) := by
  refine qSp_of (ini := false) (by decide +kernel) (fun h => nomatch h) (Nat.le_of_ble_eq_true rfl) ?_
  show qR _ _ _ 0 [(0, .ref 47), (1, .int (nI c)), (2, .int (nI d))] [] _ _ _ _
  refine qr_iload_n (pc := 0) d_md_live_0 rfl rfl ?_
  refine qr_aload_n (pc := 1) d_md_live_1 rfl rfl ?_
  refine qr_get (v := .int (nI T)) (pc := 2) d_md_live_2 fl_md_188 (by decide) (by decide) (c_47 _ _) (congrArg (fun t => some (Value.int t)) hT) ?_
  refine qr_icmp_ge (tgt := 23) (pc := 5) d_md_live_5 (by decide) (fun h5 => ?_) (fun h5 => ?_)
  · skip
    have g5 : T ≤ d := (nI_leI (a := T) (b := d) (by omega) (by omega)).mp h5
    have g6 : ¬ d < T := by omega
    refine qr_iload_n (pc := 23) d_md_live_23 rfl rfl ?_
    refine qr_aload_n (pc := 24) d_md_live_24 rfl rfl ?_
    refine qr_get (v := .int (nI T)) (pc := 25) d_md_live_25 fl_md_188 (by decide) (by decide) (c_47 _ _) (congrArg (fun t => some (Value.int t)) hT) ?_
    refine qr_icmp_gt (tgt := 41) (pc := 28) d_md_live_28 (by decide) (fun h28 => ?_) (fun h28 => ?_)
    · skip
      have g28 : T < d := (nI_ltI (a := T) (b := d) (by omega) (by omega)).mp h28
      refine qr_iconst (v := (-1)) (pc := 41) d_md_live_41 (by decide) ?_
      refine qr_goto (tgt := 51) (pc := 42) d_md_live_42 (by decide) ?_
      exact qr_iret (pc := 51) d_md_live_51 rfl rfl ⟨(by simp [m_live, *]), rfl, rfl⟩ (Nat.zero_le _) (Nat.zero_le _)
    · skip
      have g28 : ¬ T < d := fun q => h28 (nI_lt q (by omega))
      refine qr_aload_n (pc := 31) d_md_live_31 rfl rfl ?_
      refine qr_get (v := .ref 59) (pc := 32) d_md_live_32 fl_md_47 (by decide) (by decide) (c_47 _ _) rfl ?_
      refine qr_iload_n (pc := 35) d_md_live_35 rfl rfl ?_
      refine qr_ialdN (j := c) (pc := 36) d_md_live_36 (by decide) (by decide) (c_59 _ _) (by omega) (by decide) ?_
      refine qr_iconst (v := 1) (pc := 37) d_md_live_37 (by decide) ?_
      refine qr_icmp_ne (tgt := 45) (pc := 38) d_md_live_38 (by decide) (fun h38 => ?_) (fun h38 => ?_)
      · skip
        refine qr_aload_n (pc := 45) d_md_live_45 rfl rfl ?_
        refine qr_get (v := .ref 58) (pc := 46) d_md_live_46 fl_md_44 (by decide) (by decide) (c_47 _ _) rfl ?_
        refine qr_iload_n (pc := 49) d_md_live_49 rfl rfl ?_
        refine qr_ialdN (j := c) (pc := 50) d_md_live_50 (by decide) (by decide) (c_58 _ _) (by omega) (by decide) ?_
        exact qr_iret (pc := 51) d_md_live_51 rfl rfl ⟨(by simp [m_live, *]), rfl, rfl⟩ (Nat.zero_le _) (Nat.zero_le _)
      · skip
        refine qr_iconst (v := (-1)) (pc := 41) d_md_live_41 (by decide) ?_
        refine qr_goto (tgt := 51) (pc := 42) d_md_live_42 (by decide) ?_
        exact qr_iret (pc := 51) d_md_live_51 rfl rfl ⟨(by simp [m_live, *]), rfl, rfl⟩ (Nat.zero_le _) (Nat.zero_le _)
  · skip
    have g5 : d < T := Nat.not_le.mp (fun q => h5 (nI_le q (by omega)))
    refine qr_aload_n (pc := 8) d_md_live_8 rfl rfl ?_
    refine qr_get (v := .ref 62) (pc := 9) d_md_live_9 fl_md_57 (by decide) (by decide) (c_47 _ _) rfl ?_
    refine qr_sipush (v := 401) (pc := 12) d_md_live_12 (by decide) ?_
    refine qr_iload_n (pc := 15) d_md_live_15 rfl rfl ?_
    refine qr_imul (pc := 16) d_md_live_16 ?_
    refine qr_iload_n (pc := 17) d_md_live_17 rfl rfl ?_
    refine qr_iadd (pc := 18) d_md_live_18 ?_
    refine qR_st (st' := [.int (nI (401 * c + d)), .ref 62]) rfl (by rw [ix401] <;> rfl) rfl ?_
    refine qr_ialdN (j := (401 * c + d)) (pc := 19) d_md_live_19 (by decide) (by decide) (c_62 _ _) (by omega) (by decide) ?_
    refine qr_iconst (v := 1) (pc := 20) d_md_live_20 (by decide) ?_
    refine qr_isub (pc := 21) d_md_live_21 ?_
    exact qr_iret (pc := 22) d_md_live_22 rfl rfl ⟨(by simp [m_live, *]), rfl, rfl⟩ (Nat.zero_le _) (Nat.zero_le _)
