/-- the day of the event e -/
def dn (I : Nat → Nat → Int32) (e : Nat) : Nat := (I 65 e).toNatClampNeg
def mE (I : Nat → Nat → Int32) (ne : Nat) : Prop := ∀ e, e < ne → I 65 e = nI (dn I e) ∧ dn I e ≤ 400
/-- live days for t among the first i days of the period that begins at F -/
def m_dd (I : Nat → Nat → Int32) (T c t F : Nat) : Nat → Int64
  | 0 => 0
  | i + 1 => if m_live I T c (F + i) = nI t then m_dd I T c t F i + 1 else m_dd I T c t F i
def m_ud (I : Nat → Nat → Int32) (T c t F D : Nat) : Nat → Int64
  | 0 => 0
  | e + 1 => if I 64 e = nI c then (if Int32.toInt64 (nI F) ≤ Int32.toInt64 (nI (dn I e)) ∧ Int32.toInt64 (nI (dn I e)) ≤ Int32.toInt64 (nI F + nI D - 1) then (if m_live I T c (dn I e) = nI t then m_ud I T c t F D e + Int32.toInt64 (I 66 e) else m_ud I T c t F D e) else m_ud I T c t F D e) else m_ud I T c t F D e
def m_one (I : Nat → Nat → Int32) (t D : Nat) (d u : Int64) : Int64 := Int32.toInt64 (I 49 t) * d / Int32.toInt64 (nI D) + m_priced I t (tz I t) u (Int32.toInt64 (I 50 t) * d / Int32.toInt64 (nI D)) (Int32.toInt64 (I 51 t) * d / Int32.toInt64 (nI D))
def m_ds (I : Nat → Nat → Int32) (T c F D ne : Nat) : Nat → Int64
  | 0 => 0
  | t + 1 => if m_dd I T c t F D = 0 then m_ds I T c F D ne t else m_ds I T c F D ne t + m_one I t D (m_dd I T c t F D) (m_ud I T c t F D ne)
def m_due (I : Nat → Nat → Int32) (T c F D ne : Nat) : Int64 := m_ds I T c F D ne 3
set_option maxRecDepth 10000 in
theorem s_md_due (l : Launch) (x : Bool) (I : Nat → Nat → Int32) (L : Nat → Nat → Int64) (T P F D ne c : Nat) (hT : I 47 2 = nI T) (hT2 : T ≤ 400) (hP : P ≤ 13) (hF : m_first P = nI F) (hD : m_days (nI P) = nI D) (hD1 : 1 ≤ D) (hFD : F + D ≤ 500) (hne : I 47 23 = nI ne) (hne2 : ne ≤ 80) (hday : mE I ne) (hTz : mT I) (hc : c < 5) : qSp l y_md_due b_md_due 13 (some .long) x 4 0 0 [.ref 47, .int (nI c), .int (nI P)] 77 (fm I L) (qD (some (.long (m_due I T c F D ne))) 77 (fm I L)) := by
  refine qSp_of (ini := false) (by decide +kernel) (fun h => nomatch h) (Nat.le_of_ble_eq_true rfl) ?_
  show qR _ _ _ 0 [(0, .ref 47), (1, .int (nI c)), (2, .int (nI P))] [] _ _ _ _
  refine qr_iload_n (pc := 0) d_md_due_0 rfl rfl ?_
  refine qr_callS (As := [.int (nI P)]) (pc := 1) d_md_due_1 lk_md_191 sm_md_firstOf (s_md_firstOf _ x _ _ P (by omega)) rfl rfl (Nat.le_of_ble_eq_true rfl) (Nat.le_of_ble_eq_true rfl) (Nat.le_of_ble_eq_true rfl) (Nat.zero_le _) (Nat.zero_le _) (fun h => ⟨h, rfl, Or.inl rfl⟩) (fun v n9 f9 hE1 => ?_)
  obtain ⟨rfl, rfl, rfl⟩ := hE1
  refine qr_istore_n (lv' := [(3, .int (m_first P)), (0, .ref 47), (1, .int (nI c)), (2, .int (nI P))]) (pc := 4) d_md_due_4 rfl (Nat.le_of_ble_eq_true rfl) rfl ?_
  refine qr_iload_n (pc := 5) d_md_due_5 rfl rfl ?_
  refine qr_callS (As := [.int (nI P)]) (pc := 6) d_md_due_6 lk_md_181 sm_md_daysOf (s_md_daysOf _ x _ _ (nI P)) rfl rfl (Nat.le_of_ble_eq_true rfl) (Nat.le_of_ble_eq_true rfl) (Nat.le_of_ble_eq_true rfl) (Nat.zero_le _) (Nat.zero_le _) (fun h => ⟨h, rfl, Or.inl rfl⟩) (fun v n9 f9 hE6 => ?_)
  obtain ⟨rfl, rfl, rfl⟩ := hE6
  refine qr_istore (lv' := [(4, .int (m_days (nI P))), (3, .int (m_first P)), (0, .ref 47), (1, .int (nI c)), (2, .int (nI P))]) (pc := 9) d_md_due_9 (Nat.le_of_ble_eq_true rfl) rfl ?_
  refine qr_lconst (v := 0) (pc := 11) d_md_due_11 (by decide) ?_
  refine qr_lstore (lv' := [(5, .long 0), (4, .int (m_days (nI P))), (3, .int (m_first P)), (0, .ref 47), (1, .int (nI c)), (2, .int (nI P))]) (pc := 12) d_md_due_12 (Nat.le_of_ble_eq_true rfl) rfl ?_
  refine qr_iconst (v := 0) (pc := 14) d_md_due_14 (by decide) ?_
  refine qr_istore (lv' := [(7, .int 0), (5, .long 0), (4, .int (m_days (nI P))), (3, .int (m_first P)), (0, .ref 47), (1, .int (nI c)), (2, .int (nI P))]) (pc := 15) d_md_due_15 (Nat.le_of_ble_eq_true rfl) rfl ?_
  have loop17 : ∀ (j1 t : Nat), 3 - t < j1 → t ≤ 3 → qR (l, y_md_due.cls, b_md_due, 13, (some .long), false, x, 4, 0, 0, 77, q0) (qD (some (.long (m_due I T c F D ne))) 77 (fm I L)) (fun _ _ _ => False) 17 [(7, .int (nI t)), (5, .long (m_ds I T c F D ne t)), (3, .int (nI F)), (4, .int (nI D)), (0, .ref 47), (1, .int (nI c)), (2, .int (nI P))] [] 77 0 0 (fm I L) := by
    intro j1
    induction j1 with
    | zero => intro t hj; omega
    | succ j1 ih1 =>
    intro t hjj1 ht
    refine qr_iload (pc := 17) d_md_due_17 rfl ?_
    refine qr_iconst (v := 3) (pc := 19) d_md_due_19 (by decide) ?_
    refine qr_icmp_ge (tgt := 222) (pc := 20) d_md_due_20 (by decide) (fun h20 => ?_) (fun h20 => ?_)
    · skip
      have htz : 3 = t := by
        have := (nI_leI (a := 3) (b := t) (by omega) (by omega)).mp h20
        omega
      subst htz
      refine qr_lload (pc := 222) d_md_due_222 rfl ?_
      exact qr_lret (pc := 224) d_md_due_224 rfl ⟨rfl, rfl, rfl⟩ (Nat.zero_le _) (Nat.zero_le _)
    · skip
      have htz : t < 3 := by
        have := mt (nI_leI (a := 3) (b := t) (by omega) (by omega)).mpr h20
        omega
      refine qr_lconst (v := 0) (pc := 23) d_md_due_23 (by decide) ?_
      refine qr_lstore (lv' := [(8, .long 0), (7, .int (nI t)), (5, .long (m_ds I T c F D ne t)), (3, .int (nI F)), (4, .int (nI D)), (0, .ref 47), (1, .int (nI c)), (2, .int (nI P))]) (pc := 24) d_md_due_24 (Nat.le_of_ble_eq_true rfl) rfl ?_
      refine qr_lconst (v := 0) (pc := 26) d_md_due_26 (by decide) ?_
      refine qr_lstore (lv' := [(10, .long 0), (8, .long 0), (7, .int (nI t)), (5, .long (m_ds I T c F D ne t)), (3, .int (nI F)), (4, .int (nI D)), (0, .ref 47), (1, .int (nI c)), (2, .int (nI P))]) (pc := 27) d_md_due_27 (Nat.le_of_ble_eq_true rfl) rfl ?_
      refine qr_iload_n (pc := 29) d_md_due_29 rfl rfl ?_
      refine qr_istore (lv' := [(12, .int (nI F)), (10, .long 0), (8, .long 0), (7, .int (nI t)), (5, .long (m_ds I T c F D ne t)), (3, .int (nI F)), (4, .int (nI D)), (0, .ref 47), (1, .int (nI c)), (2, .int (nI P))]) (pc := 30) d_md_due_30 (Nat.le_of_ble_eq_true rfl) rfl ?_
      have loop32 : ∀ (j2 i : Nat), D - i < j2 → i ≤ D → qR (l, y_md_due.cls, b_md_due, 13, (some .long), false, x, 4, 0, 0, 77, q0) (qD (some (.long (m_due I T c F D ne))) 77 (fm I L)) (fun _ _ _ => False) 32 [(12, .int (nI (F + i))), (10, .long 0), (8, .long (m_dd I T c t F i)), (7, .int (nI t)), (5, .long (m_ds I T c F D ne t)), (3, .int (nI F)), (4, .int (nI D)), (0, .ref 47), (1, .int (nI c)), (2, .int (nI P))] [] 77 0 0 (fm I L) := by
        intro j2
        induction j2 with
        | zero => intro i hj; omega
        | succ j2 ih2 =>
        intro i hj2 hi
        refine qr_iload (pc := 32) d_md_due_32 rfl ?_
        refine qr_iload_n (pc := 34) d_md_due_34 rfl rfl ?_
        refine qr_iload (pc := 35) d_md_due_35 rfl ?_
        refine qr_iadd (pc := 37) d_md_due_37 ?_
        refine qr_icmp_ge (tgt := 65) (pc := 38) d_md_due_38 (by decide) (fun h38 => ?_) (fun h38 => ?_)
        · skip
          have hiz : D = i := by
            rw [nI_add] at h38
            have := (nI_leI (a := F + D) (b := F + i) (by omega) (by omega)).mp h38
            omega
          subst hiz
          refine qr_lload (pc := 65) d_md_due_65 rfl ?_
          refine qr_lconst (v := 0) (pc := 67) d_md_due_67 (by decide) ?_
          refine qr_lcmp (pc := 68) d_md_due_68 ?_
          refine qr_if_ne (tgt := 75) (pc := 69) d_md_due_69 (by decide) (fun h69 => ?_) (fun h69 => ?_)
          · skip
            rw [lgc_eq] at h69
            refine qr_iconst (v := 0) (pc := 75) d_md_due_75 (by decide) ?_
            refine qr_istore (lv' := [(12, .int 0), (10, .long 0), (8, .long (m_dd I T c t F D)), (7, .int (nI t)), (5, .long (m_ds I T c F D ne t)), (3, .int (nI F)), (4, .int (nI D)), (0, .ref 47), (1, .int (nI c)), (2, .int (nI P))]) (pc := 76) d_md_due_76 (Nat.le_of_ble_eq_true rfl) rfl ?_
            have loop78 : ∀ (j3 e : Nat), ne - e < j3 → e ≤ ne → qR (l, y_md_due.cls, b_md_due, 13, (some .long), false, x, 4, 0, 0, 77, q0) (qD (some (.long (m_due I T c F D ne))) 77 (fm I L)) (fun _ _ _ => False) 78 [(12, .int (nI e)), (10, .long (m_ud I T c t F D e)), (8, .long (m_dd I T c t F D)), (7, .int (nI t)), (5, .long (m_ds I T c F D ne t)), (3, .int (nI F)), (4, .int (nI D)), (0, .ref 47), (1, .int (nI c)), (2, .int (nI P))] [] 77 0 0 (fm I L) := by
              intro j3
              induction j3 with
              | zero => intro e hj; omega
              | succ j3 ih3 =>
              intro e hjj3 he
              refine qr_iload (pc := 78) d_md_due_78 rfl ?_
              refine qr_aload_n (pc := 80) d_md_due_80 rfl rfl ?_
              refine qr_get (v := .int (nI ne)) (pc := 81) d_md_due_81 fl_md_198 (by decide) (by decide) (c_47 _ _) (congrArg (fun t => some (Value.int t)) hne) ?_
              refine qr_icmp_ge (tgt := 157) (pc := 84) d_md_due_84 (by decide) (fun h84 => ?_) (fun h84 => ?_)
              · skip
                have hez : ne = e := by
                  have := (nI_leI (a := ne) (b := e) (by omega) (by omega)).mp h84
                  omega
                subst hez
                refine qr_lload (pc := 157) d_md_due_157 rfl ?_
                refine qr_aload_n (pc := 159) d_md_due_159 rfl rfl ?_
                refine qr_get (v := .ref 49) (pc := 160) d_md_due_160 fl_md_17 (by decide) (by decide) (c_47 _ _) rfl ?_
                refine qr_iload (pc := 163) d_md_due_163 rfl ?_
                refine qr_ialdN (j := t) (pc := 165) d_md_due_165 (by decide) (by decide) (c_49 _ _) (by omega) (by decide) ?_
                refine qr_i2l (pc := 166) d_md_due_166 ?_
                refine qr_lload (pc := 167) d_md_due_167 rfl ?_
                refine qr_lmul (pc := 169) d_md_due_169 ?_
                refine qr_iload (pc := 170) d_md_due_170 rfl ?_
                refine qr_i2l (pc := 172) d_md_due_172 ?_
                refine qr_ldiv (pc := 173) d_md_due_173 (i2l_ne (nI_le (a := 1) hD1 (by omega))) ?_
                refine qr_aload_n (pc := 174) d_md_due_174 rfl rfl ?_
                refine qr_iload (pc := 175) d_md_due_175 rfl ?_
                refine qr_lload (pc := 177) d_md_due_177 rfl ?_
                refine qr_aload_n (pc := 179) d_md_due_179 rfl rfl ?_
                refine qr_get (v := .ref 50) (pc := 180) d_md_due_180 fl_md_20 (by decide) (by decide) (c_47 _ _) rfl ?_
                refine qr_iload (pc := 183) d_md_due_183 rfl ?_
                refine qr_ialdN (j := t) (pc := 185) d_md_due_185 (by decide) (by decide) (c_50 _ _) (by omega) (by decide) ?_
                refine qr_i2l (pc := 186) d_md_due_186 ?_
                refine qr_lload (pc := 187) d_md_due_187 rfl ?_
                refine qr_lmul (pc := 189) d_md_due_189 ?_
                refine qr_iload (pc := 190) d_md_due_190 rfl ?_
                refine qr_i2l (pc := 192) d_md_due_192 ?_
                refine qr_ldiv (pc := 193) d_md_due_193 (i2l_ne (nI_le (a := 1) hD1 (by omega))) ?_
                refine qr_aload_n (pc := 194) d_md_due_194 rfl rfl ?_
                refine qr_get (v := .ref 51) (pc := 195) d_md_due_195 fl_md_23 (by decide) (by decide) (c_47 _ _) rfl ?_
                refine qr_iload (pc := 198) d_md_due_198 rfl ?_
                refine qr_ialdN (j := t) (pc := 200) d_md_due_200 (by decide) (by decide) (c_51 _ _) (by omega) (by decide) ?_
                refine qr_i2l (pc := 201) d_md_due_201 ?_
                refine qr_lload (pc := 202) d_md_due_202 rfl ?_
                refine qr_lmul (pc := 204) d_md_due_204 ?_
                refine qr_iload (pc := 205) d_md_due_205 rfl ?_
                refine qr_i2l (pc := 207) d_md_due_207 ?_
                refine qr_ldiv (pc := 208) d_md_due_208 (i2l_ne (nI_le (a := 1) hD1 (by omega))) ?_
                refine qr_callV (q := 47) (As := [.int (nI t), .long (m_ud I T c t F D ne), .long (((Int32.toInt64 (I 50 t)) * (m_dd I T c t F D)) / (Int32.toInt64 (nI D))), .long (((Int32.toInt64 (I 51 t)) * (m_dd I T c t F D)) / (Int32.toInt64 (nI D)))]) (pc := 209) d_md_due_209 lk_md_174 im_md_priced se_md_priced rfl (by decide) (by decide) (c_47 _ _) (s_md_priced _ x I L t (tz I t) (by omega) (hTz t (by omega)).1 (hTz t (by omega)).2 (m_ud I T c t F D ne) (((Int32.toInt64 (I 50 t)) * (m_dd I T c t F D)) / (Int32.toInt64 (nI D))) (((Int32.toInt64 (I 51 t)) * (m_dd I T c t F D)) / (Int32.toInt64 (nI D)))) rfl rfl (Nat.le_of_ble_eq_true rfl) (Nat.le_of_ble_eq_true rfl) (Nat.le_of_ble_eq_true rfl) (Nat.zero_le _) (Nat.zero_le _) (fun h => ⟨h, rfl, Or.inl rfl⟩) (fun v n9 f9 hE209 => ?_)
                obtain ⟨rfl, rfl, rfl⟩ := hE209
                refine qr_ladd (pc := 212) d_md_due_212 ?_
                refine qr_ladd (pc := 213) d_md_due_213 ?_
                refine qr_lstore (lv' := [(5, .long ((m_ds I T c F D ne t) + ((((Int32.toInt64 (I 49 t)) * (m_dd I T c t F D)) / (Int32.toInt64 (nI D))) + (m_priced I t (tz I t) (m_ud I T c t F D ne) (((Int32.toInt64 (I 50 t)) * (m_dd I T c t F D)) / (Int32.toInt64 (nI D))) (((Int32.toInt64 (I 51 t)) * (m_dd I T c t F D)) / (Int32.toInt64 (nI D))))))), (12, .int (nI ne)), (10, .long (m_ud I T c t F D ne)), (8, .long (m_dd I T c t F D)), (7, .int (nI t)), (3, .int (nI F)), (4, .int (nI D)), (0, .ref 47), (1, .int (nI c)), (2, .int (nI P))]) (pc := 214) d_md_due_214 (Nat.le_of_ble_eq_true rfl) rfl ?_
                refine qr_iinc (v := nI (t + 1)) (lv' := [(7, .int (nI (t + 1))), (5, .long ((m_ds I T c F D ne t) + ((((Int32.toInt64 (I 49 t)) * (m_dd I T c t F D)) / (Int32.toInt64 (nI D))) + (m_priced I t (tz I t) (m_ud I T c t F D ne) (((Int32.toInt64 (I 50 t)) * (m_dd I T c t F D)) / (Int32.toInt64 (nI D))) (((Int32.toInt64 (I 51 t)) * (m_dd I T c t F D)) / (Int32.toInt64 (nI D))))))), (12, .int (nI ne)), (10, .long (m_ud I T c t F D ne)), (8, .long (m_dd I T c t F D)), (3, .int (nI F)), (4, .int (nI D)), (0, .ref 47), (1, .int (nI c)), (2, .int (nI P))]) (pc := 216) d_md_due_216 rfl (nI_1 t) (Nat.le_of_ble_eq_true rfl) rfl ?_
                refine qr_goto (tgt := 17) (pc := 219) d_md_due_219 (by decide) ?_
                refine qR_sub (lv' := [(7, .int (nI (t + 1))), (5, .long ((m_ds I T c F D ne t) + ((((Int32.toInt64 (I 49 t)) * (m_dd I T c t F D)) / (Int32.toInt64 (nI D))) + (m_priced I t (tz I t) (m_ud I T c t F D ne) (((Int32.toInt64 (I 50 t)) * (m_dd I T c t F D)) / (Int32.toInt64 (nI D))) (((Int32.toInt64 (I 51 t)) * (m_dd I T c t F D)) / (Int32.toInt64 (nI D))))))), (3, .int (nI F)), (4, .int (nI D)), (0, .ref 47), (1, .int (nI c)), (2, .int (nI P))]) [0, 1, 5, 6, 7, 8, 9] rfl ?_
                exact qR_st (by simp [m_ds, m_one, *]) rfl (rfl) (ih1 (t + 1) (by omega) (by omega))
              · skip
                have hez : e < ne := by
                  have := mt (nI_leI (a := ne) (b := e) (by omega) (by omega)).mpr h84
                  omega
                have hde := hday e hez
                have hde2 := hde.2
                refine qr_aload_n (pc := 87) d_md_due_87 rfl rfl ?_
                refine qr_get (v := .ref 64) (pc := 88) d_md_due_88 fl_md_63 (by decide) (by decide) (c_47 _ _) rfl ?_
                refine qr_iload (pc := 91) d_md_due_91 rfl ?_
                refine qr_ialdN (j := e) (pc := 93) d_md_due_93 (by decide) (by decide) (c_64 _ _) (by omega) (by decide) ?_
                refine qr_iload_n (pc := 94) d_md_due_94 rfl rfl ?_
                refine qr_icmp_ne (tgt := 151) (pc := 95) d_md_due_95 (by decide) (fun h95 => ?_) (fun h95 => ?_)
                · skip
                  refine qr_iinc (v := nI (e + 1)) (lv' := [(12, .int (nI (e + 1))), (10, .long (m_ud I T c t F D e)), (8, .long (m_dd I T c t F D)), (7, .int (nI t)), (5, .long (m_ds I T c F D ne t)), (3, .int (nI F)), (4, .int (nI D)), (0, .ref 47), (1, .int (nI c)), (2, .int (nI P))]) (pc := 151) d_md_due_151 rfl (nI_1 e) (Nat.le_of_ble_eq_true rfl) rfl ?_
                  refine qr_goto (tgt := 78) (pc := 154) d_md_due_154 (by decide) ?_
                  exact qR_st (by simp only [m_ud, *, if_true, if_false, reduceIte, not_false_eq_true, and_self]) rfl (rfl) (ih3 (e + 1) (by omega) (by omega))
                · skip
                  refine qr_aload_n (pc := 98) d_md_due_98 rfl rfl ?_
                  refine qr_get (v := .ref 65) (pc := 99) d_md_due_99 fl_md_66 (by decide) (by decide) (c_47 _ _) rfl ?_
                  refine qr_iload (pc := 102) d_md_due_102 rfl ?_
                  refine qr_ialdN (j := e) (pc := 104) d_md_due_104 (by decide) (by decide) (c_65 _ _) (by omega) (by decide) ?_
                  refine qR_st (st' := [.int (nI (dn I e))]) rfl (by rw [hde.1] <;> rfl) rfl ?_
                  refine qr_i2l (pc := 105) d_md_due_105 ?_
                  refine qr_iload_n (pc := 106) d_md_due_106 rfl rfl ?_
                  refine qr_i2l (pc := 107) d_md_due_107 ?_
                  refine qr_iload_n (pc := 108) d_md_due_108 rfl rfl ?_
                  refine qr_iload (pc := 109) d_md_due_109 rfl ?_
                  refine qr_iadd (pc := 111) d_md_due_111 ?_
                  refine qr_iconst (v := 1) (pc := 112) d_md_due_112 (by decide) ?_
                  refine qr_isub (pc := 113) d_md_due_113 ?_
                  refine qr_i2l (pc := 114) d_md_due_114 ?_
                  refine qr_callS (As := [.long (Int32.toInt64 (nI (dn I e))), .long (Int32.toInt64 (nI F)), .long (Int32.toInt64 (((nI F) + (nI D)) - 1))]) (pc := 115) d_md_due_115 lk_md_106 sm_md_in (s_md_in _ x _ _ (Int32.toInt64 (nI (dn I e))) (Int32.toInt64 (nI F)) (Int32.toInt64 (((nI F) + (nI D)) - 1))) rfl rfl (Nat.le_of_ble_eq_true rfl) (Nat.le_of_ble_eq_true rfl) (Nat.le_of_ble_eq_true rfl) (Nat.zero_le _) (Nat.zero_le _) (fun h => ⟨h, rfl, Or.inl rfl⟩) (fun v n9 f9 hE115 => ?_)
                  obtain ⟨rfl, rfl, rfl⟩ := hE115
                  refine qr_if_eq (tgt := 151) (pc := 118) d_md_due_118 (by decide) (fun h118 => ?_) (fun h118 => ?_)
                  · skip
                    simp only [b01, Decidable.not_not] at h118
                    refine qr_iinc (v := nI (e + 1)) (lv' := [(12, .int (nI (e + 1))), (10, .long (m_ud I T c t F D e)), (8, .long (m_dd I T c t F D)), (7, .int (nI t)), (5, .long (m_ds I T c F D ne t)), (3, .int (nI F)), (4, .int (nI D)), (0, .ref 47), (1, .int (nI c)), (2, .int (nI P))]) (pc := 151) d_md_due_151 rfl (nI_1 e) (Nat.le_of_ble_eq_true rfl) rfl ?_
                    refine qr_goto (tgt := 78) (pc := 154) d_md_due_154 (by decide) ?_
                    exact qR_st (by simp only [m_ud, *, if_true, if_false, reduceIte, not_false_eq_true, and_self]) rfl (rfl) (ih3 (e + 1) (by omega) (by omega))
                  · skip
                    simp only [b01, Decidable.not_not] at h118
                    refine qr_aload_n (pc := 121) d_md_due_121 rfl rfl ?_
                    refine qr_iload_n (pc := 122) d_md_due_122 rfl rfl ?_
                    refine qr_aload_n (pc := 123) d_md_due_123 rfl rfl ?_
                    refine qr_get (v := .ref 65) (pc := 124) d_md_due_124 fl_md_66 (by decide) (by decide) (c_47 _ _) rfl ?_
                    refine qr_iload (pc := 127) d_md_due_127 rfl ?_
                    refine qr_ialdN (j := e) (pc := 129) d_md_due_129 (by decide) (by decide) (c_65 _ _) (by omega) (by decide) ?_
                    refine qR_st (st' := [.int (nI (dn I e)), .int (nI c), .ref 47]) rfl (by rw [hde.1] <;> rfl) rfl ?_
                    refine qr_callV (q := 47) (As := [.int (nI c), .int (nI (dn I e))]) (pc := 130) d_md_due_130 lk_md_194 im_md_live se_md_live rfl (by decide) (by decide) (c_47 _ _) (s_md_live _ x I L T c (dn I e) hT hT2 (by omega) (by omega)) rfl rfl (Nat.le_of_ble_eq_true rfl) (Nat.le_of_ble_eq_true rfl) (Nat.le_of_ble_eq_true rfl) (Nat.zero_le _) (Nat.zero_le _) (fun h => ⟨h, rfl, Or.inl rfl⟩) (fun v n9 f9 hE130 => ?_)
                    obtain ⟨rfl, rfl, rfl⟩ := hE130
                    refine qr_iload (pc := 133) d_md_due_133 rfl ?_
                    refine qr_icmp_ne (tgt := 151) (pc := 135) d_md_due_135 (by decide) (fun h135 => ?_) (fun h135 => ?_)
                    · skip
                      refine qr_iinc (v := nI (e + 1)) (lv' := [(12, .int (nI (e + 1))), (10, .long (m_ud I T c t F D e)), (8, .long (m_dd I T c t F D)), (7, .int (nI t)), (5, .long (m_ds I T c F D ne t)), (3, .int (nI F)), (4, .int (nI D)), (0, .ref 47), (1, .int (nI c)), (2, .int (nI P))]) (pc := 151) d_md_due_151 rfl (nI_1 e) (Nat.le_of_ble_eq_true rfl) rfl ?_
                      refine qr_goto (tgt := 78) (pc := 154) d_md_due_154 (by decide) ?_
                      exact qR_st (by simp only [m_ud, *, if_true, if_false, reduceIte, not_false_eq_true, and_self]) rfl (rfl) (ih3 (e + 1) (by omega) (by omega))
                    · skip
                      refine qr_lload (pc := 138) d_md_due_138 rfl ?_
                      refine qr_aload_n (pc := 140) d_md_due_140 rfl rfl ?_
                      refine qr_get (v := .ref 66) (pc := 141) d_md_due_141 fl_md_69 (by decide) (by decide) (c_47 _ _) rfl ?_
                      refine qr_iload (pc := 144) d_md_due_144 rfl ?_
                      refine qr_ialdN (j := e) (pc := 146) d_md_due_146 (by decide) (by decide) (c_66 _ _) (by omega) (by decide) ?_
                      refine qr_i2l (pc := 147) d_md_due_147 ?_
                      refine qr_ladd (pc := 148) d_md_due_148 ?_
                      refine qr_lstore (lv' := [(10, .long ((m_ud I T c t F D e) + (Int32.toInt64 (I 66 e)))), (12, .int (nI e)), (8, .long (m_dd I T c t F D)), (7, .int (nI t)), (5, .long (m_ds I T c F D ne t)), (3, .int (nI F)), (4, .int (nI D)), (0, .ref 47), (1, .int (nI c)), (2, .int (nI P))]) (pc := 149) d_md_due_149 (Nat.le_of_ble_eq_true rfl) rfl ?_
                      refine qr_iinc (v := nI (e + 1)) (lv' := [(12, .int (nI (e + 1))), (10, .long ((m_ud I T c t F D e) + (Int32.toInt64 (I 66 e)))), (8, .long (m_dd I T c t F D)), (7, .int (nI t)), (5, .long (m_ds I T c F D ne t)), (3, .int (nI F)), (4, .int (nI D)), (0, .ref 47), (1, .int (nI c)), (2, .int (nI P))]) (pc := 151) d_md_due_151 rfl (nI_1 e) (Nat.le_of_ble_eq_true rfl) rfl ?_
                      refine qr_goto (tgt := 78) (pc := 154) d_md_due_154 (by decide) ?_
                      exact qR_st (by simp only [m_ud, *, if_true, if_false, reduceIte, not_false_eq_true, and_self]) rfl (rfl) (ih3 (e + 1) (by omega) (by omega))
            exact loop78 (ne + 1) 0 (by omega) (by omega)
          · skip
            rw [lgc_eq] at h69
            refine qr_goto (tgt := 216) (pc := 72) d_md_due_72 (by decide) ?_
            refine qr_iinc (v := nI (t + 1)) (lv' := [(7, .int (nI (t + 1))), (12, .int (nI (F + D))), (10, .long 0), (8, .long (m_dd I T c t F D)), (5, .long (m_ds I T c F D ne t)), (3, .int (nI F)), (4, .int (nI D)), (0, .ref 47), (1, .int (nI c)), (2, .int (nI P))]) (pc := 216) d_md_due_216 rfl (nI_1 t) (Nat.le_of_ble_eq_true rfl) rfl ?_
            refine qr_goto (tgt := 17) (pc := 219) d_md_due_219 (by decide) ?_
            refine qR_sub (lv' := [(7, .int (nI (t + 1))), (5, .long (m_ds I T c F D ne t)), (3, .int (nI F)), (4, .int (nI D)), (0, .ref 47), (1, .int (nI c)), (2, .int (nI P))]) [0, 4, 5, 6, 7, 8, 9] rfl ?_
            exact qR_st (by simp [m_ds, m_one, *]) rfl (rfl) (ih1 (t + 1) (by omega) (by omega))
        · skip
          have hiz : i < D := by
            rw [nI_add] at h38
            have := mt (nI_leI (a := F + D) (b := F + i) (by omega) (by omega)).mpr h38
            omega
          refine qr_aload_n (pc := 41) d_md_due_41 rfl rfl ?_
          refine qr_iload_n (pc := 42) d_md_due_42 rfl rfl ?_
          refine qr_iload (pc := 43) d_md_due_43 rfl ?_
          refine qr_callV (q := 47) (As := [.int (nI c), .int (nI (F + i))]) (pc := 45) d_md_due_45 lk_md_194 im_md_live se_md_live rfl (by decide) (by decide) (c_47 _ _) (s_md_live _ x I L T c (F + i) hT hT2 (by omega) (by omega)) rfl rfl (Nat.le_of_ble_eq_true rfl) (Nat.le_of_ble_eq_true rfl) (Nat.le_of_ble_eq_true rfl) (Nat.zero_le _) (Nat.zero_le _) (fun h => ⟨h, rfl, Or.inl rfl⟩) (fun v n9 f9 hE45 => ?_)
          obtain ⟨rfl, rfl, rfl⟩ := hE45
          refine qr_iload (pc := 48) d_md_due_48 rfl ?_
          refine qr_icmp_ne (tgt := 59) (pc := 50) d_md_due_50 (by decide) (fun h50 => ?_) (fun h50 => ?_)
          · skip
            refine qr_iinc (v := nI ((F + i) + 1)) (lv' := [(12, .int (nI ((F + i) + 1))), (10, .long 0), (8, .long (m_dd I T c t F i)), (7, .int (nI t)), (5, .long (m_ds I T c F D ne t)), (3, .int (nI F)), (4, .int (nI D)), (0, .ref 47), (1, .int (nI c)), (2, .int (nI P))]) (pc := 59) d_md_due_59 rfl (nI_1 (F + i)) (Nat.le_of_ble_eq_true rfl) rfl ?_
            refine qr_goto (tgt := 32) (pc := 62) d_md_due_62 (by decide) ?_
            exact qR_st (by simp only [m_dd, h50, if_true, if_false, reduceIte]; rfl) rfl rfl (ih2 (i + 1) (by omega) (by omega))
          · skip
            refine qr_lload (pc := 53) d_md_due_53 rfl ?_
            refine qr_lconst (v := 1) (pc := 55) d_md_due_55 (by decide) ?_
            refine qr_ladd (pc := 56) d_md_due_56 ?_
            refine qr_lstore (lv' := [(8, .long ((m_dd I T c t F i) + 1)), (12, .int (nI (F + i))), (10, .long 0), (7, .int (nI t)), (5, .long (m_ds I T c F D ne t)), (3, .int (nI F)), (4, .int (nI D)), (0, .ref 47), (1, .int (nI c)), (2, .int (nI P))]) (pc := 57) d_md_due_57 (Nat.le_of_ble_eq_true rfl) rfl ?_
            refine qr_iinc (v := nI ((F + i) + 1)) (lv' := [(12, .int (nI ((F + i) + 1))), (8, .long ((m_dd I T c t F i) + 1)), (10, .long 0), (7, .int (nI t)), (5, .long (m_ds I T c F D ne t)), (3, .int (nI F)), (4, .int (nI D)), (0, .ref 47), (1, .int (nI c)), (2, .int (nI P))]) (pc := 59) d_md_due_59 rfl (nI_1 (F + i)) (Nat.le_of_ble_eq_true rfl) rfl ?_
            refine qr_goto (tgt := 32) (pc := 62) d_md_due_62 (by decide) ?_
            refine qR_sub (lv' := [(12, .int (nI ((F + i) + 1))), (10, .long 0), (8, .long ((m_dd I T c t F i) + 1)), (7, .int (nI t)), (5, .long (m_ds I T c F D ne t)), (3, .int (nI F)), (4, .int (nI D)), (0, .ref 47), (1, .int (nI c)), (2, .int (nI P))]) [0, 2, 1, 3, 4, 5, 6, 7, 8, 9] rfl ?_
            exact qR_st (by simp only [m_dd, h50, if_true, if_false, reduceIte]; rfl) rfl rfl (ih2 (i + 1) (by omega) (by omega))
      exact loop32 (D + 1) 0 (by omega) (by omega)
  refine qR_sub (lv' := [(7, .int 0), (5, .long 0), (3, .int (m_first P)), (4, .int (m_days (nI P))), (0, .ref 47), (1, .int (nI c)), (2, .int (nI P))]) [0, 1, 3, 2, 4, 5, 6] rfl ?_
  exact qR_st (by rw [hF, hD]; rfl) rfl rfl (loop17 (3 + 1) 0 (by omega) (by omega))
