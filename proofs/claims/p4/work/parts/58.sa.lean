/-! S1: the law at one script, where the class and the reference answer otherwise: rows for any state -/
section SA
variable {l : Launch} {b Ln : Nat} {xs : Nat → Int32} {E : qE} {X : qXC} {a kc ks : Nat} {I : qJ} {L : Nat → Nat → Int64}
theorem s1_sw0 {f : Nat → va_E} (ha : a + 5 ≤ Ln) (hLn : Ln < 2 ^ 31) (h0 : xs a &&& 31 = 0) (k0 : qR (qKL l b Ln xs) E X 120 (lwV a) [] 77 kc ks f) : qR (qKL l b Ln xs) E X 32 (lwV a) [] 77 kc ks f := by
  refine qr_aload_n (pc := 32) d_lw_law_32 rfl rfl ?_
  refine qr_iload (pc := 33) d_lw_law_33 rfl ?_
  refine qr_sldN (j := a) (fun _ _ _ _ h => h) (pc := 35) d_lw_law_35 (by omega) hLn ?_
  refine qr_bipush (v := 31) (pc := 36) d_lw_law_36 (by decide) ?_
  refine qr_iand (pc := 38) d_lw_law_38 ?_
  generalize hsw : xs a &&& 31 = sw
  have hs : sw = 0 := hsw.symm.trans h0
  subst hs
  exact qr_tableIn (x := 0) (off := 81) (tgt := 120) (pc := 39) d_lw_law_39 (by decide) (by decide) (by decide) (by decide) k0
theorem s1_sw1 {f : Nat → va_E} (ha : a + 5 ≤ Ln) (hLn : Ln < 2 ^ 31) (h0 : xs a &&& 31 = 1) (k0 : qR (qKL l b Ln xs) E X 180 (lwV a) [] 77 kc ks f) : qR (qKL l b Ln xs) E X 32 (lwV a) [] 77 kc ks f := by
  refine qr_aload_n (pc := 32) d_lw_law_32 rfl rfl ?_
  refine qr_iload (pc := 33) d_lw_law_33 rfl ?_
  refine qr_sldN (j := a) (fun _ _ _ _ h => h) (pc := 35) d_lw_law_35 (by omega) hLn ?_
  refine qr_bipush (v := 31) (pc := 36) d_lw_law_36 (by decide) ?_
  refine qr_iand (pc := 38) d_lw_law_38 ?_
  generalize hsw : xs a &&& 31 = sw
  have hs : sw = 1 := hsw.symm.trans h0
  subst hs
  exact qr_tableIn (x := 1) (off := 141) (tgt := 180) (pc := 39) d_lw_law_39 (by decide) (by decide) (by decide) (by decide) k0
theorem s1_sw2 {f : Nat → va_E} (ha : a + 5 ≤ Ln) (hLn : Ln < 2 ^ 31) (h0 : xs a &&& 31 = 2) (k0 : qR (qKL l b Ln xs) E X 208 (lwV a) [] 77 kc ks f) : qR (qKL l b Ln xs) E X 32 (lwV a) [] 77 kc ks f := by
  refine qr_aload_n (pc := 32) d_lw_law_32 rfl rfl ?_
  refine qr_iload (pc := 33) d_lw_law_33 rfl ?_
  refine qr_sldN (j := a) (fun _ _ _ _ h => h) (pc := 35) d_lw_law_35 (by omega) hLn ?_
  refine qr_bipush (v := 31) (pc := 36) d_lw_law_36 (by decide) ?_
  refine qr_iand (pc := 38) d_lw_law_38 ?_
  generalize hsw : xs a &&& 31 = sw
  have hs : sw = 2 := hsw.symm.trans h0
  subst hs
  exact qr_tableIn (x := 2) (off := 169) (tgt := 208) (pc := 39) d_lw_law_39 (by decide) (by decide) (by decide) (by decide) k0
theorem s1_text (hfl : l.flags = pinnedFlags ++ [noTraceFlag]) {n : Nat} {w : Int64} (hw : lwJ (xs (a + 1)) (xs (a + 2)) = w) (hn : I 1 3 = nI n) (hm : u_ap I w n 8 47 4 = nI n) (hn2 : n ≤ 60) (g1 : ¬ u_anyb w 8 = true) (g2 : n + u_cN w 8 ≤ 60) (m1 : ¬ m_anyb w 8 = true) (m2 : m_cN w 8 = u_cN w 8) (m3 : (m_ap (wI (u_ap I w n 8) 47 0 0) w n 8) 47 0 = 0) (ha : a + 5 ≤ Ln) (hLn : Ln < 2 ^ 31) (hkc : kc + 1 ≤ 601024) (hks : ks + 6 ≤ 7293034)
    (kk : qR (qKL l b Ln xs) E X 834 (lwV a) [] 77 (kc + 1) (ks + 6) (fm (m_ap (wI (u_ap I w n 8) 47 0 0) w n 8) (wL L 76 0 (Int32.toInt64 (nI (n + u_cN w 8)))))) : qR (qKL l b Ln xs) E X 120 (lwV a) [] 77 kc ks (fm I L) := by
  have m4 : ¬ 60 < n + m_cN w 8 := by omega
  refine lc_text ha hLn hkc hks (fun I2 L2 => I2 = m_ap (wI (u_ap I w n 8) 47 0 0) w n 8 ∧ L2 = wL L 76 0 (Int32.toInt64 (nI (n + u_cN w 8)))) (w_text (qSp2_of hfl (by decide +kernel) (Nat.le_of_ble_eq_true rfl) (by omega) (r_bf_text l false I L n hn hn2 (lwJ (xs (a + 1)) (xs (a + 2))))) (fun En h => h.imp And.left And.left)) ?_ (fun I2 L2 h => ?_)
  · rw [hw]
    rintro v n9 f ⟨rfl, h⟩
    rcases h with ⟨-, rfl, rfl⟩ | ⟨q, hq, hp, rfl, rfl⟩
    · skip
      refine ⟨0, _, _, _, _, _, rfl, rfl, rfl, s_md_text l false _ _ n hm hn2 w, ?_, ?_⟩
      · rw [if_neg m1, if_neg m4]
      · rfl
    · rcases hp with ⟨-, hp⟩ | ⟨-, -, hp⟩
      · exact absurd hp g1
      · exact absurd g2 hp
  · obtain ⟨rfl, rfl⟩ := h
    exact kk
theorem s1_tariff (hfl : l.flags = pinnedFlags ++ [noTraceFlag]) {n : Nat} {t : Int32} (htt : xs (a + 1) = t) (hn : I 1 3 = nI n) (hm : u_ra9 I n 47 4 = nI n) (hn2 : n ≤ 60) (ht : ¬ noT t) (e1 : ¬ u_ra9 I n 1 6 = -2) (e2 : (m_tf (u_ra9 I n) n t).2 47 0 = 1) (ha : a + 5 ≤ Ln) (hLn : Ln < 2 ^ 31) (hkc : kc + 1 ≤ 601024) (hks : ks + 6 ≤ 7293034)
    (kk : qR (qKL l b Ln xs) E X 834 (lwV a) [] 77 (kc + 1) (ks + 6) (fm (m_tf (u_ra9 I n) n t).2 L)) : qR (qKL l b Ln xs) E X 180 (lwV a) [] 77 kc ks (fm I L) := by
  refine lc_tariff ha hLn hkc hks (fun I2 L2 => I2 = (m_tf (u_ra9 I n) n t).2 ∧ L2 = L) (w_tariff (qSp2_of hfl (by decide +kernel) (Nat.le_of_ble_eq_true rfl) (by omega) (r_bf_tariff l false I L n hn hn2 (xs (a + 1)))) (fun En f h => h.1)) ?_ (fun I2 L2 h => ?_)
  · rw [htt]
    rintro v n9 f ⟨rfl, h⟩
    rcases h with ⟨⟨hc1, hc2⟩, rfl, rfl⟩ | ⟨q, hq, ⟨-, hp⟩, rfl⟩
    · exact absurd hc2 e1
    · simp only [List.mem_cons, List.not_mem_nil, or_false] at hq
      subst hq
      rcases hp with ⟨hp, rfl⟩ | ⟨hp1, hp2, rfl⟩
      · exact absurd hp ht
      · exact ⟨_, _, _, _, _, _, rfl, rfl, rfl, s_md_tariff l false _ _ n hm hn2 _, rfl, rfl⟩
  · obtain ⟨rfl, rfl⟩ := h
    exact kk
set_option maxRecDepth 10000 in
theorem s1_where (hkc : kc ≤ 601024) (hks : ks ≤ 7293034) (hne : ¬ I 1 6 = I 47 1) (hE0 : ∀ n f, E (some (.int 0)) n f) : qR (qKL l b Ln xs) E X 208 (lwV a) [] 77 kc ks (fm I L) := by
  refine qr_aload_n (pc := 208) d_lw_law_208 rfl rfl ?_
  refine qr_callV (q := 0) (As := []) (pc := 209) d_lw_law_209 lk_lw_87 im_bf_where se_bf_where rfl (by decide) (by decide) (c_0 _ _) (s_bf_where l false I L) rfl rfl (Nat.le_of_ble_eq_true rfl) (Nat.le_of_ble_eq_true rfl) (Nat.le_of_ble_eq_true rfl) (by show kc + 0 ≤ 601024; omega) (by show ks + 0 ≤ 7293034; omega) (fun h => nomatch h) (fun v n9 f9 hE => ?_)
  obtain ⟨rfl, rfl, rfl⟩ := hE
  refine qr_aload_n (pc := 212) d_lw_law_212 rfl rfl ?_
  refine qr_callV (q := 47) (As := []) (pc := 213) d_lw_law_213 lk_lw_91 im_md_where se_md_where rfl (by decide) (by decide) (c_47 _ _) (s_md_where l false I L) rfl rfl (Nat.le_of_ble_eq_true rfl) (Nat.le_of_ble_eq_true rfl) (Nat.le_of_ble_eq_true rfl) (by show kc + 0 + 0 ≤ 601024; omega) (by show ks + 0 + 0 ≤ 7293034; omega) (fun h => nomatch h) (fun v n9 f9 hE => ?_)
  obtain ⟨rfl, rfl, rfl⟩ := hE
  refine qr_icmp_eq (tgt := 834) (pc := 216) d_lw_law_216 (by decide) (fun h => absurd h hne) (fun _ => ?_)
  refine qr_iconst (v := 0) (pc := 219) d_lw_law_219 (by decide) ?_
  exact qr_iret (pc := 220) d_lw_law_220 rfl rfl (hE0 _ _) hkc hks
end SA
