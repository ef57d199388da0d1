/-! the law's cases: the class's call by its wrapper, the reference's, the comparison -/
abbrev qKL (l : Launch) (b Ln : Nat) (xs : Nat → Int32) : qK := (l, "BillForgeLaw", code, 8, some .boolean, false, true, 13, 601024, 7293034, 0, qScr b Ln xs)
abbrev lwV (a : Nat) : List (Nat × Value) := [(0, .ref 77), (1, .ref 0), (2, .ref 47), (3, .ref 76), (4, .int (nI a))]
/-- a long out of two ints of the script -/
def lwJ (h l : Int32) : Int64 := (Int32.toInt64 h <<< ((Int32.toInt64 32) &&& 63)) ||| (Int32.toInt64 l &&& 4294967295)
set_option maxRecDepth 10000 in
theorem lc_text {l : Launch} {b Ln : Nat} {xs : Nat → Int32} {E : qE} {X : qXC} {a kc ks : Nat} {I : Nat → Nat → Int32} {L : Nat → Nat → Int64} (ha : a + 5 ≤ Ln) (hLn : Ln < 2 ^ 31) (hkc : kc + 1 ≤ 601024) (hks : ks + 6 ≤ 7293034) (Post : (Nat → Nat → Int32) → (Nat → Nat → Int64) → Prop) {Ew : qE} (hW : qSpW l y_lw_text b_lw_text 5 (some .int) hh_text 10 1 6 [.ref 0, .long (lwJ (xs (a + 1)) (xs (a + 2))), .ref 76] 77 (fm I L) Ew) (hM : ∀ v n f, Ew v n f → ∃ (k9 : Int32) (I1 : Nat → Nat → Int32) (L1 : Nat → Nat → Int64) (b9 : Int32) (I2 : Nat → Nat → Int32) (L2 : Nat → Nat → Int64), some (.int k9) = v ∧ 77 = n ∧ fm I1 L1 = f ∧ qSp l y_md_text b_md_text 6 (some .int) false 2 0 0 [.ref 47, .long (lwJ (xs (a + 1)) (xs (a + 2)))] 77 (fm I1 L1) (qD (some (.int b9)) 77 (fm I2 L2)) ∧ Post I2 L2) (kk : ∀ I2 L2, Post I2 L2 → qR (qKL l b Ln xs) E X 862 (lwV a) [] 77 (kc + 1) (ks + 6) (fm I2 L2)) : qR (qKL l b Ln xs) E X 120 (lwV a) [] 77 kc ks (fm I L) := by
  refine qr_aload_n (pc := 120) d_lw_law_120 rfl rfl ?_
  refine qr_aload_n (pc := 121) d_lw_law_121 rfl rfl ?_
  refine qr_iload (pc := 122) d_lw_law_122 rfl ?_
  refine qr_iconst (v := 1) (pc := 124) d_lw_law_124 (by decide) ?_
  refine qr_iadd (pc := 125) d_lw_law_125 ?_
  refine qR_st (st' := [.int (nI (a + 1)), .ref 77, .ref 0]) rfl (by rw [nI_1] <;> rfl) rfl ?_
  refine qr_sldN (j := (a + 1)) (fun _ _ _ _ h => h) (pc := 126) d_lw_law_126 (by omega) hLn ?_
  refine qr_i2l (pc := 127) d_lw_law_127 ?_
  refine qr_bipush (v := 32) (pc := 128) d_lw_law_128 (by decide) ?_
  refine qr_lshl (pc := 130) d_lw_law_130 ?_
  refine qr_aload_n (pc := 131) d_lw_law_131 rfl rfl ?_
  refine qr_iload (pc := 132) d_lw_law_132 rfl ?_
  refine qr_iconst (v := 2) (pc := 134) d_lw_law_134 (by decide) ?_
  refine qr_iadd (pc := 135) d_lw_law_135 ?_
  refine qR_st (st' := [.int (nI (a + 2)), .ref 77, .long ((Int32.toInt64 (xs (a + 1))) <<< ((Int32.toInt64 32) &&& 63)), .ref 0]) rfl (by rw [nI_p2] <;> rfl) rfl ?_
  refine qr_sldN (j := (a + 2)) (fun _ _ _ _ h => h) (pc := 136) d_lw_law_136 (by omega) hLn ?_
  refine qr_i2l (pc := 137) d_lw_law_137 ?_
  refine qr_ldc2 (v := 4294967295) (pc := 138) d_lw_law_138 kl_lw_75 ?_
  refine qr_land (pc := 141) d_lw_law_141 ?_
  refine qr_lor (pc := 142) d_lw_law_142 ?_
  refine qR_st (st' := [.long (lwJ (xs (a + 1)) (xs (a + 2))), .ref 0]) rfl rfl rfl ?_
  refine qr_aload_n (pc := 143) d_lw_law_143 rfl rfl ?_
  refine qr_callSW (hh := hh_text) (na := 3) (As := [.ref 0, .long (lwJ (xs (a + 1)) (xs (a + 2))), .ref 76]) (pc := 144) d_lw_law_144 lk_lw_77 ii_lw cw_text ⟨by decide, by decide⟩ (by decide +kernel) sm_lw_text hW rfl rfl (Nat.le_of_ble_eq_true rfl) (Nat.le_of_ble_eq_true rfl) (Nat.le_of_ble_eq_true rfl) hkc hks (fun v n9 f9 hE => ?_)
  obtain ⟨k9, I1, L1, b9, I2, L2, rfl, rfl, rfl, hm, hpost⟩ := hM _ _ _ hE
  refine qr_istore (lv' := [(5, .int k9), (0, .ref 77), (1, .ref 0), (2, .ref 47), (3, .ref 76), (4, .int (nI a))]) (pc := 147) d_lw_law_147 (Nat.le_of_ble_eq_true rfl) rfl ?_
  refine qr_aload_n (pc := 149) d_lw_law_149 rfl rfl ?_
  refine qr_aload_n (pc := 150) d_lw_law_150 rfl rfl ?_
  refine qr_iload (pc := 151) d_lw_law_151 rfl ?_
  refine qr_iconst (v := 1) (pc := 153) d_lw_law_153 (by decide) ?_
  refine qr_iadd (pc := 154) d_lw_law_154 ?_
  refine qR_st (st' := [.int (nI (a + 1)), .ref 77, .ref 47]) rfl (by rw [nI_1] <;> rfl) rfl ?_
  refine qr_sldN (j := (a + 1)) (fun _ _ _ _ h => h) (pc := 155) d_lw_law_155 (by omega) hLn ?_
  refine qr_i2l (pc := 156) d_lw_law_156 ?_
  refine qr_bipush (v := 32) (pc := 157) d_lw_law_157 (by decide) ?_
  refine qr_lshl (pc := 159) d_lw_law_159 ?_
  refine qr_aload_n (pc := 160) d_lw_law_160 rfl rfl ?_
  refine qr_iload (pc := 161) d_lw_law_161 rfl ?_
  refine qr_iconst (v := 2) (pc := 163) d_lw_law_163 (by decide) ?_
  refine qr_iadd (pc := 164) d_lw_law_164 ?_
  refine qR_st (st' := [.int (nI (a + 2)), .ref 77, .long ((Int32.toInt64 (xs (a + 1))) <<< ((Int32.toInt64 32) &&& 63)), .ref 47]) rfl (by rw [nI_p2] <;> rfl) rfl ?_
  refine qr_sldN (j := (a + 2)) (fun _ _ _ _ h => h) (pc := 165) d_lw_law_165 (by omega) hLn ?_
  refine qr_i2l (pc := 166) d_lw_law_166 ?_
  refine qr_ldc2 (v := 4294967295) (pc := 167) d_lw_law_167 kl_lw_75 ?_
  refine qr_land (pc := 170) d_lw_law_170 ?_
  refine qr_lor (pc := 171) d_lw_law_171 ?_
  refine qR_st (st' := [.long (lwJ (xs (a + 1)) (xs (a + 2))), .ref 47]) rfl rfl rfl ?_
  refine qr_callV (q := 47) (As := [.long (lwJ (xs (a + 1)) (xs (a + 2)))]) (pc := 172) d_lw_law_172 lk_lw_82 im_md_text se_md_text rfl (by decide) (by decide) (c_47 _ _) hm rfl rfl (Nat.le_of_ble_eq_true rfl) (Nat.le_of_ble_eq_true rfl) (Nat.le_of_ble_eq_true rfl) (by show kc + 1 + 0 ≤ 601024; omega) (by show ks + 6 + 0 ≤ 7293034; omega) (fun h => nomatch h) (fun v n9 f9 hE9 => ?_)
  obtain ⟨rfl, rfl, rfl⟩ := hE9
  refine qr_istore (lv' := [(6, .int b9), (5, .int k9), (0, .ref 77), (1, .ref 0), (2, .ref 47), (3, .ref 76), (4, .int (nI a))]) (pc := 175) d_lw_law_175 (Nat.le_of_ble_eq_true rfl) rfl ?_
  refine qr_goto (tgt := 862) (pc := 177) d_lw_law_177 (by decide) ?_
  refine qR_sub (lv' := lwV a) [2, 3, 4, 5, 6] rfl ?_
  exact kk _ _ hpost
set_option maxRecDepth 10000 in
theorem lc_tariff {l : Launch} {b Ln : Nat} {xs : Nat → Int32} {E : qE} {X : qXC} {a kc ks : Nat} {I : Nat → Nat → Int32} {L : Nat → Nat → Int64} (ha : a + 5 ≤ Ln) (hLn : Ln < 2 ^ 31) (hkc : kc + 1 ≤ 601024) (hks : ks + 6 ≤ 7293034) (Post : (Nat → Nat → Int32) → (Nat → Nat → Int64) → Prop) {Ew : qE} (hW : qSpW l y_lw_tariff b_lw_tariff 4 (some .int) hh_tariff 10 1 6 [.ref 0, .int (xs (a + 1)), .ref 76] 77 (fm I L) Ew) (hM : ∀ v n f, Ew v n f → ∃ (k9 : Int32) (I1 : Nat → Nat → Int32) (L1 : Nat → Nat → Int64) (b9 : Int32) (I2 : Nat → Nat → Int32) (L2 : Nat → Nat → Int64), some (.int k9) = v ∧ 77 = n ∧ fm I1 L1 = f ∧ qSp l y_md_tariff b_md_tariff 3 (some .int) false 6 0 0 [.ref 47, .int (xs (a + 1))] 77 (fm I1 L1) (qD (some (.int b9)) 77 (fm I2 L2)) ∧ I2 47 0 = k9 ∧ (k9 = 0 → L2 76 0 = Int32.toInt64 b9) ∧ Post I2 L2) (kk : ∀ I2 L2, Post I2 L2 → qR (qKL l b Ln xs) E X 862 (lwV a) [] 77 (kc + 1) (ks + 6) (fm I2 L2)) : qR (qKL l b Ln xs) E X 180 (lwV a) [] 77 kc ks (fm I L) := by
  refine qr_aload_n (pc := 180) d_lw_law_180 rfl rfl ?_
  refine qr_aload_n (pc := 181) d_lw_law_181 rfl rfl ?_
  refine qr_iload (pc := 182) d_lw_law_182 rfl ?_
  refine qr_iconst (v := 1) (pc := 184) d_lw_law_184 (by decide) ?_
  refine qr_iadd (pc := 185) d_lw_law_185 ?_
  refine qR_st (st' := [.int (nI (a + 1)), .ref 77, .ref 0]) rfl (by rw [nI_1] <;> rfl) rfl ?_
  refine qr_sldN (j := (a + 1)) (fun _ _ _ _ h => h) (pc := 186) d_lw_law_186 (by omega) hLn ?_
  refine qr_aload_n (pc := 187) d_lw_law_187 rfl rfl ?_
  refine qr_callSW (hh := hh_tariff) (na := 3) (As := [.ref 0, .int (xs (a + 1)), .ref 76]) (pc := 188) d_lw_law_188 lk_lw_83 ii_lw cw_tariff ⟨by decide, by decide⟩ (by decide +kernel) sm_lw_tariff hW rfl rfl (Nat.le_of_ble_eq_true rfl) (Nat.le_of_ble_eq_true rfl) (Nat.le_of_ble_eq_true rfl) hkc hks (fun v n9 f9 hE => ?_)
  obtain ⟨k9, I1, L1, b9, I2, L2, rfl, rfl, rfl, hm, hth, hout, hpost⟩ := hM _ _ _ hE
  refine qr_istore (lv' := [(5, .int k9), (0, .ref 77), (1, .ref 0), (2, .ref 47), (3, .ref 76), (4, .int (nI a))]) (pc := 191) d_lw_law_191 (Nat.le_of_ble_eq_true rfl) rfl ?_
  refine qr_aload_n (pc := 193) d_lw_law_193 rfl rfl ?_
  refine qr_aload_n (pc := 194) d_lw_law_194 rfl rfl ?_
  refine qr_iload (pc := 195) d_lw_law_195 rfl ?_
  refine qr_iconst (v := 1) (pc := 197) d_lw_law_197 (by decide) ?_
  refine qr_iadd (pc := 198) d_lw_law_198 ?_
  refine qR_st (st' := [.int (nI (a + 1)), .ref 77, .ref 47]) rfl (by rw [nI_1] <;> rfl) rfl ?_
  refine qr_sldN (j := (a + 1)) (fun _ _ _ _ h => h) (pc := 199) d_lw_law_199 (by omega) hLn ?_
  refine qr_callV (q := 47) (As := [.int (xs (a + 1))]) (pc := 200) d_lw_law_200 lk_lw_86 im_md_tariff se_md_tariff rfl (by decide) (by decide) (c_47 _ _) hm rfl rfl (Nat.le_of_ble_eq_true rfl) (Nat.le_of_ble_eq_true rfl) (Nat.le_of_ble_eq_true rfl) (by show kc + 1 + 0 ≤ 601024; omega) (by show ks + 6 + 0 ≤ 7293034; omega) (fun h => nomatch h) (fun v n9 f9 hE9 => ?_)
  obtain ⟨rfl, rfl, rfl⟩ := hE9
  refine qr_istore (lv' := [(6, .int b9), (5, .int k9), (0, .ref 77), (1, .ref 0), (2, .ref 47), (3, .ref 76), (4, .int (nI a))]) (pc := 203) d_lw_law_203 (Nat.le_of_ble_eq_true rfl) rfl ?_
  refine qr_aload_n (pc := 205) d_lw_law_205 rfl rfl ?_
  refine qr_callV (q := 47) (As := []) (pc := 206) d_lw_law_206 lk_lw_87 im_md_thrown se_md_thrown rfl (by decide) (by decide) (c_47 _ _) (s_md_thrown _ false _ _) rfl rfl (Nat.le_of_ble_eq_true rfl) (Nat.le_of_ble_eq_true rfl) (Nat.le_of_ble_eq_true rfl) (by show kc + 1 + 0 + 0 ≤ 601024; omega) (by show ks + 6 + 0 + 0 ≤ 7293034; omega) (fun h => nomatch h) (fun v n9 f9 hE9 => ?_)
  obtain ⟨rfl, rfl, rfl⟩ := hE9
  refine qr_iload (pc := 209) d_lw_law_209 rfl ?_
  refine qr_icmp_eq (tgt := 216) (pc := 211) d_lw_law_211 (by decide) (fun _ => ?_) (fun h => absurd hth h)
  refine qr_iload (pc := 216) d_lw_law_216 rfl ?_
  refine qr_if_ne (tgt := 233) (pc := 218) d_lw_law_218 (by decide) (fun _ => ?_) (fun hk9 => ?_)
  · skip
    refine qr_goto (tgt := 862) (pc := 233) d_lw_law_233 (by decide) ?_
    refine qR_sub (lv' := lwV a) [2, 3, 4, 5, 6] rfl ?_
    exact kk _ _ hpost
  · have ho := hout hk9
    refine qr_aload_n (pc := 221) d_lw_law_221 rfl rfl ?_
    refine qr_iconst (v := 0) (pc := 222) d_lw_law_222 (by decide) ?_
    refine qr_laldN (j := 0) (pc := 223) d_lw_law_223 (by decide) (by decide) (c_76 _ _) (by decide) (by decide) ?_
    refine qr_iload (pc := 224) d_lw_law_224 rfl ?_
    refine qr_i2l (pc := 226) d_lw_law_226 ?_
    refine qr_lcmp (pc := 227) d_lw_law_227 ?_
    refine qr_if_eq (tgt := 233) (pc := 228) d_lw_law_228 (by decide) (fun _ => ?_) (fun h => absurd ((lgc_eq _ _).mpr ho) h)
    refine qr_goto (tgt := 862) (pc := 233) d_lw_law_233 (by decide) ?_
    refine qR_sub (lv' := lwV a) [2, 3, 4, 5, 6] rfl ?_
    exact kk _ _ hpost
set_option maxRecDepth 10000 in
theorem lc_where {l : Launch} {b Ln : Nat} {xs : Nat → Int32} {E : qE} {X : qXC} {a kc ks : Nat} {I : Nat → Nat → Int32} {L : Nat → Nat → Int64} (ha : a + 5 ≤ Ln) (hLn : Ln < 2 ^ 31) (hkc : kc + 1 ≤ 601024) (hks : ks + 6 ≤ 7293034) (Post : (Nat → Nat → Int32) → (Nat → Nat → Int64) → Prop) {r r2 : Int32} {I1 I2 : Nat → Nat → Int32} {L1 L2 : Nat → Nat → Int64} (hW : qSp l y_bf_where b_bf_where 1 (some .int) false 2 0 0 [.ref 0] 77 (fm I L) (qD (some (.int r)) 77 (fm I1 L1))) (hM : qSp l y_md_where b_md_where 1 (some .int) false 1 0 0 [.ref 47] 77 (fm I1 L1) (qD (some (.int r2)) 77 (fm I2 L2))) (hp : Post I2 L2) (kk : ∀ I2 L2, Post I2 L2 → qR (qKL l b Ln xs) E X 862 (lwV a) [] 77 kc ks (fm I2 L2)) : qR (qKL l b Ln xs) E X 236 (lwV a) [] 77 kc ks (fm I L) := by
  refine qr_aload_n (pc := 236) d_lw_law_236 rfl rfl ?_
  refine qr_callV (q := 0) (As := []) (pc := 237) d_lw_law_237 lk_lw_91 im_bf_where se_bf_where rfl (by decide) (by decide) (c_0 _ _) hW rfl rfl (Nat.le_of_ble_eq_true rfl) (Nat.le_of_ble_eq_true rfl) (Nat.le_of_ble_eq_true rfl) (by show kc + 0 ≤ 601024; omega) (by show ks + 0 ≤ 7293034; omega) (fun h => nomatch h) (fun v n9 f9 hE => ?_)
  obtain ⟨rfl, rfl, rfl⟩ := hE
  refine qr_pop (pc := 240) d_lw_law_240 rfl ?_
  refine qr_aload_n (pc := 241) d_lw_law_241 rfl rfl ?_
  refine qr_callV (q := 47) (As := []) (pc := 242) d_lw_law_242 lk_lw_94 im_md_where se_md_where rfl (by decide) (by decide) (c_47 _ _) hM rfl rfl (Nat.le_of_ble_eq_true rfl) (Nat.le_of_ble_eq_true rfl) (Nat.le_of_ble_eq_true rfl) (by show kc + 0 + 0 ≤ 601024; omega) (by show ks + 0 + 0 ≤ 7293034; omega) (fun h => nomatch h) (fun v n9 f9 hE => ?_)
  obtain ⟨rfl, rfl, rfl⟩ := hE
  refine qr_pop (pc := 245) d_lw_law_245 rfl ?_
  refine qr_goto (tgt := 862) (pc := 246) d_lw_law_246 (by decide) ?_
  exact kk _ _ hp
set_option maxRecDepth 10000 in
theorem lc_use {l : Launch} {b Ln : Nat} {xs : Nat → Int32} {E : qE} {X : qXC} {a kc ks : Nat} {I : Nat → Nat → Int32} {L : Nat → Nat → Int64} (ha : a + 5 ≤ Ln) (hLn : Ln < 2 ^ 31) (hkc : kc + 1 ≤ 601024) (hks : ks + 6 ≤ 7293034) (Post : (Nat → Nat → Int32) → (Nat → Nat → Int64) → Prop) {Ew : qE} (hW : qSpW l y_lw_use b_lw_use 5 (some .int) hh_use 10 1 6 [.ref 0, .int (xs (a + 1)), .int (xs (a + 2)), .ref 76] 77 (fm I L) Ew) (hM : ∀ v n f, Ew v n f → ∃ (k9 : Int32) (I1 : Nat → Nat → Int32) (L1 : Nat → Nat → Int64) (b9 : Int64) (I2 : Nat → Nat → Int32) (L2 : Nat → Nat → Int64), some (.int k9) = v ∧ 77 = n ∧ fm I1 L1 = f ∧ qSp l y_md_use b_md_use 3 (some .long) false 3 0 0 [.ref 47, .int (xs (a + 1)), .int (xs (a + 2))] 77 (fm I1 L1) (qD (some (.long b9)) 77 (fm I2 L2)) ∧ Post I2 L2) (kk : ∀ I2 L2, Post I2 L2 → qR (qKL l b Ln xs) E X 862 (lwV a) [] 77 (kc + 1) (ks + 6) (fm I2 L2)) : qR (qKL l b Ln xs) E X 249 (lwV a) [] 77 kc ks (fm I L) := by
  refine qr_aload_n (pc := 249) d_lw_law_249 rfl rfl ?_
  refine qr_aload_n (pc := 250) d_lw_law_250 rfl rfl ?_
  refine qr_iload (pc := 251) d_lw_law_251 rfl ?_
  refine qr_iconst (v := 1) (pc := 253) d_lw_law_253 (by decide) ?_
  refine qr_iadd (pc := 254) d_lw_law_254 ?_
  refine qR_st (st' := [.int (nI (a + 1)), .ref 77, .ref 0]) rfl (by rw [nI_1] <;> rfl) rfl ?_
  refine qr_sldN (j := (a + 1)) (fun _ _ _ _ h => h) (pc := 255) d_lw_law_255 (by omega) hLn ?_
  refine qr_aload_n (pc := 256) d_lw_law_256 rfl rfl ?_
  refine qr_iload (pc := 257) d_lw_law_257 rfl ?_
  refine qr_iconst (v := 2) (pc := 259) d_lw_law_259 (by decide) ?_
  refine qr_iadd (pc := 260) d_lw_law_260 ?_
  refine qR_st (st' := [.int (nI (a + 2)), .ref 77, .int (xs (a + 1)), .ref 0]) rfl (by rw [nI_p2] <;> rfl) rfl ?_
  refine qr_sldN (j := (a + 2)) (fun _ _ _ _ h => h) (pc := 261) d_lw_law_261 (by omega) hLn ?_
  refine qr_aload_n (pc := 262) d_lw_law_262 rfl rfl ?_
  refine qr_callSW (hh := hh_use) (na := 4) (As := [.ref 0, .int (xs (a + 1)), .int (xs (a + 2)), .ref 76]) (pc := 263) d_lw_law_263 lk_lw_95 ii_lw cw_use ⟨by decide, by decide⟩ (by decide +kernel) sm_lw_use hW rfl rfl (Nat.le_of_ble_eq_true rfl) (Nat.le_of_ble_eq_true rfl) (Nat.le_of_ble_eq_true rfl) hkc hks (fun v n9 f9 hE => ?_)
  obtain ⟨k9, I1, L1, b9, I2, L2, rfl, rfl, rfl, hm, hpost⟩ := hM _ _ _ hE
  refine qr_istore (lv' := [(5, .int k9), (0, .ref 77), (1, .ref 0), (2, .ref 47), (3, .ref 76), (4, .int (nI a))]) (pc := 266) d_lw_law_266 (Nat.le_of_ble_eq_true rfl) rfl ?_
  refine qr_aload_n (pc := 268) d_lw_law_268 rfl rfl ?_
  refine qr_aload_n (pc := 269) d_lw_law_269 rfl rfl ?_
  refine qr_iload (pc := 270) d_lw_law_270 rfl ?_
  refine qr_iconst (v := 1) (pc := 272) d_lw_law_272 (by decide) ?_
  refine qr_iadd (pc := 273) d_lw_law_273 ?_
  refine qR_st (st' := [.int (nI (a + 1)), .ref 77, .ref 47]) rfl (by rw [nI_1] <;> rfl) rfl ?_
  refine qr_sldN (j := (a + 1)) (fun _ _ _ _ h => h) (pc := 274) d_lw_law_274 (by omega) hLn ?_
  refine qr_aload_n (pc := 275) d_lw_law_275 rfl rfl ?_
  refine qr_iload (pc := 276) d_lw_law_276 rfl ?_
  refine qr_iconst (v := 2) (pc := 278) d_lw_law_278 (by decide) ?_
  refine qr_iadd (pc := 279) d_lw_law_279 ?_
  refine qR_st (st' := [.int (nI (a + 2)), .ref 77, .int (xs (a + 1)), .ref 47]) rfl (by rw [nI_p2] <;> rfl) rfl ?_
  refine qr_sldN (j := (a + 2)) (fun _ _ _ _ h => h) (pc := 280) d_lw_law_280 (by omega) hLn ?_
  refine qr_callV (q := 47) (As := [.int (xs (a + 1)), .int (xs (a + 2))]) (pc := 281) d_lw_law_281 lk_lw_98 im_md_use se_md_use rfl (by decide) (by decide) (c_47 _ _) hm rfl rfl (Nat.le_of_ble_eq_true rfl) (Nat.le_of_ble_eq_true rfl) (Nat.le_of_ble_eq_true rfl) (by show kc + 1 + 0 ≤ 601024; omega) (by show ks + 6 + 0 ≤ 7293034; omega) (fun h => nomatch h) (fun v n9 f9 hE9 => ?_)
  obtain ⟨rfl, rfl, rfl⟩ := hE9
  refine qr_lstore (lv' := [(6, .long b9), (5, .int k9), (0, .ref 77), (1, .ref 0), (2, .ref 47), (3, .ref 76), (4, .int (nI a))]) (pc := 284) d_lw_law_284 (Nat.le_of_ble_eq_true rfl) rfl ?_
  refine qr_goto (tgt := 862) (pc := 286) d_lw_law_286 (by decide) ?_
  refine qR_sub (lv' := lwV a) [2, 3, 4, 5, 6] rfl ?_
  exact kk _ _ hpost
set_option maxRecDepth 10000 in
theorem lc_subscribe {l : Launch} {b Ln : Nat} {xs : Nat → Int32} {E : qE} {X : qXC} {a kc ks : Nat} {I : Nat → Nat → Int32} {L : Nat → Nat → Int64} (ha : a + 5 ≤ Ln) (hLn : Ln < 2 ^ 31) (hkc : kc + 1 ≤ 601024) (hks : ks + 6 ≤ 7293034) (Post : (Nat → Nat → Int32) → (Nat → Nat → Int64) → Prop) {Ew : qE} (hW : qSpW l y_lw_subscribe b_lw_subscribe 5 (some .int) hh_subscribe 10 1 6 [.ref 0, .int (xs (a + 1)), .int (xs (a + 2)), .ref 76] 77 (fm I L) Ew) (hM : ∀ v n f, Ew v n f → ∃ (k9 : Int32) (I1 : Nat → Nat → Int32) (L1 : Nat → Nat → Int64) (b9 : Int32) (I2 : Nat → Nat → Int32) (L2 : Nat → Nat → Int64), some (.int k9) = v ∧ 77 = n ∧ fm I1 L1 = f ∧ qSp l y_md_subscribe b_md_subscribe 4 (some .int) false 2 0 0 [.ref 47, .int (xs (a + 1)), .int (xs (a + 2))] 77 (fm I1 L1) (qD (some (.int b9)) 77 (fm I2 L2)) ∧ Post I2 L2) (kk : ∀ I2 L2, Post I2 L2 → qR (qKL l b Ln xs) E X 862 (lwV a) [] 77 (kc + 1) (ks + 6) (fm I2 L2)) : qR (qKL l b Ln xs) E X 289 (lwV a) [] 77 kc ks (fm I L) := by
  refine qr_aload_n (pc := 289) d_lw_law_289 rfl rfl ?_
  refine qr_aload_n (pc := 290) d_lw_law_290 rfl rfl ?_
  refine qr_iload (pc := 291) d_lw_law_291 rfl ?_
  refine qr_iconst (v := 1) (pc := 293) d_lw_law_293 (by decide) ?_
  refine qr_iadd (pc := 294) d_lw_law_294 ?_
  refine qR_st (st' := [.int (nI (a + 1)), .ref 77, .ref 0]) rfl (by rw [nI_1] <;> rfl) rfl ?_
  refine qr_sldN (j := (a + 1)) (fun _ _ _ _ h => h) (pc := 295) d_lw_law_295 (by omega) hLn ?_
  refine qr_aload_n (pc := 296) d_lw_law_296 rfl rfl ?_
  refine qr_iload (pc := 297) d_lw_law_297 rfl ?_
  refine qr_iconst (v := 2) (pc := 299) d_lw_law_299 (by decide) ?_
  refine qr_iadd (pc := 300) d_lw_law_300 ?_
  refine qR_st (st' := [.int (nI (a + 2)), .ref 77, .int (xs (a + 1)), .ref 0]) rfl (by rw [nI_p2] <;> rfl) rfl ?_
  refine qr_sldN (j := (a + 2)) (fun _ _ _ _ h => h) (pc := 301) d_lw_law_301 (by omega) hLn ?_
  refine qr_aload_n (pc := 302) d_lw_law_302 rfl rfl ?_
  refine qr_callSW (hh := hh_subscribe) (na := 4) (As := [.ref 0, .int (xs (a + 1)), .int (xs (a + 2)), .ref 76]) (pc := 303) d_lw_law_303 lk_lw_99 ii_lw cw_subscribe ⟨by decide, by decide⟩ (by decide +kernel) sm_lw_subscribe hW rfl rfl (Nat.le_of_ble_eq_true rfl) (Nat.le_of_ble_eq_true rfl) (Nat.le_of_ble_eq_true rfl) hkc hks (fun v n9 f9 hE => ?_)
  obtain ⟨k9, I1, L1, b9, I2, L2, rfl, rfl, rfl, hm, hpost⟩ := hM _ _ _ hE
  refine qr_istore (lv' := [(5, .int k9), (0, .ref 77), (1, .ref 0), (2, .ref 47), (3, .ref 76), (4, .int (nI a))]) (pc := 306) d_lw_law_306 (Nat.le_of_ble_eq_true rfl) rfl ?_
  refine qr_aload_n (pc := 308) d_lw_law_308 rfl rfl ?_
  refine qr_aload_n (pc := 309) d_lw_law_309 rfl rfl ?_
  refine qr_iload (pc := 310) d_lw_law_310 rfl ?_
  refine qr_iconst (v := 1) (pc := 312) d_lw_law_312 (by decide) ?_
  refine qr_iadd (pc := 313) d_lw_law_313 ?_
  refine qR_st (st' := [.int (nI (a + 1)), .ref 77, .ref 47]) rfl (by rw [nI_1] <;> rfl) rfl ?_
  refine qr_sldN (j := (a + 1)) (fun _ _ _ _ h => h) (pc := 314) d_lw_law_314 (by omega) hLn ?_
  refine qr_aload_n (pc := 315) d_lw_law_315 rfl rfl ?_
  refine qr_iload (pc := 316) d_lw_law_316 rfl ?_
  refine qr_iconst (v := 2) (pc := 318) d_lw_law_318 (by decide) ?_
  refine qr_iadd (pc := 319) d_lw_law_319 ?_
  refine qR_st (st' := [.int (nI (a + 2)), .ref 77, .int (xs (a + 1)), .ref 47]) rfl (by rw [nI_p2] <;> rfl) rfl ?_
  refine qr_sldN (j := (a + 2)) (fun _ _ _ _ h => h) (pc := 320) d_lw_law_320 (by omega) hLn ?_
  refine qr_callV (q := 47) (As := [.int (xs (a + 1)), .int (xs (a + 2))]) (pc := 321) d_lw_law_321 lk_lw_101 im_md_subscribe se_md_subscribe rfl (by decide) (by decide) (c_47 _ _) hm rfl rfl (Nat.le_of_ble_eq_true rfl) (Nat.le_of_ble_eq_true rfl) (Nat.le_of_ble_eq_true rfl) (by show kc + 1 + 0 ≤ 601024; omega) (by show ks + 6 + 0 ≤ 7293034; omega) (fun h => nomatch h) (fun v n9 f9 hE9 => ?_)
  obtain ⟨rfl, rfl, rfl⟩ := hE9
  refine qr_istore (lv' := [(6, .int b9), (5, .int k9), (0, .ref 77), (1, .ref 0), (2, .ref 47), (3, .ref 76), (4, .int (nI a))]) (pc := 324) d_lw_law_324 (Nat.le_of_ble_eq_true rfl) rfl ?_
  refine qr_goto (tgt := 862) (pc := 326) d_lw_law_326 (by decide) ?_
  refine qR_sub (lv' := lwV a) [2, 3, 4, 5, 6] rfl ?_
  exact kk _ _ hpost
set_option maxRecDepth 10000 in
theorem lc_pause {l : Launch} {b Ln : Nat} {xs : Nat → Int32} {E : qE} {X : qXC} {a kc ks : Nat} {I : Nat → Nat → Int32} {L : Nat → Nat → Int64} (ha : a + 5 ≤ Ln) (hLn : Ln < 2 ^ 31) (hkc : kc + 1 ≤ 601024) (hks : ks + 6 ≤ 7293034) (Post : (Nat → Nat → Int32) → (Nat → Nat → Int64) → Prop) {Ew : qE} {on : Int32} (hon : on = if xs (a + 2) = 0 then 0 else 1) (hW : qSpW l y_lw_pause b_lw_pause 5 (some .int) hh_pause 10 1 6 [.ref 0, .int (xs (a + 1)), .int on, .ref 76] 77 (fm I L) Ew) (hM : ∀ v n f, Ew v n f → ∃ (k9 : Int32) (I1 : Nat → Nat → Int32) (L1 : Nat → Nat → Int64) (b9 : Int32) (I2 : Nat → Nat → Int32) (L2 : Nat → Nat → Int64), some (.int k9) = v ∧ 77 = n ∧ fm I1 L1 = f ∧ qSp l y_md_pause b_md_pause 4 (some .boolean) false 2 0 0 [.ref 47, .int (xs (a + 1)), .int on] 77 (fm I1 L1) (qD (some (.int b9)) 77 (fm I2 L2)) ∧ Post I2 L2) (kk : ∀ I2 L2, Post I2 L2 → qR (qKL l b Ln xs) E X 862 (lwV a) [] 77 (kc + 1) (ks + 6) (fm I2 L2)) : qR (qKL l b Ln xs) E X 329 (lwV a) [] 77 kc ks (fm I L) := by
  refine qr_aload_n (pc := 329) d_lw_law_329 rfl rfl ?_
  refine qr_aload_n (pc := 330) d_lw_law_330 rfl rfl ?_
  refine qr_iload (pc := 331) d_lw_law_331 rfl ?_
  refine qr_iconst (v := 1) (pc := 333) d_lw_law_333 (by decide) ?_
  refine qr_iadd (pc := 334) d_lw_law_334 ?_
  refine qR_st (st' := [.int (nI (a + 1)), .ref 77, .ref 0]) rfl (by rw [nI_1] <;> rfl) rfl ?_
  refine qr_sldN (j := (a + 1)) (fun _ _ _ _ h => h) (pc := 335) d_lw_law_335 (by omega) hLn ?_
  refine qr_aload_n (pc := 336) d_lw_law_336 rfl rfl ?_
  refine qr_iload (pc := 337) d_lw_law_337 rfl ?_
  refine qr_iconst (v := 2) (pc := 339) d_lw_law_339 (by decide) ?_
  refine qr_iadd (pc := 340) d_lw_law_340 ?_
  refine qR_st (st' := [.int (nI (a + 2)), .ref 77, .int (xs (a + 1)), .ref 0]) rfl (by rw [nI_p2] <;> rfl) rfl ?_
  refine qr_sldN (j := (a + 2)) (fun _ _ _ _ h => h) (pc := 341) d_lw_law_341 (by omega) hLn ?_
  refine qr_if_eq (tgt := 349) (pc := 342) d_lw_law_342 (by decide) (fun hz0 => ?_) (fun hz0 => ?_)
  · skip
    refine qr_iconst (v := 0) (pc := 349) d_lw_law_349 (by decide) ?_
    refine qr_aload_n (pc := 350) d_lw_law_350 rfl rfl ?_
    refine qR_st (st' := [.ref 76, .int on, .int (xs (a + 1)), .ref 0]) rfl (by rw [hon, if_pos hz0]) rfl ?_
    refine qr_callSW (hh := hh_pause) (na := 4) (As := [.ref 0, .int (xs (a + 1)), .int on, .ref 76]) (pc := 351) d_lw_law_351 lk_lw_102 ii_lw cw_pause ⟨by decide, by decide⟩ (by decide +kernel) sm_lw_pause hW rfl rfl (Nat.le_of_ble_eq_true rfl) (Nat.le_of_ble_eq_true rfl) (Nat.le_of_ble_eq_true rfl) hkc hks (fun v n9 f9 hE => ?_)
    obtain ⟨k9, I1, L1, b9, I2, L2, rfl, rfl, rfl, hm, hpost⟩ := hM _ _ _ hE
    refine qr_istore (lv' := [(5, .int k9), (0, .ref 77), (1, .ref 0), (2, .ref 47), (3, .ref 76), (4, .int (nI a))]) (pc := 354) d_lw_law_354 (Nat.le_of_ble_eq_true rfl) rfl ?_
    refine qr_aload_n (pc := 356) d_lw_law_356 rfl rfl ?_
    refine qr_aload_n (pc := 357) d_lw_law_357 rfl rfl ?_
    refine qr_iload (pc := 358) d_lw_law_358 rfl ?_
    refine qr_iconst (v := 1) (pc := 360) d_lw_law_360 (by decide) ?_
    refine qr_iadd (pc := 361) d_lw_law_361 ?_
    refine qR_st (st' := [.int (nI (a + 1)), .ref 77, .ref 47]) rfl (by rw [nI_1] <;> rfl) rfl ?_
    refine qr_sldN (j := (a + 1)) (fun _ _ _ _ h => h) (pc := 362) d_lw_law_362 (by omega) hLn ?_
    refine qr_aload_n (pc := 363) d_lw_law_363 rfl rfl ?_
    refine qr_iload (pc := 364) d_lw_law_364 rfl ?_
    refine qr_iconst (v := 2) (pc := 366) d_lw_law_366 (by decide) ?_
    refine qr_iadd (pc := 367) d_lw_law_367 ?_
    refine qR_st (st' := [.int (nI (a + 2)), .ref 77, .int (xs (a + 1)), .ref 47]) rfl (by rw [nI_p2] <;> rfl) rfl ?_
    refine qr_sldN (j := (a + 2)) (fun _ _ _ _ h => h) (pc := 368) d_lw_law_368 (by omega) hLn ?_
    refine qr_if_eq (tgt := 376) (pc := 369) d_lw_law_369 (by decide) (fun _ => ?_) (fun h => absurd hz0 h)
    refine qr_iconst (v := 0) (pc := 376) d_lw_law_376 (by decide) ?_
    refine qR_st (st' := [.int on, .int (xs (a + 1)), .ref 47]) rfl (by rw [hon, if_pos hz0]) rfl ?_
    refine qr_callV (q := 47) (As := [.int (xs (a + 1)), .int on]) (pc := 377) d_lw_law_377 lk_lw_105 im_md_pause se_md_pause rfl (by decide) (by decide) (c_47 _ _) hm rfl rfl (Nat.le_of_ble_eq_true rfl) (Nat.le_of_ble_eq_true rfl) (Nat.le_of_ble_eq_true rfl) (by show kc + 1 + 0 ≤ 601024; omega) (by show ks + 6 + 0 ≤ 7293034; omega) (fun h => nomatch h) (fun v n9 f9 hE9 => ?_)
    obtain ⟨rfl, rfl, rfl⟩ := hE9
    refine qr_istore (lv' := [(6, .int b9), (5, .int k9), (0, .ref 77), (1, .ref 0), (2, .ref 47), (3, .ref 76), (4, .int (nI a))]) (pc := 380) d_lw_law_380 (Nat.le_of_ble_eq_true rfl) rfl ?_
    refine qr_goto (tgt := 862) (pc := 382) d_lw_law_382 (by decide) ?_
    refine qR_sub (lv' := lwV a) [2, 3, 4, 5, 6] rfl ?_
    exact kk _ _ hpost
  · skip
    refine qr_iconst (v := 1) (pc := 345) d_lw_law_345 (by decide) ?_
    refine qr_goto (tgt := 350) (pc := 346) d_lw_law_346 (by decide) ?_
    refine qr_aload_n (pc := 350) d_lw_law_350 rfl rfl ?_
    refine qR_st (st' := [.ref 76, .int on, .int (xs (a + 1)), .ref 0]) rfl (by rw [hon, if_neg hz0]) rfl ?_
    refine qr_callSW (hh := hh_pause) (na := 4) (As := [.ref 0, .int (xs (a + 1)), .int on, .ref 76]) (pc := 351) d_lw_law_351 lk_lw_102 ii_lw cw_pause ⟨by decide, by decide⟩ (by decide +kernel) sm_lw_pause hW rfl rfl (Nat.le_of_ble_eq_true rfl) (Nat.le_of_ble_eq_true rfl) (Nat.le_of_ble_eq_true rfl) hkc hks (fun v n9 f9 hE => ?_)
    obtain ⟨k9, I1, L1, b9, I2, L2, rfl, rfl, rfl, hm, hpost⟩ := hM _ _ _ hE
    refine qr_istore (lv' := [(5, .int k9), (0, .ref 77), (1, .ref 0), (2, .ref 47), (3, .ref 76), (4, .int (nI a))]) (pc := 354) d_lw_law_354 (Nat.le_of_ble_eq_true rfl) rfl ?_
    refine qr_aload_n (pc := 356) d_lw_law_356 rfl rfl ?_
    refine qr_aload_n (pc := 357) d_lw_law_357 rfl rfl ?_
    refine qr_iload (pc := 358) d_lw_law_358 rfl ?_
    refine qr_iconst (v := 1) (pc := 360) d_lw_law_360 (by decide) ?_
    refine qr_iadd (pc := 361) d_lw_law_361 ?_
    refine qR_st (st' := [.int (nI (a + 1)), .ref 77, .ref 47]) rfl (by rw [nI_1] <;> rfl) rfl ?_
    refine qr_sldN (j := (a + 1)) (fun _ _ _ _ h => h) (pc := 362) d_lw_law_362 (by omega) hLn ?_
    refine qr_aload_n (pc := 363) d_lw_law_363 rfl rfl ?_
    refine qr_iload (pc := 364) d_lw_law_364 rfl ?_
    refine qr_iconst (v := 2) (pc := 366) d_lw_law_366 (by decide) ?_
    refine qr_iadd (pc := 367) d_lw_law_367 ?_
    refine qR_st (st' := [.int (nI (a + 2)), .ref 77, .int (xs (a + 1)), .ref 47]) rfl (by rw [nI_p2] <;> rfl) rfl ?_
    refine qr_sldN (j := (a + 2)) (fun _ _ _ _ h => h) (pc := 368) d_lw_law_368 (by omega) hLn ?_
    refine qr_if_eq (tgt := 376) (pc := 369) d_lw_law_369 (by decide) (fun h => absurd h hz0) (fun _ => ?_)
    refine qr_iconst (v := 1) (pc := 372) d_lw_law_372 (by decide) ?_
    refine qr_goto (tgt := 377) (pc := 373) d_lw_law_373 (by decide) ?_
    refine qR_st (st' := [.int on, .int (xs (a + 1)), .ref 47]) rfl (by rw [hon, if_neg hz0]) rfl ?_
    refine qr_callV (q := 47) (As := [.int (xs (a + 1)), .int on]) (pc := 377) d_lw_law_377 lk_lw_105 im_md_pause se_md_pause rfl (by decide) (by decide) (c_47 _ _) hm rfl rfl (Nat.le_of_ble_eq_true rfl) (Nat.le_of_ble_eq_true rfl) (Nat.le_of_ble_eq_true rfl) (by show kc + 1 + 0 ≤ 601024; omega) (by show ks + 6 + 0 ≤ 7293034; omega) (fun h => nomatch h) (fun v n9 f9 hE9 => ?_)
    obtain ⟨rfl, rfl, rfl⟩ := hE9
    refine qr_istore (lv' := [(6, .int b9), (5, .int k9), (0, .ref 77), (1, .ref 0), (2, .ref 47), (3, .ref 76), (4, .int (nI a))]) (pc := 380) d_lw_law_380 (Nat.le_of_ble_eq_true rfl) rfl ?_
    refine qr_goto (tgt := 862) (pc := 382) d_lw_law_382 (by decide) ?_
    refine qR_sub (lv' := lwV a) [2, 3, 4, 5, 6] rfl ?_
    exact kk _ _ hpost
set_option maxRecDepth 10000 in
theorem lc_event {l : Launch} {b Ln : Nat} {xs : Nat → Int32} {E : qE} {X : qXC} {a kc ks : Nat} {I : Nat → Nat → Int32} {L : Nat → Nat → Int64} (ha : a + 5 ≤ Ln) (hLn : Ln < 2 ^ 31) (hkc : kc + 1 ≤ 601024) (hks : ks + 6 ≤ 7293034) (Post : (Nat → Nat → Int32) → (Nat → Nat → Int64) → Prop) {Ew : qE} (hW : qSpW l y_lw_event b_lw_event 7 (some .int) hh_event 10 1 6 [.ref 0, .int (xs (a + 1)), .int (xs (a + 2)), .int (xs (a + 3)), .int (xs (a + 4)), .ref 76] 77 (fm I L) Ew) (hM : ∀ v n f, Ew v n f → ∃ (k9 : Int32) (I1 : Nat → Nat → Int32) (L1 : Nat → Nat → Int64) (b9 : Int32) (I2 : Nat → Nat → Int32) (L2 : Nat → Nat → Int64), some (.int k9) = v ∧ 77 = n ∧ fm I1 L1 = f ∧ qSp l y_md_event b_md_event 6 (some .int) false 2 0 0 [.ref 47, .int (xs (a + 1)), .int (xs (a + 2)), .int (xs (a + 3)), .int (xs (a + 4))] 77 (fm I1 L1) (qD (some (.int b9)) 77 (fm I2 L2)) ∧ Post I2 L2) (kk : ∀ I2 L2, Post I2 L2 → qR (qKL l b Ln xs) E X 862 (lwV a) [] 77 (kc + 1) (ks + 6) (fm I2 L2)) : qR (qKL l b Ln xs) E X 385 (lwV a) [] 77 kc ks (fm I L) := by
  refine qr_aload_n (pc := 385) d_lw_law_385 rfl rfl ?_
  refine qr_aload_n (pc := 386) d_lw_law_386 rfl rfl ?_
  refine qr_iload (pc := 387) d_lw_law_387 rfl ?_
  refine qr_iconst (v := 1) (pc := 389) d_lw_law_389 (by decide) ?_
  refine qr_iadd (pc := 390) d_lw_law_390 ?_
  refine qR_st (st' := [.int (nI (a + 1)), .ref 77, .ref 0]) rfl (by rw [nI_1] <;> rfl) rfl ?_
  refine qr_sldN (j := (a + 1)) (fun _ _ _ _ h => h) (pc := 391) d_lw_law_391 (by omega) hLn ?_
  refine qr_aload_n (pc := 392) d_lw_law_392 rfl rfl ?_
  refine qr_iload (pc := 393) d_lw_law_393 rfl ?_
  refine qr_iconst (v := 2) (pc := 395) d_lw_law_395 (by decide) ?_
  refine qr_iadd (pc := 396) d_lw_law_396 ?_
  refine qR_st (st' := [.int (nI (a + 2)), .ref 77, .int (xs (a + 1)), .ref 0]) rfl (by rw [nI_p2] <;> rfl) rfl ?_
  refine qr_sldN (j := (a + 2)) (fun _ _ _ _ h => h) (pc := 397) d_lw_law_397 (by omega) hLn ?_
  refine qr_aload_n (pc := 398) d_lw_law_398 rfl rfl ?_
  refine qr_iload (pc := 399) d_lw_law_399 rfl ?_
  refine qr_iconst (v := 3) (pc := 401) d_lw_law_401 (by decide) ?_
  refine qr_iadd (pc := 402) d_lw_law_402 ?_
  refine qR_st (st' := [.int (nI (a + 3)), .ref 77, .int (xs (a + 2)), .int (xs (a + 1)), .ref 0]) rfl (by rw [nI_p3] <;> rfl) rfl ?_
  refine qr_sldN (j := (a + 3)) (fun _ _ _ _ h => h) (pc := 403) d_lw_law_403 (by omega) hLn ?_
  refine qr_aload_n (pc := 404) d_lw_law_404 rfl rfl ?_
  refine qr_iload (pc := 405) d_lw_law_405 rfl ?_
  refine qr_iconst (v := 4) (pc := 407) d_lw_law_407 (by decide) ?_
  refine qr_iadd (pc := 408) d_lw_law_408 ?_
  refine qR_st (st' := [.int (nI (a + 4)), .ref 77, .int (xs (a + 3)), .int (xs (a + 2)), .int (xs (a + 1)), .ref 0]) rfl (by rw [nI_p4] <;> rfl) rfl ?_
  refine qr_sldN (j := (a + 4)) (fun _ _ _ _ h => h) (pc := 409) d_lw_law_409 (by omega) hLn ?_
  refine qr_aload_n (pc := 410) d_lw_law_410 rfl rfl ?_
  refine qr_callSW (hh := hh_event) (na := 6) (As := [.ref 0, .int (xs (a + 1)), .int (xs (a + 2)), .int (xs (a + 3)), .int (xs (a + 4)), .ref 76]) (pc := 411) d_lw_law_411 lk_lw_106 ii_lw cw_event ⟨by decide, by decide⟩ (by decide +kernel) sm_lw_event hW rfl rfl (Nat.le_of_ble_eq_true rfl) (Nat.le_of_ble_eq_true rfl) (Nat.le_of_ble_eq_true rfl) hkc hks (fun v n9 f9 hE => ?_)
  obtain ⟨k9, I1, L1, b9, I2, L2, rfl, rfl, rfl, hm, hpost⟩ := hM _ _ _ hE
  refine qr_istore (lv' := [(5, .int k9), (0, .ref 77), (1, .ref 0), (2, .ref 47), (3, .ref 76), (4, .int (nI a))]) (pc := 414) d_lw_law_414 (Nat.le_of_ble_eq_true rfl) rfl ?_
  refine qr_aload_n (pc := 416) d_lw_law_416 rfl rfl ?_
  refine qr_aload_n (pc := 417) d_lw_law_417 rfl rfl ?_
  refine qr_iload (pc := 418) d_lw_law_418 rfl ?_
  refine qr_iconst (v := 1) (pc := 420) d_lw_law_420 (by decide) ?_
  refine qr_iadd (pc := 421) d_lw_law_421 ?_
  refine qR_st (st' := [.int (nI (a + 1)), .ref 77, .ref 47]) rfl (by rw [nI_1] <;> rfl) rfl ?_
  refine qr_sldN (j := (a + 1)) (fun _ _ _ _ h => h) (pc := 422) d_lw_law_422 (by omega) hLn ?_
  refine qr_aload_n (pc := 423) d_lw_law_423 rfl rfl ?_
  refine qr_iload (pc := 424) d_lw_law_424 rfl ?_
  refine qr_iconst (v := 2) (pc := 426) d_lw_law_426 (by decide) ?_
  refine qr_iadd (pc := 427) d_lw_law_427 ?_
  refine qR_st (st' := [.int (nI (a + 2)), .ref 77, .int (xs (a + 1)), .ref 47]) rfl (by rw [nI_p2] <;> rfl) rfl ?_
  refine qr_sldN (j := (a + 2)) (fun _ _ _ _ h => h) (pc := 428) d_lw_law_428 (by omega) hLn ?_
  refine qr_aload_n (pc := 429) d_lw_law_429 rfl rfl ?_
  refine qr_iload (pc := 430) d_lw_law_430 rfl ?_
  refine qr_iconst (v := 3) (pc := 432) d_lw_law_432 (by decide) ?_
  refine qr_iadd (pc := 433) d_lw_law_433 ?_
  refine qR_st (st' := [.int (nI (a + 3)), .ref 77, .int (xs (a + 2)), .int (xs (a + 1)), .ref 47]) rfl (by rw [nI_p3] <;> rfl) rfl ?_
  refine qr_sldN (j := (a + 3)) (fun _ _ _ _ h => h) (pc := 434) d_lw_law_434 (by omega) hLn ?_
  refine qr_aload_n (pc := 435) d_lw_law_435 rfl rfl ?_
  refine qr_iload (pc := 436) d_lw_law_436 rfl ?_
  refine qr_iconst (v := 4) (pc := 438) d_lw_law_438 (by decide) ?_
  refine qr_iadd (pc := 439) d_lw_law_439 ?_
  refine qR_st (st' := [.int (nI (a + 4)), .ref 77, .int (xs (a + 3)), .int (xs (a + 2)), .int (xs (a + 1)), .ref 47]) rfl (by rw [nI_p4] <;> rfl) rfl ?_
  refine qr_sldN (j := (a + 4)) (fun _ _ _ _ h => h) (pc := 440) d_lw_law_440 (by omega) hLn ?_
  refine qr_callV (q := 47) (As := [.int (xs (a + 1)), .int (xs (a + 2)), .int (xs (a + 3)), .int (xs (a + 4))]) (pc := 441) d_lw_law_441 lk_lw_109 im_md_event se_md_event rfl (by decide) (by decide) (c_47 _ _) hm rfl rfl (Nat.le_of_ble_eq_true rfl) (Nat.le_of_ble_eq_true rfl) (Nat.le_of_ble_eq_true rfl) (by show kc + 1 + 0 ≤ 601024; omega) (by show ks + 6 + 0 ≤ 7293034; omega) (fun h => nomatch h) (fun v n9 f9 hE9 => ?_)
  obtain ⟨rfl, rfl, rfl⟩ := hE9
  refine qr_istore (lv' := [(6, .int b9), (5, .int k9), (0, .ref 77), (1, .ref 0), (2, .ref 47), (3, .ref 76), (4, .int (nI a))]) (pc := 444) d_lw_law_444 (Nat.le_of_ble_eq_true rfl) rfl ?_
  refine qr_goto (tgt := 862) (pc := 446) d_lw_law_446 (by decide) ?_
  refine qR_sub (lv' := lwV a) [2, 3, 4, 5, 6] rfl ?_
  exact kk _ _ hpost
set_option maxRecDepth 10000 in
theorem lc_tick {l : Launch} {b Ln : Nat} {xs : Nat → Int32} {E : qE} {X : qXC} {a kc ks : Nat} {I : Nat → Nat → Int32} {L : Nat → Nat → Int64} (ha : a + 5 ≤ Ln) (hLn : Ln < 2 ^ 31) (hkc : kc + 1 ≤ 601024) (hks : ks + 6 ≤ 7293034) (Post : (Nat → Nat → Int32) → (Nat → Nat → Int64) → Prop) {Ew : qE} (hW : qSpW l y_lw_tick b_lw_tick 4 (some .int) hh_tick 10 1 6 [.ref 0, .int (xs (a + 1)), .ref 76] 77 (fm I L) Ew) (hM : ∀ v n f, Ew v n f → ∃ (k9 : Int32) (I1 : Nat → Nat → Int32) (L1 : Nat → Nat → Int64) (b9 : Int32) (I2 : Nat → Nat → Int32) (L2 : Nat → Nat → Int64), some (.int k9) = v ∧ 77 = n ∧ fm I1 L1 = f ∧ qSp l y_md_tick b_md_tick 4 (some .int) false 3 0 0 [.ref 47, .int (xs (a + 1))] 77 (fm I1 L1) (qD (some (.int b9)) 77 (fm I2 L2)) ∧ Post I2 L2) (kk : ∀ I2 L2, Post I2 L2 → qR (qKL l b Ln xs) E X 862 (lwV a) [] 77 (kc + 1) (ks + 6) (fm I2 L2)) : qR (qKL l b Ln xs) E X 449 (lwV a) [] 77 kc ks (fm I L) := by
  refine qr_aload_n (pc := 449) d_lw_law_449 rfl rfl ?_
  refine qr_aload_n (pc := 450) d_lw_law_450 rfl rfl ?_
  refine qr_iload (pc := 451) d_lw_law_451 rfl ?_
  refine qr_iconst (v := 1) (pc := 453) d_lw_law_453 (by decide) ?_
  refine qr_iadd (pc := 454) d_lw_law_454 ?_
  refine qR_st (st' := [.int (nI (a + 1)), .ref 77, .ref 0]) rfl (by rw [nI_1] <;> rfl) rfl ?_
  refine qr_sldN (j := (a + 1)) (fun _ _ _ _ h => h) (pc := 455) d_lw_law_455 (by omega) hLn ?_
  refine qr_aload_n (pc := 456) d_lw_law_456 rfl rfl ?_
  refine qr_callSW (hh := hh_tick) (na := 3) (As := [.ref 0, .int (xs (a + 1)), .ref 76]) (pc := 457) d_lw_law_457 lk_lw_110 ii_lw cw_tick ⟨by decide, by decide⟩ (by decide +kernel) sm_lw_tick hW rfl rfl (Nat.le_of_ble_eq_true rfl) (Nat.le_of_ble_eq_true rfl) (Nat.le_of_ble_eq_true rfl) hkc hks (fun v n9 f9 hE => ?_)
  obtain ⟨k9, I1, L1, b9, I2, L2, rfl, rfl, rfl, hm, hpost⟩ := hM _ _ _ hE
  refine qr_istore (lv' := [(5, .int k9), (0, .ref 77), (1, .ref 0), (2, .ref 47), (3, .ref 76), (4, .int (nI a))]) (pc := 460) d_lw_law_460 (Nat.le_of_ble_eq_true rfl) rfl ?_
  refine qr_aload_n (pc := 462) d_lw_law_462 rfl rfl ?_
  refine qr_aload_n (pc := 463) d_lw_law_463 rfl rfl ?_
  refine qr_iload (pc := 464) d_lw_law_464 rfl ?_
  refine qr_iconst (v := 1) (pc := 466) d_lw_law_466 (by decide) ?_
  refine qr_iadd (pc := 467) d_lw_law_467 ?_
  refine qR_st (st' := [.int (nI (a + 1)), .ref 77, .ref 47]) rfl (by rw [nI_1] <;> rfl) rfl ?_
  refine qr_sldN (j := (a + 1)) (fun _ _ _ _ h => h) (pc := 468) d_lw_law_468 (by omega) hLn ?_
  refine qr_callV (q := 47) (As := [.int (xs (a + 1))]) (pc := 469) d_lw_law_469 lk_lw_112 im_md_tick se_md_tick rfl (by decide) (by decide) (c_47 _ _) hm rfl rfl (Nat.le_of_ble_eq_true rfl) (Nat.le_of_ble_eq_true rfl) (Nat.le_of_ble_eq_true rfl) (by show kc + 1 + 0 ≤ 601024; omega) (by show ks + 6 + 0 ≤ 7293034; omega) (fun h => nomatch h) (fun v n9 f9 hE9 => ?_)
  obtain ⟨rfl, rfl, rfl⟩ := hE9
  refine qr_istore (lv' := [(6, .int b9), (5, .int k9), (0, .ref 77), (1, .ref 0), (2, .ref 47), (3, .ref 76), (4, .int (nI a))]) (pc := 472) d_lw_law_472 (Nat.le_of_ble_eq_true rfl) rfl ?_
  refine qr_goto (tgt := 862) (pc := 474) d_lw_law_474 (by decide) ?_
  refine qR_sub (lv' := lwV a) [2, 3, 4, 5, 6] rfl ?_
  exact kk _ _ hpost
set_option maxRecDepth 10000 in
theorem lc_run {l : Launch} {b Ln : Nat} {xs : Nat → Int32} {E : qE} {X : qXC} {a kc ks : Nat} {I : Nat → Nat → Int32} {L : Nat → Nat → Int64} (ha : a + 5 ≤ Ln) (hLn : Ln < 2 ^ 31) (hkc : kc + 1 ≤ 601024) (hks : ks + 6 ≤ 7293034) (Post : (Nat → Nat → Int32) → (Nat → Nat → Int64) → Prop) {r r2 : Int32} {I1 I2 : Nat → Nat → Int32} {L1 L2 : Nat → Nat → Int64} (hW : qSp l y_bf_run b_bf_run 4 (some .int) false 9 0 0 [.ref 0] 77 (fm I L) (qD (some (.int r)) 77 (fm I1 L1))) (hM : qSp l y_md_run b_md_run 9 (some .int) false 6 0 0 [.ref 47] 77 (fm I1 L1) (qD (some (.int r2)) 77 (fm I2 L2))) (hp : Post I2 L2) (kk : ∀ I2 L2, Post I2 L2 → qR (qKL l b Ln xs) E X 862 (lwV a) [] 77 kc ks (fm I2 L2)) : qR (qKL l b Ln xs) E X 477 (lwV a) [] 77 kc ks (fm I L) := by
  refine qr_aload_n (pc := 477) d_lw_law_477 rfl rfl ?_
  refine qr_callV (q := 0) (As := []) (pc := 478) d_lw_law_478 lk_lw_113 im_bf_run se_bf_run rfl (by decide) (by decide) (c_0 _ _) hW rfl rfl (Nat.le_of_ble_eq_true rfl) (Nat.le_of_ble_eq_true rfl) (Nat.le_of_ble_eq_true rfl) (by show kc + 0 ≤ 601024; omega) (by show ks + 0 ≤ 7293034; omega) (fun h => nomatch h) (fun v n9 f9 hE => ?_)
  obtain ⟨rfl, rfl, rfl⟩ := hE
  refine qr_pop (pc := 481) d_lw_law_481 rfl ?_
  refine qr_aload_n (pc := 482) d_lw_law_482 rfl rfl ?_
  refine qr_callV (q := 47) (As := []) (pc := 483) d_lw_law_483 lk_lw_116 im_md_run se_md_run rfl (by decide) (by decide) (c_47 _ _) hM rfl rfl (Nat.le_of_ble_eq_true rfl) (Nat.le_of_ble_eq_true rfl) (Nat.le_of_ble_eq_true rfl) (by show kc + 0 + 0 ≤ 601024; omega) (by show ks + 0 + 0 ≤ 7293034; omega) (fun h => nomatch h) (fun v n9 f9 hE => ?_)
  obtain ⟨rfl, rfl, rfl⟩ := hE
  refine qr_pop (pc := 486) d_lw_law_486 rfl ?_
  refine qr_goto (tgt := 862) (pc := 487) d_lw_law_487 (by decide) ?_
  exact kk _ _ hp
set_option maxRecDepth 10000 in
theorem lc_pay {l : Launch} {b Ln : Nat} {xs : Nat → Int32} {E : qE} {X : qXC} {a kc ks : Nat} {I : Nat → Nat → Int32} {L : Nat → Nat → Int64} (ha : a + 5 ≤ Ln) (hLn : Ln < 2 ^ 31) (hkc : kc + 1 ≤ 601024) (hks : ks + 6 ≤ 7293034) (Post : (Nat → Nat → Int32) → (Nat → Nat → Int64) → Prop) {Ew : qE} (hW : qSpW l y_lw_pay b_lw_pay 6 (some .int) hh_pay 10 1 6 [.ref 0, .int (xs (a + 1)), .long (lwJ (xs (a + 2)) (xs (a + 3))), .ref 76] 77 (fm I L) Ew) (hM : ∀ v n f, Ew v n f → ∃ (k9 : Int32) (I1 : Nat → Nat → Int32) (L1 : Nat → Nat → Int64) (b9 : Int64) (I2 : Nat → Nat → Int32) (L2 : Nat → Nat → Int64), some (.int k9) = v ∧ 77 = n ∧ fm I1 L1 = f ∧ qSp l y_md_pay b_md_pay 6 (some .long) false 4 0 0 [.ref 47, .int (xs (a + 1)), .long (lwJ (xs (a + 2)) (xs (a + 3)))] 77 (fm I1 L1) (qD (some (.long b9)) 77 (fm I2 L2)) ∧ Post I2 L2) (kk : ∀ I2 L2, Post I2 L2 → qR (qKL l b Ln xs) E X 862 (lwV a) [] 77 (kc + 1) (ks + 6) (fm I2 L2)) : qR (qKL l b Ln xs) E X 490 (lwV a) [] 77 kc ks (fm I L) := by
  refine qr_aload_n (pc := 490) d_lw_law_490 rfl rfl ?_
  refine qr_aload_n (pc := 491) d_lw_law_491 rfl rfl ?_
  refine qr_iload (pc := 492) d_lw_law_492 rfl ?_
  refine qr_iconst (v := 1) (pc := 494) d_lw_law_494 (by decide) ?_
  refine qr_iadd (pc := 495) d_lw_law_495 ?_
  refine qR_st (st' := [.int (nI (a + 1)), .ref 77, .ref 0]) rfl (by rw [nI_1] <;> rfl) rfl ?_
  refine qr_sldN (j := (a + 1)) (fun _ _ _ _ h => h) (pc := 496) d_lw_law_496 (by omega) hLn ?_
  refine qr_aload_n (pc := 497) d_lw_law_497 rfl rfl ?_
  refine qr_iload (pc := 498) d_lw_law_498 rfl ?_
  refine qr_iconst (v := 2) (pc := 500) d_lw_law_500 (by decide) ?_
  refine qr_iadd (pc := 501) d_lw_law_501 ?_
  refine qR_st (st' := [.int (nI (a + 2)), .ref 77, .int (xs (a + 1)), .ref 0]) rfl (by rw [nI_p2] <;> rfl) rfl ?_
  refine qr_sldN (j := (a + 2)) (fun _ _ _ _ h => h) (pc := 502) d_lw_law_502 (by omega) hLn ?_
  refine qr_i2l (pc := 503) d_lw_law_503 ?_
  refine qr_bipush (v := 32) (pc := 504) d_lw_law_504 (by decide) ?_
  refine qr_lshl (pc := 506) d_lw_law_506 ?_
  refine qr_aload_n (pc := 507) d_lw_law_507 rfl rfl ?_
  refine qr_iload (pc := 508) d_lw_law_508 rfl ?_
  refine qr_iconst (v := 3) (pc := 510) d_lw_law_510 (by decide) ?_
  refine qr_iadd (pc := 511) d_lw_law_511 ?_
  refine qR_st (st' := [.int (nI (a + 3)), .ref 77, .long ((Int32.toInt64 (xs (a + 2))) <<< ((Int32.toInt64 32) &&& 63)), .int (xs (a + 1)), .ref 0]) rfl (by rw [nI_p3] <;> rfl) rfl ?_
  refine qr_sldN (j := (a + 3)) (fun _ _ _ _ h => h) (pc := 512) d_lw_law_512 (by omega) hLn ?_
  refine qr_i2l (pc := 513) d_lw_law_513 ?_
  refine qr_ldc2 (v := 4294967295) (pc := 514) d_lw_law_514 kl_lw_75 ?_
  refine qr_land (pc := 517) d_lw_law_517 ?_
  refine qr_lor (pc := 518) d_lw_law_518 ?_
  refine qR_st (st' := [.long (lwJ (xs (a + 2)) (xs (a + 3))), .int (xs (a + 1)), .ref 0]) rfl rfl rfl ?_
  refine qr_aload_n (pc := 519) d_lw_law_519 rfl rfl ?_
  refine qr_callSW (hh := hh_pay) (na := 4) (As := [.ref 0, .int (xs (a + 1)), .long (lwJ (xs (a + 2)) (xs (a + 3))), .ref 76]) (pc := 520) d_lw_law_520 lk_lw_117 ii_lw cw_pay ⟨by decide, by decide⟩ (by decide +kernel) sm_lw_pay hW rfl rfl (Nat.le_of_ble_eq_true rfl) (Nat.le_of_ble_eq_true rfl) (Nat.le_of_ble_eq_true rfl) hkc hks (fun v n9 f9 hE => ?_)
  obtain ⟨k9, I1, L1, b9, I2, L2, rfl, rfl, rfl, hm, hpost⟩ := hM _ _ _ hE
  refine qr_istore (lv' := [(5, .int k9), (0, .ref 77), (1, .ref 0), (2, .ref 47), (3, .ref 76), (4, .int (nI a))]) (pc := 523) d_lw_law_523 (Nat.le_of_ble_eq_true rfl) rfl ?_
  refine qr_aload_n (pc := 525) d_lw_law_525 rfl rfl ?_
  refine qr_aload_n (pc := 526) d_lw_law_526 rfl rfl ?_
  refine qr_iload (pc := 527) d_lw_law_527 rfl ?_
  refine qr_iconst (v := 1) (pc := 529) d_lw_law_529 (by decide) ?_
  refine qr_iadd (pc := 530) d_lw_law_530 ?_
  refine qR_st (st' := [.int (nI (a + 1)), .ref 77, .ref 47]) rfl (by rw [nI_1] <;> rfl) rfl ?_
  refine qr_sldN (j := (a + 1)) (fun _ _ _ _ h => h) (pc := 531) d_lw_law_531 (by omega) hLn ?_
  refine qr_aload_n (pc := 532) d_lw_law_532 rfl rfl ?_
  refine qr_iload (pc := 533) d_lw_law_533 rfl ?_
  refine qr_iconst (v := 2) (pc := 535) d_lw_law_535 (by decide) ?_
  refine qr_iadd (pc := 536) d_lw_law_536 ?_
  refine qR_st (st' := [.int (nI (a + 2)), .ref 77, .int (xs (a + 1)), .ref 47]) rfl (by rw [nI_p2] <;> rfl) rfl ?_
  refine qr_sldN (j := (a + 2)) (fun _ _ _ _ h => h) (pc := 537) d_lw_law_537 (by omega) hLn ?_
  refine qr_i2l (pc := 538) d_lw_law_538 ?_
  refine qr_bipush (v := 32) (pc := 539) d_lw_law_539 (by decide) ?_
  refine qr_lshl (pc := 541) d_lw_law_541 ?_
  refine qr_aload_n (pc := 542) d_lw_law_542 rfl rfl ?_
  refine qr_iload (pc := 543) d_lw_law_543 rfl ?_
  refine qr_iconst (v := 3) (pc := 545) d_lw_law_545 (by decide) ?_
  refine qr_iadd (pc := 546) d_lw_law_546 ?_
  refine qR_st (st' := [.int (nI (a + 3)), .ref 77, .long ((Int32.toInt64 (xs (a + 2))) <<< ((Int32.toInt64 32) &&& 63)), .int (xs (a + 1)), .ref 47]) rfl (by rw [nI_p3] <;> rfl) rfl ?_
  refine qr_sldN (j := (a + 3)) (fun _ _ _ _ h => h) (pc := 547) d_lw_law_547 (by omega) hLn ?_
  refine qr_i2l (pc := 548) d_lw_law_548 ?_
  refine qr_ldc2 (v := 4294967295) (pc := 549) d_lw_law_549 kl_lw_75 ?_
  refine qr_land (pc := 552) d_lw_law_552 ?_
  refine qr_lor (pc := 553) d_lw_law_553 ?_
  refine qR_st (st' := [.long (lwJ (xs (a + 2)) (xs (a + 3))), .int (xs (a + 1)), .ref 47]) rfl rfl rfl ?_
  refine qr_callV (q := 47) (As := [.int (xs (a + 1)), .long (lwJ (xs (a + 2)) (xs (a + 3)))]) (pc := 554) d_lw_law_554 lk_lw_120 im_md_pay se_md_pay rfl (by decide) (by decide) (c_47 _ _) hm rfl rfl (Nat.le_of_ble_eq_true rfl) (Nat.le_of_ble_eq_true rfl) (Nat.le_of_ble_eq_true rfl) (by show kc + 1 + 0 ≤ 601024; omega) (by show ks + 6 + 0 ≤ 7293034; omega) (fun h => nomatch h) (fun v n9 f9 hE9 => ?_)
  obtain ⟨rfl, rfl, rfl⟩ := hE9
  refine qr_lstore (lv' := [(6, .long b9), (5, .int k9), (0, .ref 77), (1, .ref 0), (2, .ref 47), (3, .ref 76), (4, .int (nI a))]) (pc := 557) d_lw_law_557 (Nat.le_of_ble_eq_true rfl) rfl ?_
  refine qr_goto (tgt := 862) (pc := 559) d_lw_law_559 (by decide) ?_
  refine qR_sub (lv' := lwV a) [2, 3, 4, 5, 6] rfl ?_
  exact kk _ _ hpost
set_option maxRecDepth 10000 in
theorem lc_plan {l : Launch} {b Ln : Nat} {xs : Nat → Int32} {E : qE} {X : qXC} {a kc ks : Nat} {I : Nat → Nat → Int32} {L : Nat → Nat → Int64} (ha : a + 5 ≤ Ln) (hLn : Ln < 2 ^ 31) (hkc : kc + 1 ≤ 601024) (hks : ks + 6 ≤ 7293034) (Post : (Nat → Nat → Int32) → (Nat → Nat → Int64) → Prop) {Ew : qE} (hW : qSpW l y_lw_plan b_lw_plan 7 (some .int) hh_plan 10 1 6 [.ref 0, .int (xs (a + 1)), .long (lwJ (xs (a + 2)) (xs (a + 3))), .int (xs (a + 4)), .ref 76] 77 (fm I L) Ew) (hM : ∀ v n f, Ew v n f → ∃ (k9 : Int32) (I1 : Nat → Nat → Int32) (L1 : Nat → Nat → Int64) (b9 : Int32) (I2 : Nat → Nat → Int32) (L2 : Nat → Nat → Int64), some (.int k9) = v ∧ 77 = n ∧ fm I1 L1 = f ∧ qSp l y_md_plan b_md_plan 5 (some .int) false 2 0 0 [.ref 47, .int (xs (a + 1)), .long (lwJ (xs (a + 2)) (xs (a + 3))), .int (xs (a + 4))] 77 (fm I1 L1) (qD (some (.int b9)) 77 (fm I2 L2)) ∧ Post I2 L2) (kk : ∀ I2 L2, Post I2 L2 → qR (qKL l b Ln xs) E X 862 (lwV a) [] 77 (kc + 1) (ks + 6) (fm I2 L2)) : qR (qKL l b Ln xs) E X 562 (lwV a) [] 77 kc ks (fm I L) := by
  refine qr_aload_n (pc := 562) d_lw_law_562 rfl rfl ?_
  refine qr_aload_n (pc := 563) d_lw_law_563 rfl rfl ?_
  refine qr_iload (pc := 564) d_lw_law_564 rfl ?_
  refine qr_iconst (v := 1) (pc := 566) d_lw_law_566 (by decide) ?_
  refine qr_iadd (pc := 567) d_lw_law_567 ?_
  refine qR_st (st' := [.int (nI (a + 1)), .ref 77, .ref 0]) rfl (by rw [nI_1] <;> rfl) rfl ?_
  refine qr_sldN (j := (a + 1)) (fun _ _ _ _ h => h) (pc := 568) d_lw_law_568 (by omega) hLn ?_
  refine qr_aload_n (pc := 569) d_lw_law_569 rfl rfl ?_
  refine qr_iload (pc := 570) d_lw_law_570 rfl ?_
  refine qr_iconst (v := 2) (pc := 572) d_lw_law_572 (by decide) ?_
  refine qr_iadd (pc := 573) d_lw_law_573 ?_
  refine qR_st (st' := [.int (nI (a + 2)), .ref 77, .int (xs (a + 1)), .ref 0]) rfl (by rw [nI_p2] <;> rfl) rfl ?_
  refine qr_sldN (j := (a + 2)) (fun _ _ _ _ h => h) (pc := 574) d_lw_law_574 (by omega) hLn ?_
  refine qr_i2l (pc := 575) d_lw_law_575 ?_
  refine qr_bipush (v := 32) (pc := 576) d_lw_law_576 (by decide) ?_
  refine qr_lshl (pc := 578) d_lw_law_578 ?_
  refine qr_aload_n (pc := 579) d_lw_law_579 rfl rfl ?_
  refine qr_iload (pc := 580) d_lw_law_580 rfl ?_
  refine qr_iconst (v := 3) (pc := 582) d_lw_law_582 (by decide) ?_
  refine qr_iadd (pc := 583) d_lw_law_583 ?_
  refine qR_st (st' := [.int (nI (a + 3)), .ref 77, .long ((Int32.toInt64 (xs (a + 2))) <<< ((Int32.toInt64 32) &&& 63)), .int (xs (a + 1)), .ref 0]) rfl (by rw [nI_p3] <;> rfl) rfl ?_
  refine qr_sldN (j := (a + 3)) (fun _ _ _ _ h => h) (pc := 584) d_lw_law_584 (by omega) hLn ?_
  refine qr_i2l (pc := 585) d_lw_law_585 ?_
  refine qr_ldc2 (v := 4294967295) (pc := 586) d_lw_law_586 kl_lw_75 ?_
  refine qr_land (pc := 589) d_lw_law_589 ?_
  refine qr_lor (pc := 590) d_lw_law_590 ?_
  refine qR_st (st' := [.long (lwJ (xs (a + 2)) (xs (a + 3))), .int (xs (a + 1)), .ref 0]) rfl rfl rfl ?_
  refine qr_aload_n (pc := 591) d_lw_law_591 rfl rfl ?_
  refine qr_iload (pc := 592) d_lw_law_592 rfl ?_
  refine qr_iconst (v := 4) (pc := 594) d_lw_law_594 (by decide) ?_
  refine qr_iadd (pc := 595) d_lw_law_595 ?_
  refine qR_st (st' := [.int (nI (a + 4)), .ref 77, .long (lwJ (xs (a + 2)) (xs (a + 3))), .int (xs (a + 1)), .ref 0]) rfl (by rw [nI_p4] <;> rfl) rfl ?_
  refine qr_sldN (j := (a + 4)) (fun _ _ _ _ h => h) (pc := 596) d_lw_law_596 (by omega) hLn ?_
  refine qr_aload_n (pc := 597) d_lw_law_597 rfl rfl ?_
  refine qr_callSW (hh := hh_plan) (na := 5) (As := [.ref 0, .int (xs (a + 1)), .long (lwJ (xs (a + 2)) (xs (a + 3))), .int (xs (a + 4)), .ref 76]) (pc := 598) d_lw_law_598 lk_lw_121 ii_lw cw_plan ⟨by decide, by decide⟩ (by decide +kernel) sm_lw_plan hW rfl rfl (Nat.le_of_ble_eq_true rfl) (Nat.le_of_ble_eq_true rfl) (Nat.le_of_ble_eq_true rfl) hkc hks (fun v n9 f9 hE => ?_)
  obtain ⟨k9, I1, L1, b9, I2, L2, rfl, rfl, rfl, hm, hpost⟩ := hM _ _ _ hE
  refine qr_istore (lv' := [(5, .int k9), (0, .ref 77), (1, .ref 0), (2, .ref 47), (3, .ref 76), (4, .int (nI a))]) (pc := 601) d_lw_law_601 (Nat.le_of_ble_eq_true rfl) rfl ?_
  refine qr_aload_n (pc := 603) d_lw_law_603 rfl rfl ?_
  refine qr_aload_n (pc := 604) d_lw_law_604 rfl rfl ?_
  refine qr_iload (pc := 605) d_lw_law_605 rfl ?_
  refine qr_iconst (v := 1) (pc := 607) d_lw_law_607 (by decide) ?_
  refine qr_iadd (pc := 608) d_lw_law_608 ?_
  refine qR_st (st' := [.int (nI (a + 1)), .ref 77, .ref 47]) rfl (by rw [nI_1] <;> rfl) rfl ?_
  refine qr_sldN (j := (a + 1)) (fun _ _ _ _ h => h) (pc := 609) d_lw_law_609 (by omega) hLn ?_
  refine qr_aload_n (pc := 610) d_lw_law_610 rfl rfl ?_
  refine qr_iload (pc := 611) d_lw_law_611 rfl ?_
  refine qr_iconst (v := 2) (pc := 613) d_lw_law_613 (by decide) ?_
  refine qr_iadd (pc := 614) d_lw_law_614 ?_
  refine qR_st (st' := [.int (nI (a + 2)), .ref 77, .int (xs (a + 1)), .ref 47]) rfl (by rw [nI_p2] <;> rfl) rfl ?_
  refine qr_sldN (j := (a + 2)) (fun _ _ _ _ h => h) (pc := 615) d_lw_law_615 (by omega) hLn ?_
  refine qr_i2l (pc := 616) d_lw_law_616 ?_
  refine qr_bipush (v := 32) (pc := 617) d_lw_law_617 (by decide) ?_
  refine qr_lshl (pc := 619) d_lw_law_619 ?_
  refine qr_aload_n (pc := 620) d_lw_law_620 rfl rfl ?_
  refine qr_iload (pc := 621) d_lw_law_621 rfl ?_
  refine qr_iconst (v := 3) (pc := 623) d_lw_law_623 (by decide) ?_
  refine qr_iadd (pc := 624) d_lw_law_624 ?_
  refine qR_st (st' := [.int (nI (a + 3)), .ref 77, .long ((Int32.toInt64 (xs (a + 2))) <<< ((Int32.toInt64 32) &&& 63)), .int (xs (a + 1)), .ref 47]) rfl (by rw [nI_p3] <;> rfl) rfl ?_
  refine qr_sldN (j := (a + 3)) (fun _ _ _ _ h => h) (pc := 625) d_lw_law_625 (by omega) hLn ?_
  refine qr_i2l (pc := 626) d_lw_law_626 ?_
  refine qr_ldc2 (v := 4294967295) (pc := 627) d_lw_law_627 kl_lw_75 ?_
  refine qr_land (pc := 630) d_lw_law_630 ?_
  refine qr_lor (pc := 631) d_lw_law_631 ?_
  refine qR_st (st' := [.long (lwJ (xs (a + 2)) (xs (a + 3))), .int (xs (a + 1)), .ref 47]) rfl rfl rfl ?_
  refine qr_aload_n (pc := 632) d_lw_law_632 rfl rfl ?_
  refine qr_iload (pc := 633) d_lw_law_633 rfl ?_
  refine qr_iconst (v := 4) (pc := 635) d_lw_law_635 (by decide) ?_
  refine qr_iadd (pc := 636) d_lw_law_636 ?_
  refine qR_st (st' := [.int (nI (a + 4)), .ref 77, .long (lwJ (xs (a + 2)) (xs (a + 3))), .int (xs (a + 1)), .ref 47]) rfl (by rw [nI_p4] <;> rfl) rfl ?_
  refine qr_sldN (j := (a + 4)) (fun _ _ _ _ h => h) (pc := 637) d_lw_law_637 (by omega) hLn ?_
  refine qr_callV (q := 47) (As := [.int (xs (a + 1)), .long (lwJ (xs (a + 2)) (xs (a + 3))), .int (xs (a + 4))]) (pc := 638) d_lw_law_638 lk_lw_124 im_md_plan se_md_plan rfl (by decide) (by decide) (c_47 _ _) hm rfl rfl (Nat.le_of_ble_eq_true rfl) (Nat.le_of_ble_eq_true rfl) (Nat.le_of_ble_eq_true rfl) (by show kc + 1 + 0 ≤ 601024; omega) (by show ks + 6 + 0 ≤ 7293034; omega) (fun h => nomatch h) (fun v n9 f9 hE9 => ?_)
  obtain ⟨rfl, rfl, rfl⟩ := hE9
  refine qr_istore (lv' := [(6, .int b9), (5, .int k9), (0, .ref 77), (1, .ref 0), (2, .ref 47), (3, .ref 76), (4, .int (nI a))]) (pc := 641) d_lw_law_641 (Nat.le_of_ble_eq_true rfl) rfl ?_
  refine qr_goto (tgt := 862) (pc := 643) d_lw_law_643 (by decide) ?_
  refine qR_sub (lv' := lwV a) [2, 3, 4, 5, 6] rfl ?_
  exact kk _ _ hpost
set_option maxRecDepth 10000 in
theorem lc_charge {l : Launch} {b Ln : Nat} {xs : Nat → Int32} {E : qE} {X : qXC} {a kc ks : Nat} {I : Nat → Nat → Int32} {L : Nat → Nat → Int64} (ha : a + 5 ≤ Ln) (hLn : Ln < 2 ^ 31) (hkc : kc + 1 ≤ 601024) (hks : ks + 6 ≤ 7293034) (Post : (Nat → Nat → Int32) → (Nat → Nat → Int64) → Prop) {Ew : qE} (hW : qSpW l y_lw_charge b_lw_charge 5 (some .int) hh_charge 10 1 6 [.ref 0, .int (xs (a + 1)), .int (xs (a + 2)), .ref 76] 77 (fm I L) Ew) (hM : ∀ v n f, Ew v n f → ∃ (k9 : Int32) (I1 : Nat → Nat → Int32) (L1 : Nat → Nat → Int64) (b9 : Int64) (I2 : Nat → Nat → Int32) (L2 : Nat → Nat → Int64), some (.int k9) = v ∧ 77 = n ∧ fm I1 L1 = f ∧ qSp l y_md_charge b_md_charge 3 (some .long) false 5 0 0 [.ref 47, .int (xs (a + 1)), .int (xs (a + 2))] 77 (fm I1 L1) (qD (some (.long b9)) 77 (fm I2 L2)) ∧ Post I2 L2) (kk : ∀ I2 L2, Post I2 L2 → qR (qKL l b Ln xs) E X 862 (lwV a) [] 77 (kc + 1) (ks + 6) (fm I2 L2)) : qR (qKL l b Ln xs) E X 646 (lwV a) [] 77 kc ks (fm I L) := by
  refine qr_aload_n (pc := 646) d_lw_law_646 rfl rfl ?_
  refine qr_aload_n (pc := 647) d_lw_law_647 rfl rfl ?_
  refine qr_iload (pc := 648) d_lw_law_648 rfl ?_
  refine qr_iconst (v := 1) (pc := 650) d_lw_law_650 (by decide) ?_
  refine qr_iadd (pc := 651) d_lw_law_651 ?_
  refine qR_st (st' := [.int (nI (a + 1)), .ref 77, .ref 0]) rfl (by rw [nI_1] <;> rfl) rfl ?_
  refine qr_sldN (j := (a + 1)) (fun _ _ _ _ h => h) (pc := 652) d_lw_law_652 (by omega) hLn ?_
  refine qr_aload_n (pc := 653) d_lw_law_653 rfl rfl ?_
  refine qr_iload (pc := 654) d_lw_law_654 rfl ?_
  refine qr_iconst (v := 2) (pc := 656) d_lw_law_656 (by decide) ?_
  refine qr_iadd (pc := 657) d_lw_law_657 ?_
  refine qR_st (st' := [.int (nI (a + 2)), .ref 77, .int (xs (a + 1)), .ref 0]) rfl (by rw [nI_p2] <;> rfl) rfl ?_
  refine qr_sldN (j := (a + 2)) (fun _ _ _ _ h => h) (pc := 658) d_lw_law_658 (by omega) hLn ?_
  refine qr_aload_n (pc := 659) d_lw_law_659 rfl rfl ?_
  refine qr_callSW (hh := hh_charge) (na := 4) (As := [.ref 0, .int (xs (a + 1)), .int (xs (a + 2)), .ref 76]) (pc := 660) d_lw_law_660 lk_lw_125 ii_lw cw_charge ⟨by decide, by decide⟩ (by decide +kernel) sm_lw_charge hW rfl rfl (Nat.le_of_ble_eq_true rfl) (Nat.le_of_ble_eq_true rfl) (Nat.le_of_ble_eq_true rfl) hkc hks (fun v n9 f9 hE => ?_)
  obtain ⟨k9, I1, L1, b9, I2, L2, rfl, rfl, rfl, hm, hpost⟩ := hM _ _ _ hE
  refine qr_istore (lv' := [(5, .int k9), (0, .ref 77), (1, .ref 0), (2, .ref 47), (3, .ref 76), (4, .int (nI a))]) (pc := 663) d_lw_law_663 (Nat.le_of_ble_eq_true rfl) rfl ?_
  refine qr_aload_n (pc := 665) d_lw_law_665 rfl rfl ?_
  refine qr_aload_n (pc := 666) d_lw_law_666 rfl rfl ?_
  refine qr_iload (pc := 667) d_lw_law_667 rfl ?_
  refine qr_iconst (v := 1) (pc := 669) d_lw_law_669 (by decide) ?_
  refine qr_iadd (pc := 670) d_lw_law_670 ?_
  refine qR_st (st' := [.int (nI (a + 1)), .ref 77, .ref 47]) rfl (by rw [nI_1] <;> rfl) rfl ?_
  refine qr_sldN (j := (a + 1)) (fun _ _ _ _ h => h) (pc := 671) d_lw_law_671 (by omega) hLn ?_
  refine qr_aload_n (pc := 672) d_lw_law_672 rfl rfl ?_
  refine qr_iload (pc := 673) d_lw_law_673 rfl ?_
  refine qr_iconst (v := 2) (pc := 675) d_lw_law_675 (by decide) ?_
  refine qr_iadd (pc := 676) d_lw_law_676 ?_
  refine qR_st (st' := [.int (nI (a + 2)), .ref 77, .int (xs (a + 1)), .ref 47]) rfl (by rw [nI_p2] <;> rfl) rfl ?_
  refine qr_sldN (j := (a + 2)) (fun _ _ _ _ h => h) (pc := 677) d_lw_law_677 (by omega) hLn ?_
  refine qr_callV (q := 47) (As := [.int (xs (a + 1)), .int (xs (a + 2))]) (pc := 678) d_lw_law_678 lk_lw_127 im_md_charge se_md_charge rfl (by decide) (by decide) (c_47 _ _) hm rfl rfl (Nat.le_of_ble_eq_true rfl) (Nat.le_of_ble_eq_true rfl) (Nat.le_of_ble_eq_true rfl) (by show kc + 1 + 0 ≤ 601024; omega) (by show ks + 6 + 0 ≤ 7293034; omega) (fun h => nomatch h) (fun v n9 f9 hE9 => ?_)
  obtain ⟨rfl, rfl, rfl⟩ := hE9
  refine qr_lstore (lv' := [(6, .long b9), (5, .int k9), (0, .ref 77), (1, .ref 0), (2, .ref 47), (3, .ref 76), (4, .int (nI a))]) (pc := 681) d_lw_law_681 (Nat.le_of_ble_eq_true rfl) rfl ?_
  refine qr_goto (tgt := 862) (pc := 683) d_lw_law_683 (by decide) ?_
  refine qR_sub (lv' := lwV a) [2, 3, 4, 5, 6] rfl ?_
  exact kk _ _ hpost
set_option maxRecDepth 10000 in
theorem lc_invoice {l : Launch} {b Ln : Nat} {xs : Nat → Int32} {E : qE} {X : qXC} {a kc ks : Nat} {I : Nat → Nat → Int32} {L : Nat → Nat → Int64} (ha : a + 5 ≤ Ln) (hLn : Ln < 2 ^ 31) (hkc : kc + 1 ≤ 601024) (hks : ks + 6 ≤ 7293034) (Post : (Nat → Nat → Int32) → (Nat → Nat → Int64) → Prop) {Ew : qE} (hW : qSpW l y_lw_invoice b_lw_invoice 5 (some .int) hh_invoice 10 1 6 [.ref 0, .int (xs (a + 1)), .int (xs (a + 2)), .ref 76] 77 (fm I L) Ew) (hM : ∀ v n f, Ew v n f → ∃ (k9 : Int32) (I1 : Nat → Nat → Int32) (L1 : Nat → Nat → Int64) (b9 : Int64) (I2 : Nat → Nat → Int32) (L2 : Nat → Nat → Int64), some (.int k9) = v ∧ 77 = n ∧ fm I1 L1 = f ∧ qSp l y_md_invoice b_md_invoice 3 (some .long) false 2 0 0 [.ref 47, .int (xs (a + 1)), .int (xs (a + 2))] 77 (fm I1 L1) (qD (some (.long b9)) 77 (fm I2 L2)) ∧ Post I2 L2) (kk : ∀ I2 L2, Post I2 L2 → qR (qKL l b Ln xs) E X 862 (lwV a) [] 77 (kc + 1) (ks + 6) (fm I2 L2)) : qR (qKL l b Ln xs) E X 686 (lwV a) [] 77 kc ks (fm I L) := by
  refine qr_aload_n (pc := 686) d_lw_law_686 rfl rfl ?_
  refine qr_aload_n (pc := 687) d_lw_law_687 rfl rfl ?_
  refine qr_iload (pc := 688) d_lw_law_688 rfl ?_
  refine qr_iconst (v := 1) (pc := 690) d_lw_law_690 (by decide) ?_
  refine qr_iadd (pc := 691) d_lw_law_691 ?_
  refine qR_st (st' := [.int (nI (a + 1)), .ref 77, .ref 0]) rfl (by rw [nI_1] <;> rfl) rfl ?_
  refine qr_sldN (j := (a + 1)) (fun _ _ _ _ h => h) (pc := 692) d_lw_law_692 (by omega) hLn ?_
  refine qr_aload_n (pc := 693) d_lw_law_693 rfl rfl ?_
  refine qr_iload (pc := 694) d_lw_law_694 rfl ?_
  refine qr_iconst (v := 2) (pc := 696) d_lw_law_696 (by decide) ?_
  refine qr_iadd (pc := 697) d_lw_law_697 ?_
  refine qR_st (st' := [.int (nI (a + 2)), .ref 77, .int (xs (a + 1)), .ref 0]) rfl (by rw [nI_p2] <;> rfl) rfl ?_
  refine qr_sldN (j := (a + 2)) (fun _ _ _ _ h => h) (pc := 698) d_lw_law_698 (by omega) hLn ?_
  refine qr_aload_n (pc := 699) d_lw_law_699 rfl rfl ?_
  refine qr_callSW (hh := hh_invoice) (na := 4) (As := [.ref 0, .int (xs (a + 1)), .int (xs (a + 2)), .ref 76]) (pc := 700) d_lw_law_700 lk_lw_128 ii_lw cw_invoice ⟨by decide, by decide⟩ (by decide +kernel) sm_lw_invoice hW rfl rfl (Nat.le_of_ble_eq_true rfl) (Nat.le_of_ble_eq_true rfl) (Nat.le_of_ble_eq_true rfl) hkc hks (fun v n9 f9 hE => ?_)
  obtain ⟨k9, I1, L1, b9, I2, L2, rfl, rfl, rfl, hm, hpost⟩ := hM _ _ _ hE
  refine qr_istore (lv' := [(5, .int k9), (0, .ref 77), (1, .ref 0), (2, .ref 47), (3, .ref 76), (4, .int (nI a))]) (pc := 703) d_lw_law_703 (Nat.le_of_ble_eq_true rfl) rfl ?_
  refine qr_aload_n (pc := 705) d_lw_law_705 rfl rfl ?_
  refine qr_aload_n (pc := 706) d_lw_law_706 rfl rfl ?_
  refine qr_iload (pc := 707) d_lw_law_707 rfl ?_
  refine qr_iconst (v := 1) (pc := 709) d_lw_law_709 (by decide) ?_
  refine qr_iadd (pc := 710) d_lw_law_710 ?_
  refine qR_st (st' := [.int (nI (a + 1)), .ref 77, .ref 47]) rfl (by rw [nI_1] <;> rfl) rfl ?_
  refine qr_sldN (j := (a + 1)) (fun _ _ _ _ h => h) (pc := 711) d_lw_law_711 (by omega) hLn ?_
  refine qr_aload_n (pc := 712) d_lw_law_712 rfl rfl ?_
  refine qr_iload (pc := 713) d_lw_law_713 rfl ?_
  refine qr_iconst (v := 2) (pc := 715) d_lw_law_715 (by decide) ?_
  refine qr_iadd (pc := 716) d_lw_law_716 ?_
  refine qR_st (st' := [.int (nI (a + 2)), .ref 77, .int (xs (a + 1)), .ref 47]) rfl (by rw [nI_p2] <;> rfl) rfl ?_
  refine qr_sldN (j := (a + 2)) (fun _ _ _ _ h => h) (pc := 717) d_lw_law_717 (by omega) hLn ?_
  refine qr_callV (q := 47) (As := [.int (xs (a + 1)), .int (xs (a + 2))]) (pc := 718) d_lw_law_718 lk_lw_130 im_md_invoice se_md_invoice rfl (by decide) (by decide) (c_47 _ _) hm rfl rfl (Nat.le_of_ble_eq_true rfl) (Nat.le_of_ble_eq_true rfl) (Nat.le_of_ble_eq_true rfl) (by show kc + 1 + 0 ≤ 601024; omega) (by show ks + 6 + 0 ≤ 7293034; omega) (fun h => nomatch h) (fun v n9 f9 hE9 => ?_)
  obtain ⟨rfl, rfl, rfl⟩ := hE9
  refine qr_lstore (lv' := [(6, .long b9), (5, .int k9), (0, .ref 77), (1, .ref 0), (2, .ref 47), (3, .ref 76), (4, .int (nI a))]) (pc := 721) d_lw_law_721 (Nat.le_of_ble_eq_true rfl) rfl ?_
  refine qr_goto (tgt := 862) (pc := 723) d_lw_law_723 (by decide) ?_
  refine qR_sub (lv' := lwV a) [2, 3, 4, 5, 6] rfl ?_
  exact kk _ _ hpost
set_option maxRecDepth 10000 in
theorem lc_told {l : Launch} {b Ln : Nat} {xs : Nat → Int32} {E : qE} {X : qXC} {a kc ks : Nat} {I : Nat → Nat → Int32} {L : Nat → Nat → Int64} (ha : a + 5 ≤ Ln) (hLn : Ln < 2 ^ 31) (hkc : kc + 1 ≤ 601024) (hks : ks + 6 ≤ 7293034) (Post : (Nat → Nat → Int32) → (Nat → Nat → Int64) → Prop) {Ew : qE} (hW : qSpW l y_lw_told b_lw_told 5 (some .int) hh_told 10 1 6 [.ref 0, .int (xs (a + 1)), .int (xs (a + 2)), .ref 76] 77 (fm I L) Ew) (hM : ∀ v n f, Ew v n f → ∃ (k9 : Int32) (I1 : Nat → Nat → Int32) (L1 : Nat → Nat → Int64) (b9 : Int64) (I2 : Nat → Nat → Int32) (L2 : Nat → Nat → Int64), some (.int k9) = v ∧ 77 = n ∧ fm I1 L1 = f ∧ qSp l y_md_told b_md_told 6 (some .long) false 2 0 0 [.ref 47, .int (xs (a + 1)), .int (xs (a + 2))] 77 (fm I1 L1) (qD (some (.long b9)) 77 (fm I2 L2)) ∧ Post I2 L2) (kk : ∀ I2 L2, Post I2 L2 → qR (qKL l b Ln xs) E X 862 (lwV a) [] 77 (kc + 1) (ks + 6) (fm I2 L2)) : qR (qKL l b Ln xs) E X 726 (lwV a) [] 77 kc ks (fm I L) := by
  refine qr_aload_n (pc := 726) d_lw_law_726 rfl rfl ?_
  refine qr_aload_n (pc := 727) d_lw_law_727 rfl rfl ?_
  refine qr_iload (pc := 728) d_lw_law_728 rfl ?_
  refine qr_iconst (v := 1) (pc := 730) d_lw_law_730 (by decide) ?_
  refine qr_iadd (pc := 731) d_lw_law_731 ?_
  refine qR_st (st' := [.int (nI (a + 1)), .ref 77, .ref 0]) rfl (by rw [nI_1] <;> rfl) rfl ?_
  refine qr_sldN (j := (a + 1)) (fun _ _ _ _ h => h) (pc := 732) d_lw_law_732 (by omega) hLn ?_
  refine qr_aload_n (pc := 733) d_lw_law_733 rfl rfl ?_
  refine qr_iload (pc := 734) d_lw_law_734 rfl ?_
  refine qr_iconst (v := 2) (pc := 736) d_lw_law_736 (by decide) ?_
  refine qr_iadd (pc := 737) d_lw_law_737 ?_
  refine qR_st (st' := [.int (nI (a + 2)), .ref 77, .int (xs (a + 1)), .ref 0]) rfl (by rw [nI_p2] <;> rfl) rfl ?_
  refine qr_sldN (j := (a + 2)) (fun _ _ _ _ h => h) (pc := 738) d_lw_law_738 (by omega) hLn ?_
  refine qr_aload_n (pc := 739) d_lw_law_739 rfl rfl ?_
  refine qr_callSW (hh := hh_told) (na := 4) (As := [.ref 0, .int (xs (a + 1)), .int (xs (a + 2)), .ref 76]) (pc := 740) d_lw_law_740 lk_lw_131 ii_lw cw_told ⟨by decide, by decide⟩ (by decide +kernel) sm_lw_told hW rfl rfl (Nat.le_of_ble_eq_true rfl) (Nat.le_of_ble_eq_true rfl) (Nat.le_of_ble_eq_true rfl) hkc hks (fun v n9 f9 hE => ?_)
  obtain ⟨k9, I1, L1, b9, I2, L2, rfl, rfl, rfl, hm, hpost⟩ := hM _ _ _ hE
  refine qr_istore (lv' := [(5, .int k9), (0, .ref 77), (1, .ref 0), (2, .ref 47), (3, .ref 76), (4, .int (nI a))]) (pc := 743) d_lw_law_743 (Nat.le_of_ble_eq_true rfl) rfl ?_
  refine qr_aload_n (pc := 745) d_lw_law_745 rfl rfl ?_
  refine qr_aload_n (pc := 746) d_lw_law_746 rfl rfl ?_
  refine qr_iload (pc := 747) d_lw_law_747 rfl ?_
  refine qr_iconst (v := 1) (pc := 749) d_lw_law_749 (by decide) ?_
  refine qr_iadd (pc := 750) d_lw_law_750 ?_
  refine qR_st (st' := [.int (nI (a + 1)), .ref 77, .ref 47]) rfl (by rw [nI_1] <;> rfl) rfl ?_
  refine qr_sldN (j := (a + 1)) (fun _ _ _ _ h => h) (pc := 751) d_lw_law_751 (by omega) hLn ?_
  refine qr_aload_n (pc := 752) d_lw_law_752 rfl rfl ?_
  refine qr_iload (pc := 753) d_lw_law_753 rfl ?_
  refine qr_iconst (v := 2) (pc := 755) d_lw_law_755 (by decide) ?_
  refine qr_iadd (pc := 756) d_lw_law_756 ?_
  refine qR_st (st' := [.int (nI (a + 2)), .ref 77, .int (xs (a + 1)), .ref 47]) rfl (by rw [nI_p2] <;> rfl) rfl ?_
  refine qr_sldN (j := (a + 2)) (fun _ _ _ _ h => h) (pc := 757) d_lw_law_757 (by omega) hLn ?_
  refine qr_callV (q := 47) (As := [.int (xs (a + 1)), .int (xs (a + 2))]) (pc := 758) d_lw_law_758 lk_lw_133 im_md_told se_md_told rfl (by decide) (by decide) (c_47 _ _) hm rfl rfl (Nat.le_of_ble_eq_true rfl) (Nat.le_of_ble_eq_true rfl) (Nat.le_of_ble_eq_true rfl) (by show kc + 1 + 0 ≤ 601024; omega) (by show ks + 6 + 0 ≤ 7293034; omega) (fun h => nomatch h) (fun v n9 f9 hE9 => ?_)
  obtain ⟨rfl, rfl, rfl⟩ := hE9
  refine qr_lstore (lv' := [(6, .long b9), (5, .int k9), (0, .ref 77), (1, .ref 0), (2, .ref 47), (3, .ref 76), (4, .int (nI a))]) (pc := 761) d_lw_law_761 (Nat.le_of_ble_eq_true rfl) rfl ?_
  refine qr_goto (tgt := 862) (pc := 763) d_lw_law_763 (by decide) ?_
  refine qR_sub (lv' := lwV a) [2, 3, 4, 5, 6] rfl ?_
  exact kk _ _ hpost
set_option maxRecDepth 10000 in
theorem lc_books {l : Launch} {b Ln : Nat} {xs : Nat → Int32} {E : qE} {X : qXC} {a kc ks : Nat} {I : Nat → Nat → Int32} {L : Nat → Nat → Int64} (ha : a + 5 ≤ Ln) (hLn : Ln < 2 ^ 31) (hkc : kc + 1 ≤ 601024) (hks : ks + 6 ≤ 7293034) (Post : (Nat → Nat → Int32) → (Nat → Nat → Int64) → Prop) {Ew : qE} (hW : qSpW l y_lw_books b_lw_books 4 (some .int) hh_books 10 1 6 [.ref 0, .int (xs (a + 1)), .ref 76] 77 (fm I L) Ew) (hM : ∀ v n f, Ew v n f → ∃ (k9 : Int32) (I1 : Nat → Nat → Int32) (L1 : Nat → Nat → Int64) (b9 : Int64) (I2 : Nat → Nat → Int32) (L2 : Nat → Nat → Int64), some (.int k9) = v ∧ 77 = n ∧ fm I1 L1 = f ∧ qSp l y_md_books b_md_books 5 (some .long) false 2 0 0 [.ref 47, .int (xs (a + 1))] 77 (fm I1 L1) (qD (some (.long b9)) 77 (fm I2 L2)) ∧ Post I2 L2) (kk : ∀ I2 L2, Post I2 L2 → qR (qKL l b Ln xs) E X 862 (lwV a) [] 77 (kc + 1) (ks + 6) (fm I2 L2)) : qR (qKL l b Ln xs) E X 766 (lwV a) [] 77 kc ks (fm I L) := by
  refine qr_aload_n (pc := 766) d_lw_law_766 rfl rfl ?_
  refine qr_aload_n (pc := 767) d_lw_law_767 rfl rfl ?_
  refine qr_iload (pc := 768) d_lw_law_768 rfl ?_
  refine qr_iconst (v := 1) (pc := 770) d_lw_law_770 (by decide) ?_
  refine qr_iadd (pc := 771) d_lw_law_771 ?_
  refine qR_st (st' := [.int (nI (a + 1)), .ref 77, .ref 0]) rfl (by rw [nI_1] <;> rfl) rfl ?_
  refine qr_sldN (j := (a + 1)) (fun _ _ _ _ h => h) (pc := 772) d_lw_law_772 (by omega) hLn ?_
  refine qr_aload_n (pc := 773) d_lw_law_773 rfl rfl ?_
  refine qr_callSW (hh := hh_books) (na := 3) (As := [.ref 0, .int (xs (a + 1)), .ref 76]) (pc := 774) d_lw_law_774 lk_lw_134 ii_lw cw_books ⟨by decide, by decide⟩ (by decide +kernel) sm_lw_books hW rfl rfl (Nat.le_of_ble_eq_true rfl) (Nat.le_of_ble_eq_true rfl) (Nat.le_of_ble_eq_true rfl) hkc hks (fun v n9 f9 hE => ?_)
  obtain ⟨k9, I1, L1, b9, I2, L2, rfl, rfl, rfl, hm, hpost⟩ := hM _ _ _ hE
  refine qr_istore (lv' := [(5, .int k9), (0, .ref 77), (1, .ref 0), (2, .ref 47), (3, .ref 76), (4, .int (nI a))]) (pc := 777) d_lw_law_777 (Nat.le_of_ble_eq_true rfl) rfl ?_
  refine qr_aload_n (pc := 779) d_lw_law_779 rfl rfl ?_
  refine qr_aload_n (pc := 780) d_lw_law_780 rfl rfl ?_
  refine qr_iload (pc := 781) d_lw_law_781 rfl ?_
  refine qr_iconst (v := 1) (pc := 783) d_lw_law_783 (by decide) ?_
  refine qr_iadd (pc := 784) d_lw_law_784 ?_
  refine qR_st (st' := [.int (nI (a + 1)), .ref 77, .ref 47]) rfl (by rw [nI_1] <;> rfl) rfl ?_
  refine qr_sldN (j := (a + 1)) (fun _ _ _ _ h => h) (pc := 785) d_lw_law_785 (by omega) hLn ?_
  refine qr_callV (q := 47) (As := [.int (xs (a + 1))]) (pc := 786) d_lw_law_786 lk_lw_136 im_md_books se_md_books rfl (by decide) (by decide) (c_47 _ _) hm rfl rfl (Nat.le_of_ble_eq_true rfl) (Nat.le_of_ble_eq_true rfl) (Nat.le_of_ble_eq_true rfl) (by show kc + 1 + 0 ≤ 601024; omega) (by show ks + 6 + 0 ≤ 7293034; omega) (fun h => nomatch h) (fun v n9 f9 hE9 => ?_)
  obtain ⟨rfl, rfl, rfl⟩ := hE9
  refine qr_lstore (lv' := [(6, .long b9), (5, .int k9), (0, .ref 77), (1, .ref 0), (2, .ref 47), (3, .ref 76), (4, .int (nI a))]) (pc := 789) d_lw_law_789 (Nat.le_of_ble_eq_true rfl) rfl ?_
  refine qr_goto (tgt := 862) (pc := 791) d_lw_law_791 (by decide) ?_
  refine qR_sub (lv' := lwV a) [2, 3, 4, 5, 6] rfl ?_
  exact kk _ _ hpost
set_option maxRecDepth 10000 in
theorem lc_date {l : Launch} {b Ln : Nat} {xs : Nat → Int32} {E : qE} {X : qXC} {a kc ks : Nat} {I : Nat → Nat → Int32} {L : Nat → Nat → Int64} (ha : a + 5 ≤ Ln) (hLn : Ln < 2 ^ 31) (hkc : kc + 1 ≤ 601024) (hks : ks + 6 ≤ 7293034) (Post : (Nat → Nat → Int32) → (Nat → Nat → Int64) → Prop) {Ew : qE} (hW : qSpW l y_lw_date b_lw_date 5 (some .int) hh_date 10 1 6 [.ref 0, .int (xs (a + 1)), .int (xs (a + 2)), .ref 76] 77 (fm I L) Ew) (hM : ∀ v n f, Ew v n f → ∃ (k9 : Int32) (I1 : Nat → Nat → Int32) (L1 : Nat → Nat → Int64) (b9 : Int32) (I2 : Nat → Nat → Int32) (L2 : Nat → Nat → Int64), some (.int k9) = v ∧ 77 = n ∧ fm I1 L1 = f ∧ qSp l y_md_date b_md_date 5 (some .int) false 3 0 0 [.ref 47, .int (xs (a + 1)), .int (xs (a + 2))] 77 (fm I1 L1) (qD (some (.int b9)) 77 (fm I2 L2)) ∧ Post I2 L2) (kk : ∀ I2 L2, Post I2 L2 → qR (qKL l b Ln xs) E X 862 (lwV a) [] 77 (kc + 1) (ks + 6) (fm I2 L2)) : qR (qKL l b Ln xs) E X 794 (lwV a) [] 77 kc ks (fm I L) := by
  refine qr_aload_n (pc := 794) d_lw_law_794 rfl rfl ?_
  refine qr_aload_n (pc := 795) d_lw_law_795 rfl rfl ?_
  refine qr_iload (pc := 796) d_lw_law_796 rfl ?_
  refine qr_iconst (v := 1) (pc := 798) d_lw_law_798 (by decide) ?_
  refine qr_iadd (pc := 799) d_lw_law_799 ?_
  refine qR_st (st' := [.int (nI (a + 1)), .ref 77, .ref 0]) rfl (by rw [nI_1] <;> rfl) rfl ?_
  refine qr_sldN (j := (a + 1)) (fun _ _ _ _ h => h) (pc := 800) d_lw_law_800 (by omega) hLn ?_
  refine qr_aload_n (pc := 801) d_lw_law_801 rfl rfl ?_
  refine qr_iload (pc := 802) d_lw_law_802 rfl ?_
  refine qr_iconst (v := 2) (pc := 804) d_lw_law_804 (by decide) ?_
  refine qr_iadd (pc := 805) d_lw_law_805 ?_
  refine qR_st (st' := [.int (nI (a + 2)), .ref 77, .int (xs (a + 1)), .ref 0]) rfl (by rw [nI_p2] <;> rfl) rfl ?_
  refine qr_sldN (j := (a + 2)) (fun _ _ _ _ h => h) (pc := 806) d_lw_law_806 (by omega) hLn ?_
  refine qr_aload_n (pc := 807) d_lw_law_807 rfl rfl ?_
  refine qr_callSW (hh := hh_date) (na := 4) (As := [.ref 0, .int (xs (a + 1)), .int (xs (a + 2)), .ref 76]) (pc := 808) d_lw_law_808 lk_lw_137 ii_lw cw_date ⟨by decide, by decide⟩ (by decide +kernel) sm_lw_date hW rfl rfl (Nat.le_of_ble_eq_true rfl) (Nat.le_of_ble_eq_true rfl) (Nat.le_of_ble_eq_true rfl) hkc hks (fun v n9 f9 hE => ?_)
  obtain ⟨k9, I1, L1, b9, I2, L2, rfl, rfl, rfl, hm, hpost⟩ := hM _ _ _ hE
  refine qr_istore (lv' := [(5, .int k9), (0, .ref 77), (1, .ref 0), (2, .ref 47), (3, .ref 76), (4, .int (nI a))]) (pc := 811) d_lw_law_811 (Nat.le_of_ble_eq_true rfl) rfl ?_
  refine qr_aload_n (pc := 813) d_lw_law_813 rfl rfl ?_
  refine qr_aload_n (pc := 814) d_lw_law_814 rfl rfl ?_
  refine qr_iload (pc := 815) d_lw_law_815 rfl ?_
  refine qr_iconst (v := 1) (pc := 817) d_lw_law_817 (by decide) ?_
  refine qr_iadd (pc := 818) d_lw_law_818 ?_
  refine qR_st (st' := [.int (nI (a + 1)), .ref 77, .ref 47]) rfl (by rw [nI_1] <;> rfl) rfl ?_
  refine qr_sldN (j := (a + 1)) (fun _ _ _ _ h => h) (pc := 819) d_lw_law_819 (by omega) hLn ?_
  refine qr_aload_n (pc := 820) d_lw_law_820 rfl rfl ?_
  refine qr_iload (pc := 821) d_lw_law_821 rfl ?_
  refine qr_iconst (v := 2) (pc := 823) d_lw_law_823 (by decide) ?_
  refine qr_iadd (pc := 824) d_lw_law_824 ?_
  refine qR_st (st' := [.int (nI (a + 2)), .ref 77, .int (xs (a + 1)), .ref 47]) rfl (by rw [nI_p2] <;> rfl) rfl ?_
  refine qr_sldN (j := (a + 2)) (fun _ _ _ _ h => h) (pc := 825) d_lw_law_825 (by omega) hLn ?_
  refine qr_callV (q := 47) (As := [.int (xs (a + 1)), .int (xs (a + 2))]) (pc := 826) d_lw_law_826 lk_lw_139 im_md_date se_md_date rfl (by decide) (by decide) (c_47 _ _) hm rfl rfl (Nat.le_of_ble_eq_true rfl) (Nat.le_of_ble_eq_true rfl) (Nat.le_of_ble_eq_true rfl) (by show kc + 1 + 0 ≤ 601024; omega) (by show ks + 6 + 0 ≤ 7293034; omega) (fun h => nomatch h) (fun v n9 f9 hE9 => ?_)
  obtain ⟨rfl, rfl, rfl⟩ := hE9
  refine qr_istore (lv' := [(6, .int b9), (5, .int k9), (0, .ref 77), (1, .ref 0), (2, .ref 47), (3, .ref 76), (4, .int (nI a))]) (pc := 829) d_lw_law_829 (Nat.le_of_ble_eq_true rfl) rfl ?_
  refine qr_goto (tgt := 862) (pc := 831) d_lw_law_831 (by decide) ?_
  refine qR_sub (lv' := lwV a) [2, 3, 4, 5, 6] rfl ?_
  exact kk _ _ hpost
set_option maxRecDepth 10000 in
theorem lc_count {l : Launch} {b Ln : Nat} {xs : Nat → Int32} {E : qE} {X : qXC} {a kc ks : Nat} {I : Nat → Nat → Int32} {L : Nat → Nat → Int64} (ha : a + 5 ≤ Ln) (hLn : Ln < 2 ^ 31) (hkc : kc + 1 ≤ 601024) (hks : ks + 6 ≤ 7293034) (Post : (Nat → Nat → Int32) → (Nat → Nat → Int64) → Prop) {Ew : qE} (hW : qSpW l y_lw_count b_lw_count 4 (some .int) hh_count 10 1 6 [.ref 0, .int (xs (a + 1)), .ref 76] 77 (fm I L) Ew) (hM : ∀ v n f, Ew v n f → ∃ (k9 : Int32) (I1 : Nat → Nat → Int32) (L1 : Nat → Nat → Int64) (b9 : Int32) (I2 : Nat → Nat → Int32) (L2 : Nat → Nat → Int64), some (.int k9) = v ∧ 77 = n ∧ fm I1 L1 = f ∧ qSp l y_md_count b_md_count 2 (some .int) false 2 0 0 [.ref 47, .int (xs (a + 1))] 77 (fm I1 L1) (qD (some (.int b9)) 77 (fm I2 L2)) ∧ Post I2 L2) (kk : ∀ I2 L2, Post I2 L2 → qR (qKL l b Ln xs) E X 862 (lwV a) [] 77 (kc + 1) (ks + 6) (fm I2 L2)) : qR (qKL l b Ln xs) E X 834 (lwV a) [] 77 kc ks (fm I L) := by
  refine qr_aload_n (pc := 834) d_lw_law_834 rfl rfl ?_
  refine qr_aload_n (pc := 835) d_lw_law_835 rfl rfl ?_
  refine qr_iload (pc := 836) d_lw_law_836 rfl ?_
  refine qr_iconst (v := 1) (pc := 838) d_lw_law_838 (by decide) ?_
  refine qr_iadd (pc := 839) d_lw_law_839 ?_
  refine qR_st (st' := [.int (nI (a + 1)), .ref 77, .ref 0]) rfl (by rw [nI_1] <;> rfl) rfl ?_
  refine qr_sldN (j := (a + 1)) (fun _ _ _ _ h => h) (pc := 840) d_lw_law_840 (by omega) hLn ?_
  refine qr_aload_n (pc := 841) d_lw_law_841 rfl rfl ?_
  refine qr_callSW (hh := hh_count) (na := 3) (As := [.ref 0, .int (xs (a + 1)), .ref 76]) (pc := 842) d_lw_law_842 lk_lw_140 ii_lw cw_count ⟨by decide, by decide⟩ (by decide +kernel) sm_lw_count hW rfl rfl (Nat.le_of_ble_eq_true rfl) (Nat.le_of_ble_eq_true rfl) (Nat.le_of_ble_eq_true rfl) hkc hks (fun v n9 f9 hE => ?_)
  obtain ⟨k9, I1, L1, b9, I2, L2, rfl, rfl, rfl, hm, hpost⟩ := hM _ _ _ hE
  refine qr_istore (lv' := [(5, .int k9), (0, .ref 77), (1, .ref 0), (2, .ref 47), (3, .ref 76), (4, .int (nI a))]) (pc := 845) d_lw_law_845 (Nat.le_of_ble_eq_true rfl) rfl ?_
  refine qr_aload_n (pc := 847) d_lw_law_847 rfl rfl ?_
  refine qr_aload_n (pc := 848) d_lw_law_848 rfl rfl ?_
  refine qr_iload (pc := 849) d_lw_law_849 rfl ?_
  refine qr_iconst (v := 1) (pc := 851) d_lw_law_851 (by decide) ?_
  refine qr_iadd (pc := 852) d_lw_law_852 ?_
  refine qR_st (st' := [.int (nI (a + 1)), .ref 77, .ref 47]) rfl (by rw [nI_1] <;> rfl) rfl ?_
  refine qr_sldN (j := (a + 1)) (fun _ _ _ _ h => h) (pc := 853) d_lw_law_853 (by omega) hLn ?_
  refine qr_callV (q := 47) (As := [.int (xs (a + 1))]) (pc := 854) d_lw_law_854 lk_lw_142 im_md_count se_md_count rfl (by decide) (by decide) (c_47 _ _) hm rfl rfl (Nat.le_of_ble_eq_true rfl) (Nat.le_of_ble_eq_true rfl) (Nat.le_of_ble_eq_true rfl) (by show kc + 1 + 0 ≤ 601024; omega) (by show ks + 6 + 0 ≤ 7293034; omega) (fun h => nomatch h) (fun v n9 f9 hE9 => ?_)
  obtain ⟨rfl, rfl, rfl⟩ := hE9
  refine qr_istore (lv' := [(6, .int b9), (5, .int k9), (0, .ref 77), (1, .ref 0), (2, .ref 47), (3, .ref 76), (4, .int (nI a))]) (pc := 857) d_lw_law_857 (Nat.le_of_ble_eq_true rfl) rfl ?_
  refine qr_goto (tgt := 862) (pc := 859) d_lw_law_859 (by decide) ?_
  refine qR_sub (lv' := lwV a) [2, 3, 4, 5, 6] rfl ?_
  exact kk _ _ hpost
