/-! the law's cases: the class's call by its wrapper, the reference's, the comparison -/
abbrev qKL (l : Launch) (b Ln : Nat) (xs : Nat → Int32) : qK := (l, "BillForgeLaw", code, 8, some .boolean, false, true, 13, 601024, 7293034, 0, qScr b Ln xs)
abbrev lwV (a : Nat) : List (Nat × Value) := [(0, .ref 77), (1, .ref 0), (2, .ref 47), (3, .ref 76), (4, .int (nI a))]
/-- a long out of two ints of the script -/
def lwJ (h l : Int32) : Int64 := (Int32.toInt64 h <<< ((Int32.toInt64 32) &&& 63)) ||| (Int32.toInt64 l &&& 4294967295)
set_option maxRecDepth 10000 in
theorem lc_text {l : Launch} {b Ln : Nat} {xs : Nat → Int32} {E : qE} {X : qXC} {a kc ks : Nat} {I : Nat → Nat → Int32} {L : Nat → Nat → Int64} (ha : a + 5 ≤ Ln) (hLn : Ln < 2 ^ 31) (hkc : kc + 1 ≤ 601024) (hks : ks + 6 ≤ 7293034) (Post : (Nat → Nat → Int32) → (Nat → Nat → Int64) → Prop) {Ew : qE} (hW : qSpW l y_lw_text b_lw_text 5 (some .int) hh_text 10 1 6 [.ref 0, .long (lwJ (xs (a + 1)) (xs (a + 2))), .ref 76] 77 (fm I L) Ew) (hM : ∀ v n f, Ew v n f → ∃ (k9 : Int32) (I1 : Nat → Nat → Int32) (L1 : Nat → Nat → Int64) (b9 : Int32) (I2 : Nat → Nat → Int32) (L2 : Nat → Nat → Int64), some (.int k9) = v ∧ 77 = n ∧ fm I1 L1 = f ∧ qSp l y_md_text b_md_text 6 (some .int) false 2 0 0 [.ref 47, .long (lwJ (xs (a + 1)) (xs (a + 2)))] 77 (fm I1 L1) (qD (some (.int b9)) 77 (fm I2 L2)) ∧ Post I2 L2) (kk : ∀ I2 L2, Post I2 L2 → qR (qKL l b Ln xs) E X 869 (lwV a) [] 77 (kc + 1) (ks + 6) (fm I2 L2)) : qR (qKL l b Ln xs) E X 120 (lwV a) [] 77 kc ks (fm I L) := by
  refine qr_aload_n (pc := 120) d_lw_law_120 rfl rfl ?_
  refine qr_aload_n (pc := 121) d_lw_law_121 rfl rfl ?_
  refine qr_iload (pc := 122) d_lw_law_122 rfl ?_
  refine qr_iconst (v := 1) (pc := 124) d_lw_law_124 (by decide) ?_
  refine qr_iadd (pc := 125) d_lw_law_125 ?_
  refine qR_st (st' := [.int (nI (a + 1)), .ref 77, .ref 0]) rfl (by rw [nI_1] <;> rfl) rfl ?_
  refine qr_sldN (j := (a + 1)) (fun _ _ _ _ h => h) (pc := 126) d_lw_law_126 (by omega) hLn ?_
  refine qr_i2l (pc := 127) d_lw_law_127 ?_
  refine qr_bipush (v := 32) (pc := 128) d_lw_law_128 (by decide) ?_
  refine qr_lshl (pc := 130) d_lw_law_130 ?_
  refine qr_aload_n (pc := 131) d_lw_law_131 rfl rfl ?_
  refine qr_iload (pc := 132) d_lw_law_132 rfl ?_
  refine qr_iconst (v := 2) (pc := 134) d_lw_law_134 (by decide) ?_
  refine qr_iadd (pc := 135) d_lw_law_135 ?_
  refine qR_st (st' := [.int (nI (a + 2)), .ref 77, .long ((Int32.toInt64 (xs (a + 1))) <<< ((Int32.toInt64 32) &&& 63)), .ref 0]) rfl (by rw [nI_p2] <;> rfl) rfl ?_
  refine qr_sldN (j := (a + 2)) (fun _ _ _ _ h => h) (pc := 136) d_lw_law_136 (by omega) hLn ?_
  refine qr_i2l (pc := 137) d_lw_law_137 ?_
  refine qr_ldc2 (v := 4294967295) (pc := 138) d_lw_law_138 kl_lw_75 ?_
  refine qr_land (pc := 141) d_lw_law_141 ?_
  refine qr_lor (pc := 142) d_lw_law_142 ?_
  refine qR_st (st' := [.long (lwJ (xs (a + 1)) (xs (a + 2))), .ref 0]) rfl rfl rfl ?_
  refine qr_aload_n (pc := 143) d_lw_law_143 rfl rfl ?_
  refine qr_callSW (hh := hh_text) (na := 3) (As := [.ref 0, .long (lwJ (xs (a + 1)) (xs (a + 2))), .ref 76]) (pc := 144) d_lw_law_144 lk_lw_77 ii_lw cw_text ⟨by decide, by decide⟩ (by decide +kernel) sm_lw_text hW rfl rfl (Nat.le_of_ble_eq_true rfl) (Nat.le_of_ble_eq_true rfl) (Nat.le_of_ble_eq_true rfl) hkc hks (fun v n9 f9 hE => ?_)
  obtain ⟨k9, I1, L1, b9, I2, L2, rfl, rfl, rfl, hm, hpost⟩ := hM _ _ _ hE
  refine qr_istore (lv' := [(5, .int k9), (0, .ref 77), (1, .ref 0), (2, .ref 47), (3, .ref 76), (4, .int (nI a))]) (pc := 147) d_lw_law_147 (Nat.le_of_ble_eq_true rfl) rfl ?_
  refine qr_aload_n (pc := 149) d_lw_law_149 rfl rfl ?_
  refine qr_aload_n (pc := 150) d_lw_law_150 rfl rfl ?_
  refine qr_iload (pc := 151) d_lw_law_151 rfl ?_
  refine qr_iconst (v := 1) (pc := 153) d_lw_law_153 (by decide) ?_
  refine qr_iadd (pc := 154) d_lw_law_154 ?_
  refine qR_st (st' := [.int (nI (a + 1)), .ref 77, .ref 47]) rfl (by rw [nI_1] <;> rfl) rfl ?_
  refine qr_sldN (j := (a + 1)) (fun _ _ _ _ h => h) (pc := 155) d_lw_law_155 (by omega) hLn ?_
  refine qr_i2l (pc := 156) d_lw_law_156 ?_
  refine qr_bipush (v := 32) (pc := 157) d_lw_law_157 (by decide) ?_
  refine qr_lshl (pc := 159) d_lw_law_159 ?_
  refine qr_aload_n (pc := 160) d_lw_law_160 rfl rfl ?_
  refine qr_iload (pc := 161) d_lw_law_161 rfl ?_
  refine qr_iconst (v := 2) (pc := 163) d_lw_law_163 (by decide) ?_
  refine qr_iadd (pc := 164) d_lw_law_164 ?_
  refine qR_st (st' := [.int (nI (a + 2)), .ref 77, .long ((Int32.toInt64 (xs (a + 1))) <<< ((Int32.toInt64 32) &&& 63)), .ref 47]) rfl (by rw [nI_p2] <;> rfl) rfl ?_
  refine qr_sldN (j := (a + 2)) (fun _ _ _ _ h => h) (pc := 165) d_lw_law_165 (by omega) hLn ?_
  refine qr_i2l (pc := 166) d_lw_law_166 ?_
  refine qr_ldc2 (v := 4294967295) (pc := 167) d_lw_law_167 kl_lw_75 ?_
  refine qr_land (pc := 170) d_lw_law_170 ?_
  refine qr_lor (pc := 171) d_lw_law_171 ?_
  refine qR_st (st' := [.long (lwJ (xs (a + 1)) (xs (a + 2))), .ref 47]) rfl rfl rfl ?_
  refine qr_callV (q := 47) (As := [.long (lwJ (xs (a + 1)) (xs (a + 2)))]) (pc := 172) d_lw_law_172 lk_lw_82 im_md_text se_md_text rfl (by decide) (by decide) (c_47 _ _) hm rfl rfl (Nat.le_of_ble_eq_true rfl) (Nat.le_of_ble_eq_true rfl) (Nat.le_of_ble_eq_true rfl) (by show kc + 1 + 0 ≤ 601024; omega) (by show ks + 6 + 0 ≤ 7293034; omega) (fun h => nomatch h) (fun v n9 f9 hE9 => ?_)
  obtain ⟨rfl, rfl, rfl⟩ := hE9
  refine qr_istore (lv' := [(6, .int b9), (5, .int k9), (0, .ref 77), (1, .ref 0), (2, .ref 47), (3, .ref 76), (4, .int (nI a))]) (pc := 175) d_lw_law_175 (Nat.le_of_ble_eq_true rfl) rfl ?_
  refine qr_goto (tgt := 869) (pc := 177) d_lw_law_177 (by decide) ?_
  refine qR_sub (lv' := lwV a) [2, 3, 4, 5, 6] rfl ?_
  exact kk _ _ hpost
set_option maxRecDepth 10000 in
theorem lc_tariff {l : Launch} {b Ln : Nat} {xs : Nat → Int32} {E : qE} {X : qXC} {a kc ks : Nat} {I : Nat → Nat → Int32} {L : Nat → Nat → Int64} (ha : a + 5 ≤ Ln) (hLn : Ln < 2 ^ 31) (hkc : kc + 1 ≤ 601024) (hks : ks + 6 ≤ 7293034) (Post : (Nat → Nat → Int32) → (Nat → Nat → Int64) → Prop) {Ew : qE} (hW : qSpW l y_lw_tariff b_lw_tariff 4 (some .int) hh_tariff 10 1 6 [.ref 0, .int (xs (a + 1)), .ref 76] 77 (fm I L) Ew) (hM : ∀ v n f, Ew v n f → ∃ (k9 : Int32) (I1 : Nat → Nat → Int32) (L1 : Nat → Nat → Int64) (b9 : Int32) (I2 : Nat → Nat → Int32) (L2 : Nat → Nat → Int64), some (.int k9) = v ∧ 77 = n ∧ fm I1 L1 = f ∧ qSp l y_md_tariff b_md_tariff 3 (some .int) false 6 0 0 [.ref 47, .int (xs (a + 1))] 77 (fm I1 L1) (qD (some (.int b9)) 77 (fm I2 L2)) ∧ Post I2 L2) (kk : ∀ I2 L2, Post I2 L2 → qR (qKL l b Ln xs) E X 869 (lwV a) [] 77 (kc + 1) (ks + 6) (fm I2 L2)) : qR (qKL l b Ln xs) E X 180 (lwV a) [] 77 kc ks (fm I L) := by
  refine qr_aload_n (pc := 180) d_lw_law_180 rfl rfl ?_
  refine qr_aload_n (pc := 181) d_lw_law_181 rfl rfl ?_
  refine qr_iload (pc := 182) d_lw_law_182 rfl ?_
  refine qr_iconst (v := 1) (pc := 184) d_lw_law_184 (by decide) ?_
  refine qr_iadd (pc := 185) d_lw_law_185 ?_
  refine qR_st (st' := [.int (nI (a + 1)), .ref 77, .ref 0]) rfl (by rw [nI_1] <;> rfl) rfl ?_
  refine qr_sldN (j := (a + 1)) (fun _ _ _ _ h => h) (pc := 186) d_lw_law_186 (by omega) hLn ?_
  refine qr_aload_n (pc := 187) d_lw_law_187 rfl rfl ?_
  refine qr_callSW (hh := hh_tariff) (na := 3) (As := [.ref 0, .int (xs (a + 1)), .ref 76]) (pc := 188) d_lw_law_188 lk_lw_83 ii_lw cw_tariff ⟨by decide, by decide⟩ (by decide +kernel) sm_lw_tariff hW rfl rfl (Nat.le_of_ble_eq_true rfl) (Nat.le_of_ble_eq_true rfl) (Nat.le_of_ble_eq_true rfl) hkc hks (fun v n9 f9 hE => ?_)
  obtain ⟨k9, I1, L1, b9, I2, L2, rfl, rfl, rfl, hm, hpost⟩ := hM _ _ _ hE
  refine qr_istore (lv' := [(5, .int k9), (0, .ref 77), (1, .ref 0), (2, .ref 47), (3, .ref 76), (4, .int (nI a))]) (pc := 191) d_lw_law_191 (Nat.le_of_ble_eq_true rfl) rfl ?_
  refine qr_aload_n (pc := 193) d_lw_law_193 rfl rfl ?_
  refine qr_aload_n (pc := 194) d_lw_law_194 rfl rfl ?_
  refine qr_iload (pc := 195) d_lw_law_195 rfl ?_
  refine qr_iconst (v := 1) (pc := 197) d_lw_law_197 (by decide) ?_
  refine qr_iadd (pc := 198) d_lw_law_198 ?_
  refine qR_st (st' := [.int (nI (a + 1)), .ref 77, .ref 47]) rfl (by rw [nI_1] <;> rfl) rfl ?_
  refine qr_sldN (j := (a + 1)) (fun _ _ _ _ h => h) (pc := 199) d_lw_law_199 (by omega) hLn ?_
  refine qr_callV (q := 47) (As := [.int (xs (a + 1))]) (pc := 200) d_lw_law_200 lk_lw_86 im_md_tariff se_md_tariff rfl (by decide) (by decide) (c_47 _ _) hm rfl rfl (Nat.le_of_ble_eq_true rfl) (Nat.le_of_ble_eq_true rfl) (Nat.le_of_ble_eq_true rfl) (by show kc + 1 + 0 ≤ 601024; omega) (by show ks + 6 + 0 ≤ 7293034; omega) (fun h => nomatch h) (fun v n9 f9 hE9 => ?_)
  obtain ⟨rfl, rfl, rfl⟩ := hE9
  refine qr_istore (lv' := [(6, .int b9), (5, .int k9), (0, .ref 77), (1, .ref 0), (2, .ref 47), (3, .ref 76), (4, .int (nI a))]) (pc := 203) d_lw_law_203 (Nat.le_of_ble_eq_true rfl) rfl ?_
  refine qr_goto (tgt := 869) (pc := 205) d_lw_law_205 (by decide) ?_
  refine qR_sub (lv' := lwV a) [2, 3, 4, 5, 6] rfl ?_
  exact kk _ _ hpost
set_option maxRecDepth 10000 in
theorem lc_where {l : Launch} {b Ln : Nat} {xs : Nat → Int32} {E : qE} {X : qXC} {a kc ks : Nat} {I : Nat → Nat → Int32} {L : Nat → Nat → Int64} (ha : a + 5 ≤ Ln) (hLn : Ln < 2 ^ 31) (hkc : kc + 1 ≤ 601024) (hks : ks + 6 ≤ 7293034) (Post : (Nat → Nat → Int32) → (Nat → Nat → Int64) → Prop) {r r2 : Int32} {I1 I2 : Nat → Nat → Int32} {L1 L2 : Nat → Nat → Int64} (hW : qSp l y_bf_where b_bf_where 1 (some .int) false 2 0 0 [.ref 0] 77 (fm I L) (qD (some (.int r)) 77 (fm I1 L1))) (hM : qSp l y_md_where b_md_where 1 (some .int) false 1 0 0 [.ref 47] 77 (fm I1 L1) (qD (some (.int r2)) 77 (fm I2 L2))) (hp : Post I2 L2) (kk : ∀ I2 L2, Post I2 L2 → qR (qKL l b Ln xs) E X 869 (lwV a) [] 77 kc ks (fm I2 L2)) : qR (qKL l b Ln xs) E X 208 (lwV a) [] 77 kc ks (fm I L) := by
  refine qr_aload_n (pc := 208) d_lw_law_208 rfl rfl ?_
  refine qr_callV (q := 0) (As := []) (pc := 209) d_lw_law_209 lk_lw_87 im_bf_where se_bf_where rfl (by decide) (by decide) (c_0 _ _) hW rfl rfl (Nat.le_of_ble_eq_true rfl) (Nat.le_of_ble_eq_true rfl) (Nat.le_of_ble_eq_true rfl) (by show kc + 0 ≤ 601024; omega) (by show ks + 0 ≤ 7293034; omega) (fun h => nomatch h) (fun v n9 f9 hE => ?_)
  obtain ⟨rfl, rfl, rfl⟩ := hE
  refine qr_pop (pc := 212) d_lw_law_212 rfl ?_
  refine qr_aload_n (pc := 213) d_lw_law_213 rfl rfl ?_
  refine qr_callV (q := 47) (As := []) (pc := 214) d_lw_law_214 lk_lw_91 im_md_where se_md_where rfl (by decide) (by decide) (c_47 _ _) hM rfl rfl (Nat.le_of_ble_eq_true rfl) (Nat.le_of_ble_eq_true rfl) (Nat.le_of_ble_eq_true rfl) (by show kc + 0 + 0 ≤ 601024; omega) (by show ks + 0 + 0 ≤ 7293034; omega) (fun h => nomatch h) (fun v n9 f9 hE => ?_)
  obtain ⟨rfl, rfl, rfl⟩ := hE
  refine qr_pop (pc := 217) d_lw_law_217 rfl ?_
  refine qr_goto (tgt := 869) (pc := 218) d_lw_law_218 (by decide) ?_
  exact kk _ _ hp
set_option maxRecDepth 10000 in
theorem lc_use {l : Launch} {b Ln : Nat} {xs : Nat → Int32} {E : qE} {X : qXC} {a kc ks : Nat} {I : Nat → Nat → Int32} {L : Nat → Nat → Int64} (ha : a + 5 ≤ Ln) (hLn : Ln < 2 ^ 31) (hkc : kc + 1 ≤ 601024) (hks : ks + 6 ≤ 7293034) (Post : (Nat → Nat → Int32) → (Nat → Nat → Int64) → Prop) {Ew : qE} (hW : qSpW l y_lw_use b_lw_use 5 (some .int) hh_use 10 1 6 [.ref 0, .int (xs (a + 1)), .int (xs (a + 2)), .ref 76] 77 (fm I L) Ew) (hM : ∀ v n f, Ew v n f → ∃ (k9 : Int32) (I1 : Nat → Nat → Int32) (L1 : Nat → Nat → Int64) (b9 : Int64) (I2 : Nat → Nat → Int32) (L2 : Nat → Nat → Int64), some (.int k9) = v ∧ 77 = n ∧ fm I1 L1 = f ∧ qSp l y_md_use b_md_use 3 (some .long) false 3 0 0 [.ref 47, .int (xs (a + 1)), .int (xs (a + 2))] 77 (fm I1 L1) (qD (some (.long b9)) 77 (fm I2 L2)) ∧ Post I2 L2) (kk : ∀ I2 L2, Post I2 L2 → qR (qKL l b Ln xs) E X 869 (lwV a) [] 77 (kc + 1) (ks + 6) (fm I2 L2)) : qR (qKL l b Ln xs) E X 221 (lwV a) [] 77 kc ks (fm I L) := by
  refine qr_aload_n (pc := 221) d_lw_law_221 rfl rfl ?_
  refine qr_aload_n (pc := 222) d_lw_law_222 rfl rfl ?_
  refine qr_iload (pc := 223) d_lw_law_223 rfl ?_
  refine qr_iconst (v := 1) (pc := 225) d_lw_law_225 (by decide) ?_
  refine qr_iadd (pc := 226) d_lw_law_226 ?_
  refine qR_st (st' := [.int (nI (a + 1)), .ref 77, .ref 0]) rfl (by rw [nI_1] <;> rfl) rfl ?_
  refine qr_sldN (j := (a + 1)) (fun _ _ _ _ h => h) (pc := 227) d_lw_law_227 (by omega) hLn ?_
  refine qr_aload_n (pc := 228) d_lw_law_228 rfl rfl ?_
  refine qr_iload (pc := 229) d_lw_law_229 rfl ?_
  refine qr_iconst (v := 2) (pc := 231) d_lw_law_231 (by decide) ?_
  refine qr_iadd (pc := 232) d_lw_law_232 ?_
  refine qR_st (st' := [.int (nI (a + 2)), .ref 77, .int (xs (a + 1)), .ref 0]) rfl (by rw [nI_p2] <;> rfl) rfl ?_
  refine qr_sldN (j := (a + 2)) (fun _ _ _ _ h => h) (pc := 233) d_lw_law_233 (by omega) hLn ?_
  refine qr_aload_n (pc := 234) d_lw_law_234 rfl rfl ?_
  refine qr_callSW (hh := hh_use) (na := 4) (As := [.ref 0, .int (xs (a + 1)), .int (xs (a + 2)), .ref 76]) (pc := 235) d_lw_law_235 lk_lw_92 ii_lw cw_use ⟨by decide, by decide⟩ (by decide +kernel) sm_lw_use hW rfl rfl (Nat.le_of_ble_eq_true rfl) (Nat.le_of_ble_eq_true rfl) (Nat.le_of_ble_eq_true rfl) hkc hks (fun v n9 f9 hE => ?_)
  obtain ⟨k9, I1, L1, b9, I2, L2, rfl, rfl, rfl, hm, hpost⟩ := hM _ _ _ hE
  refine qr_istore (lv' := [(5, .int k9), (0, .ref 77), (1, .ref 0), (2, .ref 47), (3, .ref 76), (4, .int (nI a))]) (pc := 238) d_lw_law_238 (Nat.le_of_ble_eq_true rfl) rfl ?_
  refine qr_aload_n (pc := 240) d_lw_law_240 rfl rfl ?_
  refine qr_aload_n (pc := 241) d_lw_law_241 rfl rfl ?_
  refine qr_iload (pc := 242) d_lw_law_242 rfl ?_
  refine qr_iconst (v := 1) (pc := 244) d_lw_law_244 (by decide) ?_
  refine qr_iadd (pc := 245) d_lw_law_245 ?_
  refine qR_st (st' := [.int (nI (a + 1)), .ref 77, .ref 47]) rfl (by rw [nI_1] <;> rfl) rfl ?_
  refine qr_sldN (j := (a + 1)) (fun _ _ _ _ h => h) (pc := 246) d_lw_law_246 (by omega) hLn ?_
  refine qr_aload_n (pc := 247) d_lw_law_247 rfl rfl ?_
  refine qr_iload (pc := 248) d_lw_law_248 rfl ?_
  refine qr_iconst (v := 2) (pc := 250) d_lw_law_250 (by decide) ?_
  refine qr_iadd (pc := 251) d_lw_law_251 ?_
  refine qR_st (st' := [.int (nI (a + 2)), .ref 77, .int (xs (a + 1)), .ref 47]) rfl (by rw [nI_p2] <;> rfl) rfl ?_
  refine qr_sldN (j := (a + 2)) (fun _ _ _ _ h => h) (pc := 252) d_lw_law_252 (by omega) hLn ?_
  refine qr_callV (q := 47) (As := [.int (xs (a + 1)), .int (xs (a + 2))]) (pc := 253) d_lw_law_253 lk_lw_95 im_md_use se_md_use rfl (by decide) (by decide) (c_47 _ _) hm rfl rfl (Nat.le_of_ble_eq_true rfl) (Nat.le_of_ble_eq_true rfl) (Nat.le_of_ble_eq_true rfl) (by show kc + 1 + 0 ≤ 601024; omega) (by show ks + 6 + 0 ≤ 7293034; omega) (fun h => nomatch h) (fun v n9 f9 hE9 => ?_)
  obtain ⟨rfl, rfl, rfl⟩ := hE9
  refine qr_lstore (lv' := [(6, .long b9), (5, .int k9), (0, .ref 77), (1, .ref 0), (2, .ref 47), (3, .ref 76), (4, .int (nI a))]) (pc := 256) d_lw_law_256 (Nat.le_of_ble_eq_true rfl) rfl ?_
  refine qr_goto (tgt := 869) (pc := 258) d_lw_law_258 (by decide) ?_
  refine qR_sub (lv' := lwV a) [2, 3, 4, 5, 6] rfl ?_
  exact kk _ _ hpost
set_option maxRecDepth 10000 in
theorem lc_subscribe {l : Launch} {b Ln : Nat} {xs : Nat → Int32} {E : qE} {X : qXC} {a kc ks : Nat} {I : Nat → Nat → Int32} {L : Nat → Nat → Int64} (ha : a + 5 ≤ Ln) (hLn : Ln < 2 ^ 31) (hkc : kc + 1 ≤ 601024) (hks : ks + 6 ≤ 7293034) (Post : (Nat → Nat → Int32) → (Nat → Nat → Int64) → Prop) {Ew : qE} (hW : qSpW l y_lw_subscribe b_lw_subscribe 5 (some .int) hh_subscribe 10 1 6 [.ref 0, .int (xs (a + 1)), .int (xs (a + 2)), .ref 76] 77 (fm I L) Ew) (hM : ∀ v n f, Ew v n f → ∃ (k9 : Int32) (I1 : Nat → Nat → Int32) (L1 : Nat → Nat → Int64) (b9 : Int32) (I2 : Nat → Nat → Int32) (L2 : Nat → Nat → Int64), some (.int k9) = v ∧ 77 = n ∧ fm I1 L1 = f ∧ qSp l y_md_subscribe b_md_subscribe 4 (some .int) false 2 0 0 [.ref 47, .int (xs (a + 1)), .int (xs (a + 2))] 77 (fm I1 L1) (qD (some (.int b9)) 77 (fm I2 L2)) ∧ Post I2 L2) (kk : ∀ I2 L2, Post I2 L2 → qR (qKL l b Ln xs) E X 869 (lwV a) [] 77 (kc + 1) (ks + 6) (fm I2 L2)) : qR (qKL l b Ln xs) E X 261 (lwV a) [] 77 kc ks (fm I L) := by
  refine qr_aload_n (pc := 261) d_lw_law_261 rfl rfl ?_
  refine qr_aload_n (pc := 262) d_lw_law_262 rfl rfl ?_
  refine qr_iload (pc := 263) d_lw_law_263 rfl ?_
  refine qr_iconst (v := 1) (pc := 265) d_lw_law_265 (by decide) ?_
  refine qr_iadd (pc := 266) d_lw_law_266 ?_
  refine qR_st (st' := [.int (nI (a + 1)), .ref 77, .ref 0]) rfl (by rw [nI_1] <;> rfl) rfl ?_
  refine qr_sldN (j := (a + 1)) (fun _ _ _ _ h => h) (pc := 267) d_lw_law_267 (by omega) hLn ?_
  refine qr_aload_n (pc := 268) d_lw_law_268 rfl rfl ?_
  refine qr_iload (pc := 269) d_lw_law_269 rfl ?_
  refine qr_iconst (v := 2) (pc := 271) d_lw_law_271 (by decide) ?_
  refine qr_iadd (pc := 272) d_lw_law_272 ?_
  refine qR_st (st' := [.int (nI (a + 2)), .ref 77, .int (xs (a + 1)), .ref 0]) rfl (by rw [nI_p2] <;> rfl) rfl ?_
  refine qr_sldN (j := (a + 2)) (fun _ _ _ _ h => h) (pc := 273) d_lw_law_273 (by omega) hLn ?_
  refine qr_aload_n (pc := 274) d_lw_law_274 rfl rfl ?_
  refine qr_callSW (hh := hh_subscribe) (na := 4) (As := [.ref 0, .int (xs (a + 1)), .int (xs (a + 2)), .ref 76]) (pc := 275) d_lw_law_275 lk_lw_96 ii_lw cw_subscribe ⟨by decide, by decide⟩ (by decide +kernel) sm_lw_subscribe hW rfl rfl (Nat.le_of_ble_eq_true rfl) (Nat.le_of_ble_eq_true rfl) (Nat.le_of_ble_eq_true rfl) hkc hks (fun v n9 f9 hE => ?_)
  obtain ⟨k9, I1, L1, b9, I2, L2, rfl, rfl, rfl, hm, hpost⟩ := hM _ _ _ hE
  refine qr_istore (lv' := [(5, .int k9), (0, .ref 77), (1, .ref 0), (2, .ref 47), (3, .ref 76), (4, .int (nI a))]) (pc := 278) d_lw_law_278 (Nat.le_of_ble_eq_true rfl) rfl ?_
  refine qr_aload_n (pc := 280) d_lw_law_280 rfl rfl ?_
  refine qr_aload_n (pc := 281) d_lw_law_281 rfl rfl ?_
  refine qr_iload (pc := 282) d_lw_law_282 rfl ?_
  refine qr_iconst (v := 1) (pc := 284) d_lw_law_284 (by decide) ?_
  refine qr_iadd (pc := 285) d_lw_law_285 ?_
  refine qR_st (st' := [.int (nI (a + 1)), .ref 77, .ref 47]) rfl (by rw [nI_1] <;> rfl) rfl ?_
  refine qr_sldN (j := (a + 1)) (fun _ _ _ _ h => h) (pc := 286) d_lw_law_286 (by omega) hLn ?_
  refine qr_aload_n (pc := 287) d_lw_law_287 rfl rfl ?_
  refine qr_iload (pc := 288) d_lw_law_288 rfl ?_
  refine qr_iconst (v := 2) (pc := 290) d_lw_law_290 (by decide) ?_
  refine qr_iadd (pc := 291) d_lw_law_291 ?_
  refine qR_st (st' := [.int (nI (a + 2)), .ref 77, .int (xs (a + 1)), .ref 47]) rfl (by rw [nI_p2] <;> rfl) rfl ?_
  refine qr_sldN (j := (a + 2)) (fun _ _ _ _ h => h) (pc := 292) d_lw_law_292 (by omega) hLn ?_
  refine qr_callV (q := 47) (As := [.int (xs (a + 1)), .int (xs (a + 2))]) (pc := 293) d_lw_law_293 lk_lw_98 im_md_subscribe se_md_subscribe rfl (by decide) (by decide) (c_47 _ _) hm rfl rfl (Nat.le_of_ble_eq_true rfl) (Nat.le_of_ble_eq_true rfl) (Nat.le_of_ble_eq_true rfl) (by show kc + 1 + 0 ≤ 601024; omega) (by show ks + 6 + 0 ≤ 7293034; omega) (fun h => nomatch h) (fun v n9 f9 hE9 => ?_)
  obtain ⟨rfl, rfl, rfl⟩ := hE9
  refine qr_istore (lv' := [(6, .int b9), (5, .int k9), (0, .ref 77), (1, .ref 0), (2, .ref 47), (3, .ref 76), (4, .int (nI a))]) (pc := 296) d_lw_law_296 (Nat.le_of_ble_eq_true rfl) rfl ?_
  refine qr_goto (tgt := 869) (pc := 298) d_lw_law_298 (by decide) ?_
  refine qR_sub (lv' := lwV a) [2, 3, 4, 5, 6] rfl ?_
  exact kk _ _ hpost
set_option maxRecDepth 10000 in
theorem lc_pause {l : Launch} {b Ln : Nat} {xs : Nat → Int32} {E : qE} {X : qXC} {a kc ks : Nat} {I : Nat → Nat → Int32} {L : Nat → Nat → Int64} (ha : a + 5 ≤ Ln) (hLn : Ln < 2 ^ 31) (hkc : kc + 1 ≤ 601024) (hks : ks + 6 ≤ 7293034) (Post : (Nat → Nat → Int32) → (Nat → Nat → Int64) → Prop) {Ew : qE} {on : Int32} (hon : on = if xs (a + 2) = 0 then 0 else 1) (hW : qSpW l y_lw_pause b_lw_pause 5 (some .int) hh_pause 10 1 6 [.ref 0, .int (xs (a + 1)), .int on, .ref 76] 77 (fm I L) Ew) (hM : ∀ v n f, Ew v n f → ∃ (k9 : Int32) (I1 : Nat → Nat → Int32) (L1 : Nat → Nat → Int64) (b9 : Int32) (I2 : Nat → Nat → Int32) (L2 : Nat → Nat → Int64), some (.int k9) = v ∧ 77 = n ∧ fm I1 L1 = f ∧ qSp l y_md_pause b_md_pause 4 (some .boolean) false 2 0 0 [.ref 47, .int (xs (a + 1)), .int on] 77 (fm I1 L1) (qD (some (.int b9)) 77 (fm I2 L2)) ∧ I2 47 0 = k9 ∧ (k9 = 0 → L2 76 0 = (if b9 = 0 then 0 else 1)) ∧ Post I2 L2) (kk : ∀ I2 L2, Post I2 L2 → qR (qKL l b Ln xs) E X 869 (lwV a) [] 77 (kc + 1) (ks + 6) (fm I2 L2)) : qR (qKL l b Ln xs) E X 301 (lwV a) [] 77 kc ks (fm I L) := by
  refine qr_aload_n (pc := 301) d_lw_law_301 rfl rfl ?_
  refine qr_aload_n (pc := 302) d_lw_law_302 rfl rfl ?_
  refine qr_iload (pc := 303) d_lw_law_303 rfl ?_
  refine qr_iconst (v := 1) (pc := 305) d_lw_law_305 (by decide) ?_
  refine qr_iadd (pc := 306) d_lw_law_306 ?_
  refine qR_st (st' := [.int (nI (a + 1)), .ref 77, .ref 0]) rfl (by rw [nI_1] <;> rfl) rfl ?_
  refine qr_sldN (j := (a + 1)) (fun _ _ _ _ h => h) (pc := 307) d_lw_law_307 (by omega) hLn ?_
  refine qr_aload_n (pc := 308) d_lw_law_308 rfl rfl ?_
  refine qr_iload (pc := 309) d_lw_law_309 rfl ?_
  refine qr_iconst (v := 2) (pc := 311) d_lw_law_311 (by decide) ?_
  refine qr_iadd (pc := 312) d_lw_law_312 ?_
  refine qR_st (st' := [.int (nI (a + 2)), .ref 77, .int (xs (a + 1)), .ref 0]) rfl (by rw [nI_p2] <;> rfl) rfl ?_
  refine qr_sldN (j := (a + 2)) (fun _ _ _ _ h => h) (pc := 313) d_lw_law_313 (by omega) hLn ?_
  refine qr_if_eq (tgt := 321) (pc := 314) d_lw_law_314 (by decide) (fun hz0 => ?_) (fun hz0 => ?_)
  · skip
    refine qr_iconst (v := 0) (pc := 321) d_lw_law_321 (by decide) ?_
    refine qr_aload_n (pc := 322) d_lw_law_322 rfl rfl ?_
    refine qR_st (st' := [.ref 76, .int on, .int (xs (a + 1)), .ref 0]) rfl (by rw [hon, if_pos hz0]) rfl ?_
    refine qr_callSW (hh := hh_pause) (na := 4) (As := [.ref 0, .int (xs (a + 1)), .int on, .ref 76]) (pc := 323) d_lw_law_323 lk_lw_99 ii_lw cw_pause ⟨by decide, by decide⟩ (by decide +kernel) sm_lw_pause hW rfl rfl (Nat.le_of_ble_eq_true rfl) (Nat.le_of_ble_eq_true rfl) (Nat.le_of_ble_eq_true rfl) hkc hks (fun v n9 f9 hE => ?_)
    obtain ⟨k9, I1, L1, b9, I2, L2, rfl, rfl, rfl, hm, hth, hout, hpost⟩ := hM _ _ _ hE
    refine qr_istore (lv' := [(5, .int k9), (0, .ref 77), (1, .ref 0), (2, .ref 47), (3, .ref 76), (4, .int (nI a))]) (pc := 326) d_lw_law_326 (Nat.le_of_ble_eq_true rfl) rfl ?_
    refine qr_aload_n (pc := 328) d_lw_law_328 rfl rfl ?_
    refine qr_aload_n (pc := 329) d_lw_law_329 rfl rfl ?_
    refine qr_iload (pc := 330) d_lw_law_330 rfl ?_
    refine qr_iconst (v := 1) (pc := 332) d_lw_law_332 (by decide) ?_
    refine qr_iadd (pc := 333) d_lw_law_333 ?_
    refine qR_st (st' := [.int (nI (a + 1)), .ref 77, .ref 47]) rfl (by rw [nI_1] <;> rfl) rfl ?_
    refine qr_sldN (j := (a + 1)) (fun _ _ _ _ h => h) (pc := 334) d_lw_law_334 (by omega) hLn ?_
    refine qr_aload_n (pc := 335) d_lw_law_335 rfl rfl ?_
    refine qr_iload (pc := 336) d_lw_law_336 rfl ?_
    refine qr_iconst (v := 2) (pc := 338) d_lw_law_338 (by decide) ?_
    refine qr_iadd (pc := 339) d_lw_law_339 ?_
    refine qR_st (st' := [.int (nI (a + 2)), .ref 77, .int (xs (a + 1)), .ref 47]) rfl (by rw [nI_p2] <;> rfl) rfl ?_
    refine qr_sldN (j := (a + 2)) (fun _ _ _ _ h => h) (pc := 340) d_lw_law_340 (by omega) hLn ?_
    refine qr_if_eq (tgt := 348) (pc := 341) d_lw_law_341 (by decide) (fun _ => ?_) (fun h => absurd hz0 h)
    refine qr_iconst (v := 0) (pc := 348) d_lw_law_348 (by decide) ?_
    refine qR_st (st' := [.int on, .int (xs (a + 1)), .ref 47]) rfl (by rw [hon, if_pos hz0]) rfl ?_
    refine qr_callV (q := 47) (As := [.int (xs (a + 1)), .int on]) (pc := 349) d_lw_law_349 lk_lw_102 im_md_pause se_md_pause rfl (by decide) (by decide) (c_47 _ _) hm rfl rfl (Nat.le_of_ble_eq_true rfl) (Nat.le_of_ble_eq_true rfl) (Nat.le_of_ble_eq_true rfl) (by show kc + 1 + 0 ≤ 601024; omega) (by show ks + 6 + 0 ≤ 7293034; omega) (fun h => nomatch h) (fun v n9 f9 hE9 => ?_)
    obtain ⟨rfl, rfl, rfl⟩ := hE9
    refine qr_istore (lv' := [(6, .int b9), (5, .int k9), (0, .ref 77), (1, .ref 0), (2, .ref 47), (3, .ref 76), (4, .int (nI a))]) (pc := 352) d_lw_law_352 (Nat.le_of_ble_eq_true rfl) rfl ?_
    refine qr_aload_n (pc := 354) d_lw_law_354 rfl rfl ?_
    refine qr_callV (q := 47) (As := []) (pc := 355) d_lw_law_355 lk_lw_103 im_md_thrown se_md_thrown rfl (by decide) (by decide) (c_47 _ _) (s_md_thrown _ false _ _) rfl rfl (Nat.le_of_ble_eq_true rfl) (Nat.le_of_ble_eq_true rfl) (Nat.le_of_ble_eq_true rfl) (by show kc + 1 + 0 + 0 ≤ 601024; omega) (by show ks + 6 + 0 + 0 ≤ 7293034; omega) (fun h => nomatch h) (fun v n9 f9 hE9 => ?_)
    obtain ⟨rfl, rfl, rfl⟩ := hE9
    refine qr_iload (pc := 358) d_lw_law_358 rfl ?_
    refine qr_icmp_eq (tgt := 365) (pc := 360) d_lw_law_360 (by decide) (fun _ => ?_) (fun h => absurd hth h)
    refine qr_iload (pc := 365) d_lw_law_365 rfl ?_
    refine qr_if_ne (tgt := 389) (pc := 367) d_lw_law_367 (by decide) (fun _ => ?_) (fun hk9 => ?_)
    · skip
      refine qr_goto (tgt := 869) (pc := 389) d_lw_law_389 (by decide) ?_
      refine qR_sub (lv' := lwV a) [2, 3, 4, 5, 6] rfl ?_
      exact kk _ _ hpost
    · have ho := hout hk9
      refine qr_aload_n (pc := 370) d_lw_law_370 rfl rfl ?_
      refine qr_iconst (v := 0) (pc := 371) d_lw_law_371 (by decide) ?_
      refine qr_laldN (j := 0) (pc := 372) d_lw_law_372 (by decide) (by decide) (c_76 _ _) (by decide) (by decide) ?_
      refine qr_iload (pc := 373) d_lw_law_373 rfl ?_
      refine qr_if_eq (tgt := 382) (pc := 375) d_lw_law_375 (by decide) (fun hz => ?_) (fun hz => ?_)
      · skip
        refine qr_lconst (v := 0) (pc := 382) d_lw_law_382 (by decide) ?_
        refine qr_lcmp (pc := 383) d_lw_law_383 ?_
        refine qr_if_eq (tgt := 389) (pc := 384) d_lw_law_384 (by decide) (fun _ => ?_) (fun h => absurd ((lgc_eq _ _).mpr (by rw [ho, if_pos hz])) h)
        refine qr_goto (tgt := 869) (pc := 389) d_lw_law_389 (by decide) ?_
        refine qR_sub (lv' := lwV a) [2, 3, 4, 5, 6] rfl ?_
        exact kk _ _ hpost
      · skip
        refine qr_lconst (v := 1) (pc := 378) d_lw_law_378 (by decide) ?_
        refine qr_goto (tgt := 383) (pc := 379) d_lw_law_379 (by decide) ?_
        refine qr_lcmp (pc := 383) d_lw_law_383 ?_
        refine qr_if_eq (tgt := 389) (pc := 384) d_lw_law_384 (by decide) (fun _ => ?_) (fun h => absurd ((lgc_eq _ _).mpr (by rw [ho, if_neg hz])) h)
        refine qr_goto (tgt := 869) (pc := 389) d_lw_law_389 (by decide) ?_
        refine qR_sub (lv' := lwV a) [2, 3, 4, 5, 6] rfl ?_
        exact kk _ _ hpost
  · skip
    refine qr_iconst (v := 1) (pc := 317) d_lw_law_317 (by decide) ?_
    refine qr_goto (tgt := 322) (pc := 318) d_lw_law_318 (by decide) ?_
    refine qr_aload_n (pc := 322) d_lw_law_322 rfl rfl ?_
    refine qR_st (st' := [.ref 76, .int on, .int (xs (a + 1)), .ref 0]) rfl (by rw [hon, if_neg hz0]) rfl ?_
    refine qr_callSW (hh := hh_pause) (na := 4) (As := [.ref 0, .int (xs (a + 1)), .int on, .ref 76]) (pc := 323) d_lw_law_323 lk_lw_99 ii_lw cw_pause ⟨by decide, by decide⟩ (by decide +kernel) sm_lw_pause hW rfl rfl (Nat.le_of_ble_eq_true rfl) (Nat.le_of_ble_eq_true rfl) (Nat.le_of_ble_eq_true rfl) hkc hks (fun v n9 f9 hE => ?_)
    obtain ⟨k9, I1, L1, b9, I2, L2, rfl, rfl, rfl, hm, hth, hout, hpost⟩ := hM _ _ _ hE
    refine qr_istore (lv' := [(5, .int k9), (0, .ref 77), (1, .ref 0), (2, .ref 47), (3, .ref 76), (4, .int (nI a))]) (pc := 326) d_lw_law_326 (Nat.le_of_ble_eq_true rfl) rfl ?_
    refine qr_aload_n (pc := 328) d_lw_law_328 rfl rfl ?_
    refine qr_aload_n (pc := 329) d_lw_law_329 rfl rfl ?_
    refine qr_iload (pc := 330) d_lw_law_330 rfl ?_
    refine qr_iconst (v := 1) (pc := 332) d_lw_law_332 (by decide) ?_
    refine qr_iadd (pc := 333) d_lw_law_333 ?_
    refine qR_st (st' := [.int (nI (a + 1)), .ref 77, .ref 47]) rfl (by rw [nI_1] <;> rfl) rfl ?_
    refine qr_sldN (j := (a + 1)) (fun _ _ _ _ h => h) (pc := 334) d_lw_law_334 (by omega) hLn ?_
    refine qr_aload_n (pc := 335) d_lw_law_335 rfl rfl ?_
    refine qr_iload (pc := 336) d_lw_law_336 rfl ?_
    refine qr_iconst (v := 2) (pc := 338) d_lw_law_338 (by decide) ?_
    refine qr_iadd (pc := 339) d_lw_law_339 ?_
    refine qR_st (st' := [.int (nI (a + 2)), .ref 77, .int (xs (a + 1)), .ref 47]) rfl (by rw [nI_p2] <;> rfl) rfl ?_
    refine qr_sldN (j := (a + 2)) (fun _ _ _ _ h => h) (pc := 340) d_lw_law_340 (by omega) hLn ?_
    refine qr_if_eq (tgt := 348) (pc := 341) d_lw_law_341 (by decide) (fun h => absurd h hz0) (fun _ => ?_)
    refine qr_iconst (v := 1) (pc := 344) d_lw_law_344 (by decide) ?_
    refine qr_goto (tgt := 349) (pc := 345) d_lw_law_345 (by decide) ?_
    refine qR_st (st' := [.int on, .int (xs (a + 1)), .ref 47]) rfl (by rw [hon, if_neg hz0]) rfl ?_
    refine qr_callV (q := 47) (As := [.int (xs (a + 1)), .int on]) (pc := 349) d_lw_law_349 lk_lw_102 im_md_pause se_md_pause rfl (by decide) (by decide) (c_47 _ _) hm rfl rfl (Nat.le_of_ble_eq_true rfl) (Nat.le_of_ble_eq_true rfl) (Nat.le_of_ble_eq_true rfl) (by show kc + 1 + 0 ≤ 601024; omega) (by show ks + 6 + 0 ≤ 7293034; omega) (fun h => nomatch h) (fun v n9 f9 hE9 => ?_)
    obtain ⟨rfl, rfl, rfl⟩ := hE9
    refine qr_istore (lv' := [(6, .int b9), (5, .int k9), (0, .ref 77), (1, .ref 0), (2, .ref 47), (3, .ref 76), (4, .int (nI a))]) (pc := 352) d_lw_law_352 (Nat.le_of_ble_eq_true rfl) rfl ?_
    refine qr_aload_n (pc := 354) d_lw_law_354 rfl rfl ?_
    refine qr_callV (q := 47) (As := []) (pc := 355) d_lw_law_355 lk_lw_103 im_md_thrown se_md_thrown rfl (by decide) (by decide) (c_47 _ _) (s_md_thrown _ false _ _) rfl rfl (Nat.le_of_ble_eq_true rfl) (Nat.le_of_ble_eq_true rfl) (Nat.le_of_ble_eq_true rfl) (by show kc + 1 + 0 + 0 ≤ 601024; omega) (by show ks + 6 + 0 + 0 ≤ 7293034; omega) (fun h => nomatch h) (fun v n9 f9 hE9 => ?_)
    obtain ⟨rfl, rfl, rfl⟩ := hE9
    refine qr_iload (pc := 358) d_lw_law_358 rfl ?_
    refine qr_icmp_eq (tgt := 365) (pc := 360) d_lw_law_360 (by decide) (fun _ => ?_) (fun h => absurd hth h)
    refine qr_iload (pc := 365) d_lw_law_365 rfl ?_
    refine qr_if_ne (tgt := 389) (pc := 367) d_lw_law_367 (by decide) (fun _ => ?_) (fun hk9 => ?_)
    · skip
      refine qr_goto (tgt := 869) (pc := 389) d_lw_law_389 (by decide) ?_
      refine qR_sub (lv' := lwV a) [2, 3, 4, 5, 6] rfl ?_
      exact kk _ _ hpost
    · have ho := hout hk9
      refine qr_aload_n (pc := 370) d_lw_law_370 rfl rfl ?_
      refine qr_iconst (v := 0) (pc := 371) d_lw_law_371 (by decide) ?_
      refine qr_laldN (j := 0) (pc := 372) d_lw_law_372 (by decide) (by decide) (c_76 _ _) (by decide) (by decide) ?_
      refine qr_iload (pc := 373) d_lw_law_373 rfl ?_
      refine qr_if_eq (tgt := 382) (pc := 375) d_lw_law_375 (by decide) (fun hz => ?_) (fun hz => ?_)
      · skip
        refine qr_lconst (v := 0) (pc := 382) d_lw_law_382 (by decide) ?_
        refine qr_lcmp (pc := 383) d_lw_law_383 ?_
        refine qr_if_eq (tgt := 389) (pc := 384) d_lw_law_384 (by decide) (fun _ => ?_) (fun h => absurd ((lgc_eq _ _).mpr (by rw [ho, if_pos hz])) h)
        refine qr_goto (tgt := 869) (pc := 389) d_lw_law_389 (by decide) ?_
        refine qR_sub (lv' := lwV a) [2, 3, 4, 5, 6] rfl ?_
        exact kk _ _ hpost
      · skip
        refine qr_lconst (v := 1) (pc := 378) d_lw_law_378 (by decide) ?_
        refine qr_goto (tgt := 383) (pc := 379) d_lw_law_379 (by decide) ?_
        refine qr_lcmp (pc := 383) d_lw_law_383 ?_
        refine qr_if_eq (tgt := 389) (pc := 384) d_lw_law_384 (by decide) (fun _ => ?_) (fun h => absurd ((lgc_eq _ _).mpr (by rw [ho, if_neg hz])) h)
        refine qr_goto (tgt := 869) (pc := 389) d_lw_law_389 (by decide) ?_
        refine qR_sub (lv' := lwV a) [2, 3, 4, 5, 6] rfl ?_
        exact kk _ _ hpost
set_option maxRecDepth 10000 in
theorem lc_event {l : Launch} {b Ln : Nat} {xs : Nat → Int32} {E : qE} {X : qXC} {a kc ks : Nat} {I : Nat → Nat → Int32} {L : Nat → Nat → Int64} (ha : a + 5 ≤ Ln) (hLn : Ln < 2 ^ 31) (hkc : kc + 1 ≤ 601024) (hks : ks + 6 ≤ 7293034) (Post : (Nat → Nat → Int32) → (Nat → Nat → Int64) → Prop) {Ew : qE} (hW : qSpW l y_lw_event b_lw_event 7 (some .int) hh_event 10 1 6 [.ref 0, .int (xs (a + 1)), .int (xs (a + 2)), .int (xs (a + 3)), .int (xs (a + 4)), .ref 76] 77 (fm I L) Ew) (hM : ∀ v n f, Ew v n f → ∃ (k9 : Int32) (I1 : Nat → Nat → Int32) (L1 : Nat → Nat → Int64) (b9 : Int32) (I2 : Nat → Nat → Int32) (L2 : Nat → Nat → Int64), some (.int k9) = v ∧ 77 = n ∧ fm I1 L1 = f ∧ qSp l y_md_event b_md_event 6 (some .int) false 2 0 0 [.ref 47, .int (xs (a + 1)), .int (xs (a + 2)), .int (xs (a + 3)), .int (xs (a + 4))] 77 (fm I1 L1) (qD (some (.int b9)) 77 (fm I2 L2)) ∧ Post I2 L2) (kk : ∀ I2 L2, Post I2 L2 → qR (qKL l b Ln xs) E X 869 (lwV a) [] 77 (kc + 1) (ks + 6) (fm I2 L2)) : qR (qKL l b Ln xs) E X 392 (lwV a) [] 77 kc ks (fm I L) := by
  refine qr_aload_n (pc := 392) d_lw_law_392 rfl rfl ?_
  refine qr_aload_n (pc := 393) d_lw_law_393 rfl rfl ?_
  refine qr_iload (pc := 394) d_lw_law_394 rfl ?_
  refine qr_iconst (v := 1) (pc := 396) d_lw_law_396 (by decide) ?_
  refine qr_iadd (pc := 397) d_lw_law_397 ?_
  refine qR_st (st' := [.int (nI (a + 1)), .ref 77, .ref 0]) rfl (by rw [nI_1] <;> rfl) rfl ?_
  refine qr_sldN (j := (a + 1)) (fun _ _ _ _ h => h) (pc := 398) d_lw_law_398 (by omega) hLn ?_
  refine qr_aload_n (pc := 399) d_lw_law_399 rfl rfl ?_
  refine qr_iload (pc := 400) d_lw_law_400 rfl ?_
  refine qr_iconst (v := 2) (pc := 402) d_lw_law_402 (by decide) ?_
  refine qr_iadd (pc := 403) d_lw_law_403 ?_
  refine qR_st (st' := [.int (nI (a + 2)), .ref 77, .int (xs (a + 1)), .ref 0]) rfl (by rw [nI_p2] <;> rfl) rfl ?_
  refine qr_sldN (j := (a + 2)) (fun _ _ _ _ h => h) (pc := 404) d_lw_law_404 (by omega) hLn ?_
  refine qr_aload_n (pc := 405) d_lw_law_405 rfl rfl ?_
  refine qr_iload (pc := 406) d_lw_law_406 rfl ?_
  refine qr_iconst (v := 3) (pc := 408) d_lw_law_408 (by decide) ?_
  refine qr_iadd (pc := 409) d_lw_law_409 ?_
  refine qR_st (st' := [.int (nI (a + 3)), .ref 77, .int (xs (a + 2)), .int (xs (a + 1)), .ref 0]) rfl (by rw [nI_p3] <;> rfl) rfl ?_
  refine qr_sldN (j := (a + 3)) (fun _ _ _ _ h => h) (pc := 410) d_lw_law_410 (by omega) hLn ?_
  refine qr_aload_n (pc := 411) d_lw_law_411 rfl rfl ?_
  refine qr_iload (pc := 412) d_lw_law_412 rfl ?_
  refine qr_iconst (v := 4) (pc := 414) d_lw_law_414 (by decide) ?_
  refine qr_iadd (pc := 415) d_lw_law_415 ?_
  refine qR_st (st' := [.int (nI (a + 4)), .ref 77, .int (xs (a + 3)), .int (xs (a + 2)), .int (xs (a + 1)), .ref 0]) rfl (by rw [nI_p4] <;> rfl) rfl ?_
  refine qr_sldN (j := (a + 4)) (fun _ _ _ _ h => h) (pc := 416) d_lw_law_416 (by omega) hLn ?_
  refine qr_aload_n (pc := 417) d_lw_law_417 rfl rfl ?_
  refine qr_callSW (hh := hh_event) (na := 6) (As := [.ref 0, .int (xs (a + 1)), .int (xs (a + 2)), .int (xs (a + 3)), .int (xs (a + 4)), .ref 76]) (pc := 418) d_lw_law_418 lk_lw_106 ii_lw cw_event ⟨by decide, by decide⟩ (by decide +kernel) sm_lw_event hW rfl rfl (Nat.le_of_ble_eq_true rfl) (Nat.le_of_ble_eq_true rfl) (Nat.le_of_ble_eq_true rfl) hkc hks (fun v n9 f9 hE => ?_)
  obtain ⟨k9, I1, L1, b9, I2, L2, rfl, rfl, rfl, hm, hpost⟩ := hM _ _ _ hE
  refine qr_istore (lv' := [(5, .int k9), (0, .ref 77), (1, .ref 0), (2, .ref 47), (3, .ref 76), (4, .int (nI a))]) (pc := 421) d_lw_law_421 (Nat.le_of_ble_eq_true rfl) rfl ?_
  refine qr_aload_n (pc := 423) d_lw_law_423 rfl rfl ?_
  refine qr_aload_n (pc := 424) d_lw_law_424 rfl rfl ?_
  refine qr_iload (pc := 425) d_lw_law_425 rfl ?_
  refine qr_iconst (v := 1) (pc := 427) d_lw_law_427 (by decide) ?_
  refine qr_iadd (pc := 428) d_lw_law_428 ?_
  refine qR_st (st' := [.int (nI (a + 1)), .ref 77, .ref 47]) rfl (by rw [nI_1] <;> rfl) rfl ?_
  refine qr_sldN (j := (a + 1)) (fun _ _ _ _ h => h) (pc := 429) d_lw_law_429 (by omega) hLn ?_
  refine qr_aload_n (pc := 430) d_lw_law_430 rfl rfl ?_
  refine qr_iload (pc := 431) d_lw_law_431 rfl ?_
  refine qr_iconst (v := 2) (pc := 433) d_lw_law_433 (by decide) ?_
  refine qr_iadd (pc := 434) d_lw_law_434 ?_
  refine qR_st (st' := [.int (nI (a + 2)), .ref 77, .int (xs (a + 1)), .ref 47]) rfl (by rw [nI_p2] <;> rfl) rfl ?_
  refine qr_sldN (j := (a + 2)) (fun _ _ _ _ h => h) (pc := 435) d_lw_law_435 (by omega) hLn ?_
  refine qr_aload_n (pc := 436) d_lw_law_436 rfl rfl ?_
  refine qr_iload (pc := 437) d_lw_law_437 rfl ?_
  refine qr_iconst (v := 3) (pc := 439) d_lw_law_439 (by decide) ?_
  refine qr_iadd (pc := 440) d_lw_law_440 ?_
  refine qR_st (st' := [.int (nI (a + 3)), .ref 77, .int (xs (a + 2)), .int (xs (a + 1)), .ref 47]) rfl (by rw [nI_p3] <;> rfl) rfl ?_
  refine qr_sldN (j := (a + 3)) (fun _ _ _ _ h => h) (pc := 441) d_lw_law_441 (by omega) hLn ?_
  refine qr_aload_n (pc := 442) d_lw_law_442 rfl rfl ?_
  refine qr_iload (pc := 443) d_lw_law_443 rfl ?_
  refine qr_iconst (v := 4) (pc := 445) d_lw_law_445 (by decide) ?_
  refine qr_iadd (pc := 446) d_lw_law_446 ?_
  refine qR_st (st' := [.int (nI (a + 4)), .ref 77, .int (xs (a + 3)), .int (xs (a + 2)), .int (xs (a + 1)), .ref 47]) rfl (by rw [nI_p4] <;> rfl) rfl ?_
  refine qr_sldN (j := (a + 4)) (fun _ _ _ _ h => h) (pc := 447) d_lw_law_447 (by omega) hLn ?_
  refine qr_callV (q := 47) (As := [.int (xs (a + 1)), .int (xs (a + 2)), .int (xs (a + 3)), .int (xs (a + 4))]) (pc := 448) d_lw_law_448 lk_lw_109 im_md_event se_md_event rfl (by decide) (by decide) (c_47 _ _) hm rfl rfl (Nat.le_of_ble_eq_true rfl) (Nat.le_of_ble_eq_true rfl) (Nat.le_of_ble_eq_true rfl) (by show kc + 1 + 0 ≤ 601024; omega) (by show ks + 6 + 0 ≤ 7293034; omega) (fun h => nomatch h) (fun v n9 f9 hE9 => ?_)
  obtain ⟨rfl, rfl, rfl⟩ := hE9
  refine qr_istore (lv' := [(6, .int b9), (5, .int k9), (0, .ref 77), (1, .ref 0), (2, .ref 47), (3, .ref 76), (4, .int (nI a))]) (pc := 451) d_lw_law_451 (Nat.le_of_ble_eq_true rfl) rfl ?_
  refine qr_goto (tgt := 869) (pc := 453) d_lw_law_453 (by decide) ?_
  refine qR_sub (lv' := lwV a) [2, 3, 4, 5, 6] rfl ?_
  exact kk _ _ hpost
set_option maxRecDepth 10000 in
theorem lc_tick {l : Launch} {b Ln : Nat} {xs : Nat → Int32} {E : qE} {X : qXC} {a kc ks : Nat} {I : Nat → Nat → Int32} {L : Nat → Nat → Int64} (ha : a + 5 ≤ Ln) (hLn : Ln < 2 ^ 31) (hkc : kc + 1 ≤ 601024) (hks : ks + 6 ≤ 7293034) (Post : (Nat → Nat → Int32) → (Nat → Nat → Int64) → Prop) {Ew : qE} (hW : qSpW l y_lw_tick b_lw_tick 4 (some .int) hh_tick 10 1 6 [.ref 0, .int (xs (a + 1)), .ref 76] 77 (fm I L) Ew) (hM : ∀ v n f, Ew v n f → ∃ (k9 : Int32) (I1 : Nat → Nat → Int32) (L1 : Nat → Nat → Int64) (b9 : Int32) (I2 : Nat → Nat → Int32) (L2 : Nat → Nat → Int64), some (.int k9) = v ∧ 77 = n ∧ fm I1 L1 = f ∧ qSp l y_md_tick b_md_tick 4 (some .int) false 3 0 0 [.ref 47, .int (xs (a + 1))] 77 (fm I1 L1) (qD (some (.int b9)) 77 (fm I2 L2)) ∧ Post I2 L2) (kk : ∀ I2 L2, Post I2 L2 → qR (qKL l b Ln xs) E X 869 (lwV a) [] 77 (kc + 1) (ks + 6) (fm I2 L2)) : qR (qKL l b Ln xs) E X 456 (lwV a) [] 77 kc ks (fm I L) := by
  refine qr_aload_n (pc := 456) d_lw_law_456 rfl rfl ?_
  refine qr_aload_n (pc := 457) d_lw_law_457 rfl rfl ?_
  refine qr_iload (pc := 458) d_lw_law_458 rfl ?_
  refine qr_iconst (v := 1) (pc := 460) d_lw_law_460 (by decide) ?_
  refine qr_iadd (pc := 461) d_lw_law_461 ?_
  refine qR_st (st' := [.int (nI (a + 1)), .ref 77, .ref 0]) rfl (by rw [nI_1] <;> rfl) rfl ?_
  refine qr_sldN (j := (a + 1)) (fun _ _ _ _ h => h) (pc := 462) d_lw_law_462 (by omega) hLn ?_
  refine qr_aload_n (pc := 463) d_lw_law_463 rfl rfl ?_
  refine qr_callSW (hh := hh_tick) (na := 3) (As := [.ref 0, .int (xs (a + 1)), .ref 76]) (pc := 464) d_lw_law_464 lk_lw_110 ii_lw cw_tick ⟨by decide, by decide⟩ (by decide +kernel) sm_lw_tick hW rfl rfl (Nat.le_of_ble_eq_true rfl) (Nat.le_of_ble_eq_true rfl) (Nat.le_of_ble_eq_true rfl) hkc hks (fun v n9 f9 hE => ?_)
  obtain ⟨k9, I1, L1, b9, I2, L2, rfl, rfl, rfl, hm, hpost⟩ := hM _ _ _ hE
  refine qr_istore (lv' := [(5, .int k9), (0, .ref 77), (1, .ref 0), (2, .ref 47), (3, .ref 76), (4, .int (nI a))]) (pc := 467) d_lw_law_467 (Nat.le_of_ble_eq_true rfl) rfl ?_
  refine qr_aload_n (pc := 469) d_lw_law_469 rfl rfl ?_
  refine qr_aload_n (pc := 470) d_lw_law_470 rfl rfl ?_
  refine qr_iload (pc := 471) d_lw_law_471 rfl ?_
  refine qr_iconst (v := 1) (pc := 473) d_lw_law_473 (by decide) ?_
  refine qr_iadd (pc := 474) d_lw_law_474 ?_
  refine qR_st (st' := [.int (nI (a + 1)), .ref 77, .ref 47]) rfl (by rw [nI_1] <;> rfl) rfl ?_
  refine qr_sldN (j := (a + 1)) (fun _ _ _ _ h => h) (pc := 475) d_lw_law_475 (by omega) hLn ?_
  refine qr_callV (q := 47) (As := [.int (xs (a + 1))]) (pc := 476) d_lw_law_476 lk_lw_112 im_md_tick se_md_tick rfl (by decide) (by decide) (c_47 _ _) hm rfl rfl (Nat.le_of_ble_eq_true rfl) (Nat.le_of_ble_eq_true rfl) (Nat.le_of_ble_eq_true rfl) (by show kc + 1 + 0 ≤ 601024; omega) (by show ks + 6 + 0 ≤ 7293034; omega) (fun h => nomatch h) (fun v n9 f9 hE9 => ?_)
  obtain ⟨rfl, rfl, rfl⟩ := hE9
  refine qr_istore (lv' := [(6, .int b9), (5, .int k9), (0, .ref 77), (1, .ref 0), (2, .ref 47), (3, .ref 76), (4, .int (nI a))]) (pc := 479) d_lw_law_479 (Nat.le_of_ble_eq_true rfl) rfl ?_
  refine qr_goto (tgt := 869) (pc := 481) d_lw_law_481 (by decide) ?_
  refine qR_sub (lv' := lwV a) [2, 3, 4, 5, 6] rfl ?_
  exact kk _ _ hpost
set_option maxRecDepth 10000 in
theorem lc_run {l : Launch} {b Ln : Nat} {xs : Nat → Int32} {E : qE} {X : qXC} {a kc ks : Nat} {I : Nat → Nat → Int32} {L : Nat → Nat → Int64} (ha : a + 5 ≤ Ln) (hLn : Ln < 2 ^ 31) (hkc : kc + 1 ≤ 601024) (hks : ks + 6 ≤ 7293034) (Post : (Nat → Nat → Int32) → (Nat → Nat → Int64) → Prop) {r r2 : Int32} {I1 I2 : Nat → Nat → Int32} {L1 L2 : Nat → Nat → Int64} (hW : qSp l y_bf_run b_bf_run 4 (some .int) false 9 0 0 [.ref 0] 77 (fm I L) (qD (some (.int r)) 77 (fm I1 L1))) (hM : qSp l y_md_run b_md_run 9 (some .int) false 6 0 0 [.ref 47] 77 (fm I1 L1) (qD (some (.int r2)) 77 (fm I2 L2))) (hp : Post I2 L2) (kk : ∀ I2 L2, Post I2 L2 → qR (qKL l b Ln xs) E X 869 (lwV a) [] 77 kc ks (fm I2 L2)) : qR (qKL l b Ln xs) E X 484 (lwV a) [] 77 kc ks (fm I L) := by
  refine qr_aload_n (pc := 484) d_lw_law_484 rfl rfl ?_
  refine qr_callV (q := 0) (As := []) (pc := 485) d_lw_law_485 lk_lw_113 im_bf_run se_bf_run rfl (by decide) (by decide) (c_0 _ _) hW rfl rfl (Nat.le_of_ble_eq_true rfl) (Nat.le_of_ble_eq_true rfl) (Nat.le_of_ble_eq_true rfl) (by show kc + 0 ≤ 601024; omega) (by show ks + 0 ≤ 7293034; omega) (fun h => nomatch h) (fun v n9 f9 hE => ?_)
  obtain ⟨rfl, rfl, rfl⟩ := hE
  refine qr_pop (pc := 488) d_lw_law_488 rfl ?_
  refine qr_aload_n (pc := 489) d_lw_law_489 rfl rfl ?_
  refine qr_callV (q := 47) (As := []) (pc := 490) d_lw_law_490 lk_lw_116 im_md_run se_md_run rfl (by decide) (by decide) (c_47 _ _) hM rfl rfl (Nat.le_of_ble_eq_true rfl) (Nat.le_of_ble_eq_true rfl) (Nat.le_of_ble_eq_true rfl) (by show kc + 0 + 0 ≤ 601024; omega) (by show ks + 0 + 0 ≤ 7293034; omega) (fun h => nomatch h) (fun v n9 f9 hE => ?_)
  obtain ⟨rfl, rfl, rfl⟩ := hE
  refine qr_pop (pc := 493) d_lw_law_493 rfl ?_
  refine qr_goto (tgt := 869) (pc := 494) d_lw_law_494 (by decide) ?_
  exact kk _ _ hp
set_option maxRecDepth 10000 in
theorem lc_pay {l : Launch} {b Ln : Nat} {xs : Nat → Int32} {E : qE} {X : qXC} {a kc ks : Nat} {I : Nat → Nat → Int32} {L : Nat → Nat → Int64} (ha : a + 5 ≤ Ln) (hLn : Ln < 2 ^ 31) (hkc : kc + 1 ≤ 601024) (hks : ks + 6 ≤ 7293034) (Post : (Nat → Nat → Int32) → (Nat → Nat → Int64) → Prop) {Ew : qE} (hW : qSpW l y_lw_pay b_lw_pay 6 (some .int) hh_pay 10 1 6 [.ref 0, .int (xs (a + 1)), .long (lwJ (xs (a + 2)) (xs (a + 3))), .ref 76] 77 (fm I L) Ew) (hM : ∀ v n f, Ew v n f → ∃ (k9 : Int32) (I1 : Nat → Nat → Int32) (L1 : Nat → Nat → Int64) (b9 : Int64) (I2 : Nat → Nat → Int32) (L2 : Nat → Nat → Int64), some (.int k9) = v ∧ 77 = n ∧ fm I1 L1 = f ∧ qSp l y_md_pay b_md_pay 6 (some .long) false 4 0 0 [.ref 47, .int (xs (a + 1)), .long (lwJ (xs (a + 2)) (xs (a + 3)))] 77 (fm I1 L1) (qD (some (.long b9)) 77 (fm I2 L2)) ∧ Post I2 L2) (kk : ∀ I2 L2, Post I2 L2 → qR (qKL l b Ln xs) E X 869 (lwV a) [] 77 (kc + 1) (ks + 6) (fm I2 L2)) : qR (qKL l b Ln xs) E X 497 (lwV a) [] 77 kc ks (fm I L) := by
  refine qr_aload_n (pc := 497) d_lw_law_497 rfl rfl ?_
  refine qr_aload_n (pc := 498) d_lw_law_498 rfl rfl ?_
  refine qr_iload (pc := 499) d_lw_law_499 rfl ?_
  refine qr_iconst (v := 1) (pc := 501) d_lw_law_501 (by decide) ?_
  refine qr_iadd (pc := 502) d_lw_law_502 ?_
  refine qR_st (st' := [.int (nI (a + 1)), .ref 77, .ref 0]) rfl (by rw [nI_1] <;> rfl) rfl ?_
  refine qr_sldN (j := (a + 1)) (fun _ _ _ _ h => h) (pc := 503) d_lw_law_503 (by omega) hLn ?_
  refine qr_aload_n (pc := 504) d_lw_law_504 rfl rfl ?_
  refine qr_iload (pc := 505) d_lw_law_505 rfl ?_
  refine qr_iconst (v := 2) (pc := 507) d_lw_law_507 (by decide) ?_
  refine qr_iadd (pc := 508) d_lw_law_508 ?_
  refine qR_st (st' := [.int (nI (a + 2)), .ref 77, .int (xs (a + 1)), .ref 0]) rfl (by rw [nI_p2] <;> rfl) rfl ?_
  refine qr_sldN (j := (a + 2)) (fun _ _ _ _ h => h) (pc := 509) d_lw_law_509 (by omega) hLn ?_
  refine qr_i2l (pc := 510) d_lw_law_510 ?_
  refine qr_bipush (v := 32) (pc := 511) d_lw_law_511 (by decide) ?_
  refine qr_lshl (pc := 513) d_lw_law_513 ?_
  refine qr_aload_n (pc := 514) d_lw_law_514 rfl rfl ?_
  refine qr_iload (pc := 515) d_lw_law_515 rfl ?_
  refine qr_iconst (v := 3) (pc := 517) d_lw_law_517 (by decide) ?_
  refine qr_iadd (pc := 518) d_lw_law_518 ?_
  refine qR_st (st' := [.int (nI (a + 3)), .ref 77, .long ((Int32.toInt64 (xs (a + 2))) <<< ((Int32.toInt64 32) &&& 63)), .int (xs (a + 1)), .ref 0]) rfl (by rw [nI_p3] <;> rfl) rfl ?_
  refine qr_sldN (j := (a + 3)) (fun _ _ _ _ h => h) (pc := 519) d_lw_law_519 (by omega) hLn ?_
  refine qr_i2l (pc := 520) d_lw_law_520 ?_
  refine qr_ldc2 (v := 4294967295) (pc := 521) d_lw_law_521 kl_lw_75 ?_
  refine qr_land (pc := 524) d_lw_law_524 ?_
  refine qr_lor (pc := 525) d_lw_law_525 ?_
  refine qR_st (st' := [.long (lwJ (xs (a + 2)) (xs (a + 3))), .int (xs (a + 1)), .ref 0]) rfl rfl rfl ?_
  refine qr_aload_n (pc := 526) d_lw_law_526 rfl rfl ?_
  refine qr_callSW (hh := hh_pay) (na := 4) (As := [.ref 0, .int (xs (a + 1)), .long (lwJ (xs (a + 2)) (xs (a + 3))), .ref 76]) (pc := 527) d_lw_law_527 lk_lw_117 ii_lw cw_pay ⟨by decide, by decide⟩ (by decide +kernel) sm_lw_pay hW rfl rfl (Nat.le_of_ble_eq_true rfl) (Nat.le_of_ble_eq_true rfl) (Nat.le_of_ble_eq_true rfl) hkc hks (fun v n9 f9 hE => ?_)
  obtain ⟨k9, I1, L1, b9, I2, L2, rfl, rfl, rfl, hm, hpost⟩ := hM _ _ _ hE
  refine qr_istore (lv' := [(5, .int k9), (0, .ref 77), (1, .ref 0), (2, .ref 47), (3, .ref 76), (4, .int (nI a))]) (pc := 530) d_lw_law_530 (Nat.le_of_ble_eq_true rfl) rfl ?_
  refine qr_aload_n (pc := 532) d_lw_law_532 rfl rfl ?_
  refine qr_aload_n (pc := 533) d_lw_law_533 rfl rfl ?_
  refine qr_iload (pc := 534) d_lw_law_534 rfl ?_
  refine qr_iconst (v := 1) (pc := 536) d_lw_law_536 (by decide) ?_
  refine qr_iadd (pc := 537) d_lw_law_537 ?_
  refine qR_st (st' := [.int (nI (a + 1)), .ref 77, .ref 47]) rfl (by rw [nI_1] <;> rfl) rfl ?_
  refine qr_sldN (j := (a + 1)) (fun _ _ _ _ h => h) (pc := 538) d_lw_law_538 (by omega) hLn ?_
  refine qr_aload_n (pc := 539) d_lw_law_539 rfl rfl ?_
  refine qr_iload (pc := 540) d_lw_law_540 rfl ?_
  refine qr_iconst (v := 2) (pc := 542) d_lw_law_542 (by decide) ?_
  refine qr_iadd (pc := 543) d_lw_law_543 ?_
  refine qR_st (st' := [.int (nI (a + 2)), .ref 77, .int (xs (a + 1)), .ref 47]) rfl (by rw [nI_p2] <;> rfl) rfl ?_
  refine qr_sldN (j := (a + 2)) (fun _ _ _ _ h => h) (pc := 544) d_lw_law_544 (by omega) hLn ?_
  refine qr_i2l (pc := 545) d_lw_law_545 ?_
  refine qr_bipush (v := 32) (pc := 546) d_lw_law_546 (by decide) ?_
  refine qr_lshl (pc := 548) d_lw_law_548 ?_
  refine qr_aload_n (pc := 549) d_lw_law_549 rfl rfl ?_
  refine qr_iload (pc := 550) d_lw_law_550 rfl ?_
  refine qr_iconst (v := 3) (pc := 552) d_lw_law_552 (by decide) ?_
  refine qr_iadd (pc := 553) d_lw_law_553 ?_
  refine qR_st (st' := [.int (nI (a + 3)), .ref 77, .long ((Int32.toInt64 (xs (a + 2))) <<< ((Int32.toInt64 32) &&& 63)), .int (xs (a + 1)), .ref 47]) rfl (by rw [nI_p3] <;> rfl) rfl ?_
  refine qr_sldN (j := (a + 3)) (fun _ _ _ _ h => h) (pc := 554) d_lw_law_554 (by omega) hLn ?_
  refine qr_i2l (pc := 555) d_lw_law_555 ?_
  refine qr_ldc2 (v := 4294967295) (pc := 556) d_lw_law_556 kl_lw_75 ?_
  refine qr_land (pc := 559) d_lw_law_559 ?_
  refine qr_lor (pc := 560) d_lw_law_560 ?_
  refine qR_st (st' := [.long (lwJ (xs (a + 2)) (xs (a + 3))), .int (xs (a + 1)), .ref 47]) rfl rfl rfl ?_
  refine qr_callV (q := 47) (As := [.int (xs (a + 1)), .long (lwJ (xs (a + 2)) (xs (a + 3)))]) (pc := 561) d_lw_law_561 lk_lw_120 im_md_pay se_md_pay rfl (by decide) (by decide) (c_47 _ _) hm rfl rfl (Nat.le_of_ble_eq_true rfl) (Nat.le_of_ble_eq_true rfl) (Nat.le_of_ble_eq_true rfl) (by show kc + 1 + 0 ≤ 601024; omega) (by show ks + 6 + 0 ≤ 7293034; omega) (fun h => nomatch h) (fun v n9 f9 hE9 => ?_)
  obtain ⟨rfl, rfl, rfl⟩ := hE9
  refine qr_lstore (lv' := [(6, .long b9), (5, .int k9), (0, .ref 77), (1, .ref 0), (2, .ref 47), (3, .ref 76), (4, .int (nI a))]) (pc := 564) d_lw_law_564 (Nat.le_of_ble_eq_true rfl) rfl ?_
  refine qr_goto (tgt := 869) (pc := 566) d_lw_law_566 (by decide) ?_
  refine qR_sub (lv' := lwV a) [2, 3, 4, 5, 6] rfl ?_
  exact kk _ _ hpost
set_option maxRecDepth 10000 in
theorem lc_plan {l : Launch} {b Ln : Nat} {xs : Nat → Int32} {E : qE} {X : qXC} {a kc ks : Nat} {I : Nat → Nat → Int32} {L : Nat → Nat → Int64} (ha : a + 5 ≤ Ln) (hLn : Ln < 2 ^ 31) (hkc : kc + 1 ≤ 601024) (hks : ks + 6 ≤ 7293034) (Post : (Nat → Nat → Int32) → (Nat → Nat → Int64) → Prop) {Ew : qE} (hW : qSpW l y_lw_plan b_lw_plan 7 (some .int) hh_plan 10 1 6 [.ref 0, .int (xs (a + 1)), .long (lwJ (xs (a + 2)) (xs (a + 3))), .int (xs (a + 4)), .ref 76] 77 (fm I L) Ew) (hM : ∀ v n f, Ew v n f → ∃ (k9 : Int32) (I1 : Nat → Nat → Int32) (L1 : Nat → Nat → Int64) (b9 : Int32) (I2 : Nat → Nat → Int32) (L2 : Nat → Nat → Int64), some (.int k9) = v ∧ 77 = n ∧ fm I1 L1 = f ∧ qSp l y_md_plan b_md_plan 5 (some .int) false 2 0 0 [.ref 47, .int (xs (a + 1)), .long (lwJ (xs (a + 2)) (xs (a + 3))), .int (xs (a + 4))] 77 (fm I1 L1) (qD (some (.int b9)) 77 (fm I2 L2)) ∧ Post I2 L2) (kk : ∀ I2 L2, Post I2 L2 → qR (qKL l b Ln xs) E X 869 (lwV a) [] 77 (kc + 1) (ks + 6) (fm I2 L2)) : qR (qKL l b Ln xs) E X 569 (lwV a) [] 77 kc ks (fm I L) := by
  refine qr_aload_n (pc := 569) d_lw_law_569 rfl rfl ?_
  refine qr_aload_n (pc := 570) d_lw_law_570 rfl rfl ?_
  refine qr_iload (pc := 571) d_lw_law_571 rfl ?_
  refine qr_iconst (v := 1) (pc := 573) d_lw_law_573 (by decide) ?_
  refine qr_iadd (pc := 574) d_lw_law_574 ?_
  refine qR_st (st' := [.int (nI (a + 1)), .ref 77, .ref 0]) rfl (by rw [nI_1] <;> rfl) rfl ?_
  refine qr_sldN (j := (a + 1)) (fun _ _ _ _ h => h) (pc := 575) d_lw_law_575 (by omega) hLn ?_
  refine qr_aload_n (pc := 576) d_lw_law_576 rfl rfl ?_
  refine qr_iload (pc := 577) d_lw_law_577 rfl ?_
  refine qr_iconst (v := 2) (pc := 579) d_lw_law_579 (by decide) ?_
  refine qr_iadd (pc := 580) d_lw_law_580 ?_
  refine qR_st (st' := [.int (nI (a + 2)), .ref 77, .int (xs (a + 1)), .ref 0]) rfl (by rw [nI_p2] <;> rfl) rfl ?_
  refine qr_sldN (j := (a + 2)) (fun _ _ _ _ h => h) (pc := 581) d_lw_law_581 (by omega) hLn ?_
  refine qr_i2l (pc := 582) d_lw_law_582 ?_
  refine qr_bipush (v := 32) (pc := 583) d_lw_law_583 (by decide) ?_
  refine qr_lshl (pc := 585) d_lw_law_585 ?_
  refine qr_aload_n (pc := 586) d_lw_law_586 rfl rfl ?_
  refine qr_iload (pc := 587) d_lw_law_587 rfl ?_
  refine qr_iconst (v := 3) (pc := 589) d_lw_law_589 (by decide) ?_
  refine qr_iadd (pc := 590) d_lw_law_590 ?_
  refine qR_st (st' := [.int (nI (a + 3)), .ref 77, .long ((Int32.toInt64 (xs (a + 2))) <<< ((Int32.toInt64 32) &&& 63)), .int (xs (a + 1)), .ref 0]) rfl (by rw [nI_p3] <;> rfl) rfl ?_
  refine qr_sldN (j := (a + 3)) (fun _ _ _ _ h => h) (pc := 591) d_lw_law_591 (by omega) hLn ?_
  refine qr_i2l (pc := 592) d_lw_law_592 ?_
  refine qr_ldc2 (v := 4294967295) (pc := 593) d_lw_law_593 kl_lw_75 ?_
  refine qr_land (pc := 596) d_lw_law_596 ?_
  refine qr_lor (pc := 597) d_lw_law_597 ?_
  refine qR_st (st' := [.long (lwJ (xs (a + 2)) (xs (a + 3))), .int (xs (a + 1)), .ref 0]) rfl rfl rfl ?_
  refine qr_aload_n (pc := 598) d_lw_law_598 rfl rfl ?_
  refine qr_iload (pc := 599) d_lw_law_599 rfl ?_
  refine qr_iconst (v := 4) (pc := 601) d_lw_law_601 (by decide) ?_
  refine qr_iadd (pc := 602) d_lw_law_602 ?_
  refine qR_st (st' := [.int (nI (a + 4)), .ref 77, .long (lwJ (xs (a + 2)) (xs (a + 3))), .int (xs (a + 1)), .ref 0]) rfl (by rw [nI_p4] <;> rfl) rfl ?_
  refine qr_sldN (j := (a + 4)) (fun _ _ _ _ h => h) (pc := 603) d_lw_law_603 (by omega) hLn ?_
  refine qr_aload_n (pc := 604) d_lw_law_604 rfl rfl ?_
  refine qr_callSW (hh := hh_plan) (na := 5) (As := [.ref 0, .int (xs (a + 1)), .long (lwJ (xs (a + 2)) (xs (a + 3))), .int (xs (a + 4)), .ref 76]) (pc := 605) d_lw_law_605 lk_lw_121 ii_lw cw_plan ⟨by decide, by decide⟩ (by decide +kernel) sm_lw_plan hW rfl rfl (Nat.le_of_ble_eq_true rfl) (Nat.le_of_ble_eq_true rfl) (Nat.le_of_ble_eq_true rfl) hkc hks (fun v n9 f9 hE => ?_)
  obtain ⟨k9, I1, L1, b9, I2, L2, rfl, rfl, rfl, hm, hpost⟩ := hM _ _ _ hE
  refine qr_istore (lv' := [(5, .int k9), (0, .ref 77), (1, .ref 0), (2, .ref 47), (3, .ref 76), (4, .int (nI a))]) (pc := 608) d_lw_law_608 (Nat.le_of_ble_eq_true rfl) rfl ?_
  refine qr_aload_n (pc := 610) d_lw_law_610 rfl rfl ?_
  refine qr_aload_n (pc := 611) d_lw_law_611 rfl rfl ?_
  refine qr_iload (pc := 612) d_lw_law_612 rfl ?_
  refine qr_iconst (v := 1) (pc := 614) d_lw_law_614 (by decide) ?_
  refine qr_iadd (pc := 615) d_lw_law_615 ?_
  refine qR_st (st' := [.int (nI (a + 1)), .ref 77, .ref 47]) rfl (by rw [nI_1] <;> rfl) rfl ?_
  refine qr_sldN (j := (a + 1)) (fun _ _ _ _ h => h) (pc := 616) d_lw_law_616 (by omega) hLn ?_
  refine qr_aload_n (pc := 617) d_lw_law_617 rfl rfl ?_
  refine qr_iload (pc := 618) d_lw_law_618 rfl ?_
  refine qr_iconst (v := 2) (pc := 620) d_lw_law_620 (by decide) ?_
  refine qr_iadd (pc := 621) d_lw_law_621 ?_
  refine qR_st (st' := [.int (nI (a + 2)), .ref 77, .int (xs (a + 1)), .ref 47]) rfl (by rw [nI_p2] <;> rfl) rfl ?_
  refine qr_sldN (j := (a + 2)) (fun _ _ _ _ h => h) (pc := 622) d_lw_law_622 (by omega) hLn ?_
  refine qr_i2l (pc := 623) d_lw_law_623 ?_
  refine qr_bipush (v := 32) (pc := 624) d_lw_law_624 (by decide) ?_
  refine qr_lshl (pc := 626) d_lw_law_626 ?_
  refine qr_aload_n (pc := 627) d_lw_law_627 rfl rfl ?_
  refine qr_iload (pc := 628) d_lw_law_628 rfl ?_
  refine qr_iconst (v := 3) (pc := 630) d_lw_law_630 (by decide) ?_
  refine qr_iadd (pc := 631) d_lw_law_631 ?_
  refine qR_st (st' := [.int (nI (a + 3)), .ref 77, .long ((Int32.toInt64 (xs (a + 2))) <<< ((Int32.toInt64 32) &&& 63)), .int (xs (a + 1)), .ref 47]) rfl (by rw [nI_p3] <;> rfl) rfl ?_
  refine qr_sldN (j := (a + 3)) (fun _ _ _ _ h => h) (pc := 632) d_lw_law_632 (by omega) hLn ?_
  refine qr_i2l (pc := 633) d_lw_law_633 ?_
  refine qr_ldc2 (v := 4294967295) (pc := 634) d_lw_law_634 kl_lw_75 ?_
  refine qr_land (pc := 637) d_lw_law_637 ?_
  refine qr_lor (pc := 638) d_lw_law_638 ?_
  refine qR_st (st' := [.long (lwJ (xs (a + 2)) (xs (a + 3))), .int (xs (a + 1)), .ref 47]) rfl rfl rfl ?_
  refine qr_aload_n (pc := 639) d_lw_law_639 rfl rfl ?_
  refine qr_iload (pc := 640) d_lw_law_640 rfl ?_
  refine qr_iconst (v := 4) (pc := 642) d_lw_law_642 (by decide) ?_
  refine qr_iadd (pc := 643) d_lw_law_643 ?_
  refine qR_st (st' := [.int (nI (a + 4)), .ref 77, .long (lwJ (xs (a + 2)) (xs (a + 3))), .int (xs (a + 1)), .ref 47]) rfl (by rw [nI_p4] <;> rfl) rfl ?_
  refine qr_sldN (j := (a + 4)) (fun _ _ _ _ h => h) (pc := 644) d_lw_law_644 (by omega) hLn ?_
  refine qr_callV (q := 47) (As := [.int (xs (a + 1)), .long (lwJ (xs (a + 2)) (xs (a + 3))), .int (xs (a + 4))]) (pc := 645) d_lw_law_645 lk_lw_124 im_md_plan se_md_plan rfl (by decide) (by decide) (c_47 _ _) hm rfl rfl (Nat.le_of_ble_eq_true rfl) (Nat.le_of_ble_eq_true rfl) (Nat.le_of_ble_eq_true rfl) (by show kc + 1 + 0 ≤ 601024; omega) (by show ks + 6 + 0 ≤ 7293034; omega) (fun h => nomatch h) (fun v n9 f9 hE9 => ?_)
  obtain ⟨rfl, rfl, rfl⟩ := hE9
  refine qr_istore (lv' := [(6, .int b9), (5, .int k9), (0, .ref 77), (1, .ref 0), (2, .ref 47), (3, .ref 76), (4, .int (nI a))]) (pc := 648) d_lw_law_648 (Nat.le_of_ble_eq_true rfl) rfl ?_
  refine qr_goto (tgt := 869) (pc := 650) d_lw_law_650 (by decide) ?_
  refine qR_sub (lv' := lwV a) [2, 3, 4, 5, 6] rfl ?_
  exact kk _ _ hpost
set_option maxRecDepth 10000 in
theorem lc_charge {l : Launch} {b Ln : Nat} {xs : Nat → Int32} {E : qE} {X : qXC} {a kc ks : Nat} {I : Nat → Nat → Int32} {L : Nat → Nat → Int64} (ha : a + 5 ≤ Ln) (hLn : Ln < 2 ^ 31) (hkc : kc + 1 ≤ 601024) (hks : ks + 6 ≤ 7293034) (Post : (Nat → Nat → Int32) → (Nat → Nat → Int64) → Prop) {Ew : qE} (hW : qSpW l y_lw_charge b_lw_charge 5 (some .int) hh_charge 10 1 6 [.ref 0, .int (xs (a + 1)), .int (xs (a + 2)), .ref 76] 77 (fm I L) Ew) (hM : ∀ v n f, Ew v n f → ∃ (k9 : Int32) (I1 : Nat → Nat → Int32) (L1 : Nat → Nat → Int64) (b9 : Int64) (I2 : Nat → Nat → Int32) (L2 : Nat → Nat → Int64), some (.int k9) = v ∧ 77 = n ∧ fm I1 L1 = f ∧ qSp l y_md_charge b_md_charge 3 (some .long) false 5 0 0 [.ref 47, .int (xs (a + 1)), .int (xs (a + 2))] 77 (fm I1 L1) (qD (some (.long b9)) 77 (fm I2 L2)) ∧ Post I2 L2) (kk : ∀ I2 L2, Post I2 L2 → qR (qKL l b Ln xs) E X 869 (lwV a) [] 77 (kc + 1) (ks + 6) (fm I2 L2)) : qR (qKL l b Ln xs) E X 653 (lwV a) [] 77 kc ks (fm I L) := by
  refine qr_aload_n (pc := 653) d_lw_law_653 rfl rfl ?_
  refine qr_aload_n (pc := 654) d_lw_law_654 rfl rfl ?_
  refine qr_iload (pc := 655) d_lw_law_655 rfl ?_
  refine qr_iconst (v := 1) (pc := 657) d_lw_law_657 (by decide) ?_
  refine qr_iadd (pc := 658) d_lw_law_658 ?_
  refine qR_st (st' := [.int (nI (a + 1)), .ref 77, .ref 0]) rfl (by rw [nI_1] <;> rfl) rfl ?_
  refine qr_sldN (j := (a + 1)) (fun _ _ _ _ h => h) (pc := 659) d_lw_law_659 (by omega) hLn ?_
  refine qr_aload_n (pc := 660) d_lw_law_660 rfl rfl ?_
  refine qr_iload (pc := 661) d_lw_law_661 rfl ?_
  refine qr_iconst (v := 2) (pc := 663) d_lw_law_663 (by decide) ?_
  refine qr_iadd (pc := 664) d_lw_law_664 ?_
  refine qR_st (st' := [.int (nI (a + 2)), .ref 77, .int (xs (a + 1)), .ref 0]) rfl (by rw [nI_p2] <;> rfl) rfl ?_
  refine qr_sldN (j := (a + 2)) (fun _ _ _ _ h => h) (pc := 665) d_lw_law_665 (by omega) hLn ?_
  refine qr_aload_n (pc := 666) d_lw_law_666 rfl rfl ?_
  refine qr_callSW (hh := hh_charge) (na := 4) (As := [.ref 0, .int (xs (a + 1)), .int (xs (a + 2)), .ref 76]) (pc := 667) d_lw_law_667 lk_lw_125 ii_lw cw_charge ⟨by decide, by decide⟩ (by decide +kernel) sm_lw_charge hW rfl rfl (Nat.le_of_ble_eq_true rfl) (Nat.le_of_ble_eq_true rfl) (Nat.le_of_ble_eq_true rfl) hkc hks (fun v n9 f9 hE => ?_)
  obtain ⟨k9, I1, L1, b9, I2, L2, rfl, rfl, rfl, hm, hpost⟩ := hM _ _ _ hE
  refine qr_istore (lv' := [(5, .int k9), (0, .ref 77), (1, .ref 0), (2, .ref 47), (3, .ref 76), (4, .int (nI a))]) (pc := 670) d_lw_law_670 (Nat.le_of_ble_eq_true rfl) rfl ?_
  refine qr_aload_n (pc := 672) d_lw_law_672 rfl rfl ?_
  refine qr_aload_n (pc := 673) d_lw_law_673 rfl rfl ?_
  refine qr_iload (pc := 674) d_lw_law_674 rfl ?_
  refine qr_iconst (v := 1) (pc := 676) d_lw_law_676 (by decide) ?_
  refine qr_iadd (pc := 677) d_lw_law_677 ?_
  refine qR_st (st' := [.int (nI (a + 1)), .ref 77, .ref 47]) rfl (by rw [nI_1] <;> rfl) rfl ?_
  refine qr_sldN (j := (a + 1)) (fun _ _ _ _ h => h) (pc := 678) d_lw_law_678 (by omega) hLn ?_
  refine qr_aload_n (pc := 679) d_lw_law_679 rfl rfl ?_
  refine qr_iload (pc := 680) d_lw_law_680 rfl ?_
  refine qr_iconst (v := 2) (pc := 682) d_lw_law_682 (by decide) ?_
  refine qr_iadd (pc := 683) d_lw_law_683 ?_
  refine qR_st (st' := [.int (nI (a + 2)), .ref 77, .int (xs (a + 1)), .ref 47]) rfl (by rw [nI_p2] <;> rfl) rfl ?_
  refine qr_sldN (j := (a + 2)) (fun _ _ _ _ h => h) (pc := 684) d_lw_law_684 (by omega) hLn ?_
  refine qr_callV (q := 47) (As := [.int (xs (a + 1)), .int (xs (a + 2))]) (pc := 685) d_lw_law_685 lk_lw_127 im_md_charge se_md_charge rfl (by decide) (by decide) (c_47 _ _) hm rfl rfl (Nat.le_of_ble_eq_true rfl) (Nat.le_of_ble_eq_true rfl) (Nat.le_of_ble_eq_true rfl) (by show kc + 1 + 0 ≤ 601024; omega) (by show ks + 6 + 0 ≤ 7293034; omega) (fun h => nomatch h) (fun v n9 f9 hE9 => ?_)
  obtain ⟨rfl, rfl, rfl⟩ := hE9
  refine qr_lstore (lv' := [(6, .long b9), (5, .int k9), (0, .ref 77), (1, .ref 0), (2, .ref 47), (3, .ref 76), (4, .int (nI a))]) (pc := 688) d_lw_law_688 (Nat.le_of_ble_eq_true rfl) rfl ?_
  refine qr_goto (tgt := 869) (pc := 690) d_lw_law_690 (by decide) ?_
  refine qR_sub (lv' := lwV a) [2, 3, 4, 5, 6] rfl ?_
  exact kk _ _ hpost
set_option maxRecDepth 10000 in
theorem lc_invoice {l : Launch} {b Ln : Nat} {xs : Nat → Int32} {E : qE} {X : qXC} {a kc ks : Nat} {I : Nat → Nat → Int32} {L : Nat → Nat → Int64} (ha : a + 5 ≤ Ln) (hLn : Ln < 2 ^ 31) (hkc : kc + 1 ≤ 601024) (hks : ks + 6 ≤ 7293034) (Post : (Nat → Nat → Int32) → (Nat → Nat → Int64) → Prop) {Ew : qE} (hW : qSpW l y_lw_invoice b_lw_invoice 5 (some .int) hh_invoice 10 1 6 [.ref 0, .int (xs (a + 1)), .int (xs (a + 2)), .ref 76] 77 (fm I L) Ew) (hM : ∀ v n f, Ew v n f → ∃ (k9 : Int32) (I1 : Nat → Nat → Int32) (L1 : Nat → Nat → Int64) (b9 : Int64) (I2 : Nat → Nat → Int32) (L2 : Nat → Nat → Int64), some (.int k9) = v ∧ 77 = n ∧ fm I1 L1 = f ∧ qSp l y_md_invoice b_md_invoice 3 (some .long) false 2 0 0 [.ref 47, .int (xs (a + 1)), .int (xs (a + 2))] 77 (fm I1 L1) (qD (some (.long b9)) 77 (fm I2 L2)) ∧ Post I2 L2) (kk : ∀ I2 L2, Post I2 L2 → qR (qKL l b Ln xs) E X 869 (lwV a) [] 77 (kc + 1) (ks + 6) (fm I2 L2)) : qR (qKL l b Ln xs) E X 693 (lwV a) [] 77 kc ks (fm I L) := by
  refine qr_aload_n (pc := 693) d_lw_law_693 rfl rfl ?_
  refine qr_aload_n (pc := 694) d_lw_law_694 rfl rfl ?_
  refine qr_iload (pc := 695) d_lw_law_695 rfl ?_
  refine qr_iconst (v := 1) (pc := 697) d_lw_law_697 (by decide) ?_
  refine qr_iadd (pc := 698) d_lw_law_698 ?_
  refine qR_st (st' := [.int (nI (a + 1)), .ref 77, .ref 0]) rfl (by rw [nI_1] <;> rfl) rfl ?_
  refine qr_sldN (j := (a + 1)) (fun _ _ _ _ h => h) (pc := 699) d_lw_law_699 (by omega) hLn ?_
  refine qr_aload_n (pc := 700) d_lw_law_700 rfl rfl ?_
  refine qr_iload (pc := 701) d_lw_law_701 rfl ?_
  refine qr_iconst (v := 2) (pc := 703) d_lw_law_703 (by decide) ?_
  refine qr_iadd (pc := 704) d_lw_law_704 ?_
  refine qR_st (st' := [.int (nI (a + 2)), .ref 77, .int (xs (a + 1)), .ref 0]) rfl (by rw [nI_p2] <;> rfl) rfl ?_
  refine qr_sldN (j := (a + 2)) (fun _ _ _ _ h => h) (pc := 705) d_lw_law_705 (by omega) hLn ?_
  refine qr_aload_n (pc := 706) d_lw_law_706 rfl rfl ?_
  refine qr_callSW (hh := hh_invoice) (na := 4) (As := [.ref 0, .int (xs (a + 1)), .int (xs (a + 2)), .ref 76]) (pc := 707) d_lw_law_707 lk_lw_128 ii_lw cw_invoice ⟨by decide, by decide⟩ (by decide +kernel) sm_lw_invoice hW rfl rfl (Nat.le_of_ble_eq_true rfl) (Nat.le_of_ble_eq_true rfl) (Nat.le_of_ble_eq_true rfl) hkc hks (fun v n9 f9 hE => ?_)
  obtain ⟨k9, I1, L1, b9, I2, L2, rfl, rfl, rfl, hm, hpost⟩ := hM _ _ _ hE
  refine qr_istore (lv' := [(5, .int k9), (0, .ref 77), (1, .ref 0), (2, .ref 47), (3, .ref 76), (4, .int (nI a))]) (pc := 710) d_lw_law_710 (Nat.le_of_ble_eq_true rfl) rfl ?_
  refine qr_aload_n (pc := 712) d_lw_law_712 rfl rfl ?_
  refine qr_aload_n (pc := 713) d_lw_law_713 rfl rfl ?_
  refine qr_iload (pc := 714) d_lw_law_714 rfl ?_
  refine qr_iconst (v := 1) (pc := 716) d_lw_law_716 (by decide) ?_
  refine qr_iadd (pc := 717) d_lw_law_717 ?_
  refine qR_st (st' := [.int (nI (a + 1)), .ref 77, .ref 47]) rfl (by rw [nI_1] <;> rfl) rfl ?_
  refine qr_sldN (j := (a + 1)) (fun _ _ _ _ h => h) (pc := 718) d_lw_law_718 (by omega) hLn ?_
  refine qr_aload_n (pc := 719) d_lw_law_719 rfl rfl ?_
  refine qr_iload (pc := 720) d_lw_law_720 rfl ?_
  refine qr_iconst (v := 2) (pc := 722) d_lw_law_722 (by decide) ?_
  refine qr_iadd (pc := 723) d_lw_law_723 ?_
  refine qR_st (st' := [.int (nI (a + 2)), .ref 77, .int (xs (a + 1)), .ref 47]) rfl (by rw [nI_p2] <;> rfl) rfl ?_
  refine qr_sldN (j := (a + 2)) (fun _ _ _ _ h => h) (pc := 724) d_lw_law_724 (by omega) hLn ?_
  refine qr_callV (q := 47) (As := [.int (xs (a + 1)), .int (xs (a + 2))]) (pc := 725) d_lw_law_725 lk_lw_130 im_md_invoice se_md_invoice rfl (by decide) (by decide) (c_47 _ _) hm rfl rfl (Nat.le_of_ble_eq_true rfl) (Nat.le_of_ble_eq_true rfl) (Nat.le_of_ble_eq_true rfl) (by show kc + 1 + 0 ≤ 601024; omega) (by show ks + 6 + 0 ≤ 7293034; omega) (fun h => nomatch h) (fun v n9 f9 hE9 => ?_)
  obtain ⟨rfl, rfl, rfl⟩ := hE9
  refine qr_lstore (lv' := [(6, .long b9), (5, .int k9), (0, .ref 77), (1, .ref 0), (2, .ref 47), (3, .ref 76), (4, .int (nI a))]) (pc := 728) d_lw_law_728 (Nat.le_of_ble_eq_true rfl) rfl ?_
  refine qr_goto (tgt := 869) (pc := 730) d_lw_law_730 (by decide) ?_
  refine qR_sub (lv' := lwV a) [2, 3, 4, 5, 6] rfl ?_
  exact kk _ _ hpost
set_option maxRecDepth 10000 in
theorem lc_told {l : Launch} {b Ln : Nat} {xs : Nat → Int32} {E : qE} {X : qXC} {a kc ks : Nat} {I : Nat → Nat → Int32} {L : Nat → Nat → Int64} (ha : a + 5 ≤ Ln) (hLn : Ln < 2 ^ 31) (hkc : kc + 1 ≤ 601024) (hks : ks + 6 ≤ 7293034) (Post : (Nat → Nat → Int32) → (Nat → Nat → Int64) → Prop) {Ew : qE} (hW : qSpW l y_lw_told b_lw_told 5 (some .int) hh_told 10 1 6 [.ref 0, .int (xs (a + 1)), .int (xs (a + 2)), .ref 76] 77 (fm I L) Ew) (hM : ∀ v n f, Ew v n f → ∃ (k9 : Int32) (I1 : Nat → Nat → Int32) (L1 : Nat → Nat → Int64) (b9 : Int64) (I2 : Nat → Nat → Int32) (L2 : Nat → Nat → Int64), some (.int k9) = v ∧ 77 = n ∧ fm I1 L1 = f ∧ qSp l y_md_told b_md_told 6 (some .long) false 2 0 0 [.ref 47, .int (xs (a + 1)), .int (xs (a + 2))] 77 (fm I1 L1) (qD (some (.long b9)) 77 (fm I2 L2)) ∧ Post I2 L2) (kk : ∀ I2 L2, Post I2 L2 → qR (qKL l b Ln xs) E X 869 (lwV a) [] 77 (kc + 1) (ks + 6) (fm I2 L2)) : qR (qKL l b Ln xs) E X 733 (lwV a) [] 77 kc ks (fm I L) := by
  refine qr_aload_n (pc := 733) d_lw_law_733 rfl rfl ?_
  refine qr_aload_n (pc := 734) d_lw_law_734 rfl rfl ?_
  refine qr_iload (pc := 735) d_lw_law_735 rfl ?_
  refine qr_iconst (v := 1) (pc := 737) d_lw_law_737 (by decide) ?_
  refine qr_iadd (pc := 738) d_lw_law_738 ?_
  refine qR_st (st' := [.int (nI (a + 1)), .ref 77, .ref 0]) rfl (by rw [nI_1] <;> rfl) rfl ?_
  refine qr_sldN (j := (a + 1)) (fun _ _ _ _ h => h) (pc := 739) d_lw_law_739 (by omega) hLn ?_
  refine qr_aload_n (pc := 740) d_lw_law_740 rfl rfl ?_
  refine qr_iload (pc := 741) d_lw_law_741 rfl ?_
  refine qr_iconst (v := 2) (pc := 743) d_lw_law_743 (by decide) ?_
  refine qr_iadd (pc := 744) d_lw_law_744 ?_
  refine qR_st (st' := [.int (nI (a + 2)), .ref 77, .int (xs (a + 1)), .ref 0]) rfl (by rw [nI_p2] <;> rfl) rfl ?_
  refine qr_sldN (j := (a + 2)) (fun _ _ _ _ h => h) (pc := 745) d_lw_law_745 (by omega) hLn ?_
  refine qr_aload_n (pc := 746) d_lw_law_746 rfl rfl ?_
  refine qr_callSW (hh := hh_told) (na := 4) (As := [.ref 0, .int (xs (a + 1)), .int (xs (a + 2)), .ref 76]) (pc := 747) d_lw_law_747 lk_lw_131 ii_lw cw_told ⟨by decide, by decide⟩ (by decide +kernel) sm_lw_told hW rfl rfl (Nat.le_of_ble_eq_true rfl) (Nat.le_of_ble_eq_true rfl) (Nat.le_of_ble_eq_true rfl) hkc hks (fun v n9 f9 hE => ?_)
  obtain ⟨k9, I1, L1, b9, I2, L2, rfl, rfl, rfl, hm, hpost⟩ := hM _ _ _ hE
  refine qr_istore (lv' := [(5, .int k9), (0, .ref 77), (1, .ref 0), (2, .ref 47), (3, .ref 76), (4, .int (nI a))]) (pc := 750) d_lw_law_750 (Nat.le_of_ble_eq_true rfl) rfl ?_
  refine qr_aload_n (pc := 752) d_lw_law_752 rfl rfl ?_
  refine qr_aload_n (pc := 753) d_lw_law_753 rfl rfl ?_
  refine qr_iload (pc := 754) d_lw_law_754 rfl ?_
  refine qr_iconst (v := 1) (pc := 756) d_lw_law_756 (by decide) ?_
  refine qr_iadd (pc := 757) d_lw_law_757 ?_
  refine qR_st (st' := [.int (nI (a + 1)), .ref 77, .ref 47]) rfl (by rw [nI_1] <;> rfl) rfl ?_
  refine qr_sldN (j := (a + 1)) (fun _ _ _ _ h => h) (pc := 758) d_lw_law_758 (by omega) hLn ?_
  refine qr_aload_n (pc := 759) d_lw_law_759 rfl rfl ?_
  refine qr_iload (pc := 760) d_lw_law_760 rfl ?_
  refine qr_iconst (v := 2) (pc := 762) d_lw_law_762 (by decide) ?_
  refine qr_iadd (pc := 763) d_lw_law_763 ?_
  refine qR_st (st' := [.int (nI (a + 2)), .ref 77, .int (xs (a + 1)), .ref 47]) rfl (by rw [nI_p2] <;> rfl) rfl ?_
  refine qr_sldN (j := (a + 2)) (fun _ _ _ _ h => h) (pc := 764) d_lw_law_764 (by omega) hLn ?_
  refine qr_callV (q := 47) (As := [.int (xs (a + 1)), .int (xs (a + 2))]) (pc := 765) d_lw_law_765 lk_lw_133 im_md_told se_md_told rfl (by decide) (by decide) (c_47 _ _) hm rfl rfl (Nat.le_of_ble_eq_true rfl) (Nat.le_of_ble_eq_true rfl) (Nat.le_of_ble_eq_true rfl) (by show kc + 1 + 0 ≤ 601024; omega) (by show ks + 6 + 0 ≤ 7293034; omega) (fun h => nomatch h) (fun v n9 f9 hE9 => ?_)
  obtain ⟨rfl, rfl, rfl⟩ := hE9
  refine qr_lstore (lv' := [(6, .long b9), (5, .int k9), (0, .ref 77), (1, .ref 0), (2, .ref 47), (3, .ref 76), (4, .int (nI a))]) (pc := 768) d_lw_law_768 (Nat.le_of_ble_eq_true rfl) rfl ?_
  refine qr_goto (tgt := 869) (pc := 770) d_lw_law_770 (by decide) ?_
  refine qR_sub (lv' := lwV a) [2, 3, 4, 5, 6] rfl ?_
  exact kk _ _ hpost
set_option maxRecDepth 10000 in
theorem lc_books {l : Launch} {b Ln : Nat} {xs : Nat → Int32} {E : qE} {X : qXC} {a kc ks : Nat} {I : Nat → Nat → Int32} {L : Nat → Nat → Int64} (ha : a + 5 ≤ Ln) (hLn : Ln < 2 ^ 31) (hkc : kc + 1 ≤ 601024) (hks : ks + 6 ≤ 7293034) (Post : (Nat → Nat → Int32) → (Nat → Nat → Int64) → Prop) {Ew : qE} (hW : qSpW l y_lw_books b_lw_books 4 (some .int) hh_books 10 1 6 [.ref 0, .int (xs (a + 1)), .ref 76] 77 (fm I L) Ew) (hM : ∀ v n f, Ew v n f → ∃ (k9 : Int32) (I1 : Nat → Nat → Int32) (L1 : Nat → Nat → Int64) (b9 : Int64) (I2 : Nat → Nat → Int32) (L2 : Nat → Nat → Int64), some (.int k9) = v ∧ 77 = n ∧ fm I1 L1 = f ∧ qSp l y_md_books b_md_books 5 (some .long) false 2 0 0 [.ref 47, .int (xs (a + 1))] 77 (fm I1 L1) (qD (some (.long b9)) 77 (fm I2 L2)) ∧ Post I2 L2) (kk : ∀ I2 L2, Post I2 L2 → qR (qKL l b Ln xs) E X 869 (lwV a) [] 77 (kc + 1) (ks + 6) (fm I2 L2)) : qR (qKL l b Ln xs) E X 773 (lwV a) [] 77 kc ks (fm I L) := by
  refine qr_aload_n (pc := 773) d_lw_law_773 rfl rfl ?_
  refine qr_aload_n (pc := 774) d_lw_law_774 rfl rfl ?_
  refine qr_iload (pc := 775) d_lw_law_775 rfl ?_
  refine qr_iconst (v := 1) (pc := 777) d_lw_law_777 (by decide) ?_
  refine qr_iadd (pc := 778) d_lw_law_778 ?_
  refine qR_st (st' := [.int (nI (a + 1)), .ref 77, .ref 0]) rfl (by rw [nI_1] <;> rfl) rfl ?_
  refine qr_sldN (j := (a + 1)) (fun _ _ _ _ h => h) (pc := 779) d_lw_law_779 (by omega) hLn ?_
  refine qr_aload_n (pc := 780) d_lw_law_780 rfl rfl ?_
  refine qr_callSW (hh := hh_books) (na := 3) (As := [.ref 0, .int (xs (a + 1)), .ref 76]) (pc := 781) d_lw_law_781 lk_lw_134 ii_lw cw_books ⟨by decide, by decide⟩ (by decide +kernel) sm_lw_books hW rfl rfl (Nat.le_of_ble_eq_true rfl) (Nat.le_of_ble_eq_true rfl) (Nat.le_of_ble_eq_true rfl) hkc hks (fun v n9 f9 hE => ?_)
  obtain ⟨k9, I1, L1, b9, I2, L2, rfl, rfl, rfl, hm, hpost⟩ := hM _ _ _ hE
  refine qr_istore (lv' := [(5, .int k9), (0, .ref 77), (1, .ref 0), (2, .ref 47), (3, .ref 76), (4, .int (nI a))]) (pc := 784) d_lw_law_784 (Nat.le_of_ble_eq_true rfl) rfl ?_
  refine qr_aload_n (pc := 786) d_lw_law_786 rfl rfl ?_
  refine qr_aload_n (pc := 787) d_lw_law_787 rfl rfl ?_
  refine qr_iload (pc := 788) d_lw_law_788 rfl ?_
  refine qr_iconst (v := 1) (pc := 790) d_lw_law_790 (by decide) ?_
  refine qr_iadd (pc := 791) d_lw_law_791 ?_
  refine qR_st (st' := [.int (nI (a + 1)), .ref 77, .ref 47]) rfl (by rw [nI_1] <;> rfl) rfl ?_
  refine qr_sldN (j := (a + 1)) (fun _ _ _ _ h => h) (pc := 792) d_lw_law_792 (by omega) hLn ?_
  refine qr_callV (q := 47) (As := [.int (xs (a + 1))]) (pc := 793) d_lw_law_793 lk_lw_136 im_md_books se_md_books rfl (by decide) (by decide) (c_47 _ _) hm rfl rfl (Nat.le_of_ble_eq_true rfl) (Nat.le_of_ble_eq_true rfl) (Nat.le_of_ble_eq_true rfl) (by show kc + 1 + 0 ≤ 601024; omega) (by show ks + 6 + 0 ≤ 7293034; omega) (fun h => nomatch h) (fun v n9 f9 hE9 => ?_)
  obtain ⟨rfl, rfl, rfl⟩ := hE9
  refine qr_lstore (lv' := [(6, .long b9), (5, .int k9), (0, .ref 77), (1, .ref 0), (2, .ref 47), (3, .ref 76), (4, .int (nI a))]) (pc := 796) d_lw_law_796 (Nat.le_of_ble_eq_true rfl) rfl ?_
  refine qr_goto (tgt := 869) (pc := 798) d_lw_law_798 (by decide) ?_
  refine qR_sub (lv' := lwV a) [2, 3, 4, 5, 6] rfl ?_
  exact kk _ _ hpost
set_option maxRecDepth 10000 in
theorem lc_date {l : Launch} {b Ln : Nat} {xs : Nat → Int32} {E : qE} {X : qXC} {a kc ks : Nat} {I : Nat → Nat → Int32} {L : Nat → Nat → Int64} (ha : a + 5 ≤ Ln) (hLn : Ln < 2 ^ 31) (hkc : kc + 1 ≤ 601024) (hks : ks + 6 ≤ 7293034) (Post : (Nat → Nat → Int32) → (Nat → Nat → Int64) → Prop) {Ew : qE} (hW : qSpW l y_lw_date b_lw_date 5 (some .int) hh_date 10 1 6 [.ref 0, .int (xs (a + 1)), .int (xs (a + 2)), .ref 76] 77 (fm I L) Ew) (hM : ∀ v n f, Ew v n f → ∃ (k9 : Int32) (I1 : Nat → Nat → Int32) (L1 : Nat → Nat → Int64) (b9 : Int32) (I2 : Nat → Nat → Int32) (L2 : Nat → Nat → Int64), some (.int k9) = v ∧ 77 = n ∧ fm I1 L1 = f ∧ qSp l y_md_date b_md_date 5 (some .int) false 3 0 0 [.ref 47, .int (xs (a + 1)), .int (xs (a + 2))] 77 (fm I1 L1) (qD (some (.int b9)) 77 (fm I2 L2)) ∧ Post I2 L2) (kk : ∀ I2 L2, Post I2 L2 → qR (qKL l b Ln xs) E X 869 (lwV a) [] 77 (kc + 1) (ks + 6) (fm I2 L2)) : qR (qKL l b Ln xs) E X 801 (lwV a) [] 77 kc ks (fm I L) := by
  refine qr_aload_n (pc := 801) d_lw_law_801 rfl rfl ?_
  refine qr_aload_n (pc := 802) d_lw_law_802 rfl rfl ?_
  refine qr_iload (pc := 803) d_lw_law_803 rfl ?_
  refine qr_iconst (v := 1) (pc := 805) d_lw_law_805 (by decide) ?_
  refine qr_iadd (pc := 806) d_lw_law_806 ?_
  refine qR_st (st' := [.int (nI (a + 1)), .ref 77, .ref 0]) rfl (by rw [nI_1] <;> rfl) rfl ?_
  refine qr_sldN (j := (a + 1)) (fun _ _ _ _ h => h) (pc := 807) d_lw_law_807 (by omega) hLn ?_
  refine qr_aload_n (pc := 808) d_lw_law_808 rfl rfl ?_
  refine qr_iload (pc := 809) d_lw_law_809 rfl ?_
  refine qr_iconst (v := 2) (pc := 811) d_lw_law_811 (by decide) ?_
  refine qr_iadd (pc := 812) d_lw_law_812 ?_
  refine qR_st (st' := [.int (nI (a + 2)), .ref 77, .int (xs (a + 1)), .ref 0]) rfl (by rw [nI_p2] <;> rfl) rfl ?_
  refine qr_sldN (j := (a + 2)) (fun _ _ _ _ h => h) (pc := 813) d_lw_law_813 (by omega) hLn ?_
  refine qr_aload_n (pc := 814) d_lw_law_814 rfl rfl ?_
  refine qr_callSW (hh := hh_date) (na := 4) (As := [.ref 0, .int (xs (a + 1)), .int (xs (a + 2)), .ref 76]) (pc := 815) d_lw_law_815 lk_lw_137 ii_lw cw_date ⟨by decide, by decide⟩ (by decide +kernel) sm_lw_date hW rfl rfl (Nat.le_of_ble_eq_true rfl) (Nat.le_of_ble_eq_true rfl) (Nat.le_of_ble_eq_true rfl) hkc hks (fun v n9 f9 hE => ?_)
  obtain ⟨k9, I1, L1, b9, I2, L2, rfl, rfl, rfl, hm, hpost⟩ := hM _ _ _ hE
  refine qr_istore (lv' := [(5, .int k9), (0, .ref 77), (1, .ref 0), (2, .ref 47), (3, .ref 76), (4, .int (nI a))]) (pc := 818) d_lw_law_818 (Nat.le_of_ble_eq_true rfl) rfl ?_
  refine qr_aload_n (pc := 820) d_lw_law_820 rfl rfl ?_
  refine qr_aload_n (pc := 821) d_lw_law_821 rfl rfl ?_
  refine qr_iload (pc := 822) d_lw_law_822 rfl ?_
  refine qr_iconst (v := 1) (pc := 824) d_lw_law_824 (by decide) ?_
  refine qr_iadd (pc := 825) d_lw_law_825 ?_
  refine qR_st (st' := [.int (nI (a + 1)), .ref 77, .ref 47]) rfl (by rw [nI_1] <;> rfl) rfl ?_
  refine qr_sldN (j := (a + 1)) (fun _ _ _ _ h => h) (pc := 826) d_lw_law_826 (by omega) hLn ?_
  refine qr_aload_n (pc := 827) d_lw_law_827 rfl rfl ?_
  refine qr_iload (pc := 828) d_lw_law_828 rfl ?_
  refine qr_iconst (v := 2) (pc := 830) d_lw_law_830 (by decide) ?_
  refine qr_iadd (pc := 831) d_lw_law_831 ?_
  refine qR_st (st' := [.int (nI (a + 2)), .ref 77, .int (xs (a + 1)), .ref 47]) rfl (by rw [nI_p2] <;> rfl) rfl ?_
  refine qr_sldN (j := (a + 2)) (fun _ _ _ _ h => h) (pc := 832) d_lw_law_832 (by omega) hLn ?_
  refine qr_callV (q := 47) (As := [.int (xs (a + 1)), .int (xs (a + 2))]) (pc := 833) d_lw_law_833 lk_lw_139 im_md_date se_md_date rfl (by decide) (by decide) (c_47 _ _) hm rfl rfl (Nat.le_of_ble_eq_true rfl) (Nat.le_of_ble_eq_true rfl) (Nat.le_of_ble_eq_true rfl) (by show kc + 1 + 0 ≤ 601024; omega) (by show ks + 6 + 0 ≤ 7293034; omega) (fun h => nomatch h) (fun v n9 f9 hE9 => ?_)
  obtain ⟨rfl, rfl, rfl⟩ := hE9
  refine qr_istore (lv' := [(6, .int b9), (5, .int k9), (0, .ref 77), (1, .ref 0), (2, .ref 47), (3, .ref 76), (4, .int (nI a))]) (pc := 836) d_lw_law_836 (Nat.le_of_ble_eq_true rfl) rfl ?_
  refine qr_goto (tgt := 869) (pc := 838) d_lw_law_838 (by decide) ?_
  refine qR_sub (lv' := lwV a) [2, 3, 4, 5, 6] rfl ?_
  exact kk _ _ hpost
set_option maxRecDepth 10000 in
theorem lc_count {l : Launch} {b Ln : Nat} {xs : Nat → Int32} {E : qE} {X : qXC} {a kc ks : Nat} {I : Nat → Nat → Int32} {L : Nat → Nat → Int64} (ha : a + 5 ≤ Ln) (hLn : Ln < 2 ^ 31) (hkc : kc + 1 ≤ 601024) (hks : ks + 6 ≤ 7293034) (Post : (Nat → Nat → Int32) → (Nat → Nat → Int64) → Prop) {Ew : qE} (hW : qSpW l y_lw_count b_lw_count 4 (some .int) hh_count 10 1 6 [.ref 0, .int (xs (a + 1)), .ref 76] 77 (fm I L) Ew) (hM : ∀ v n f, Ew v n f → ∃ (k9 : Int32) (I1 : Nat → Nat → Int32) (L1 : Nat → Nat → Int64) (b9 : Int32) (I2 : Nat → Nat → Int32) (L2 : Nat → Nat → Int64), some (.int k9) = v ∧ 77 = n ∧ fm I1 L1 = f ∧ qSp l y_md_count b_md_count 2 (some .int) false 2 0 0 [.ref 47, .int (xs (a + 1))] 77 (fm I1 L1) (qD (some (.int b9)) 77 (fm I2 L2)) ∧ Post I2 L2) (kk : ∀ I2 L2, Post I2 L2 → qR (qKL l b Ln xs) E X 869 (lwV a) [] 77 (kc + 1) (ks + 6) (fm I2 L2)) : qR (qKL l b Ln xs) E X 841 (lwV a) [] 77 kc ks (fm I L) := by
  refine qr_aload_n (pc := 841) d_lw_law_841 rfl rfl ?_
  refine qr_aload_n (pc := 842) d_lw_law_842 rfl rfl ?_
  refine qr_iload (pc := 843) d_lw_law_843 rfl ?_
  refine qr_iconst (v := 1) (pc := 845) d_lw_law_845 (by decide) ?_
  refine qr_iadd (pc := 846) d_lw_law_846 ?_
  refine qR_st (st' := [.int (nI (a + 1)), .ref 77, .ref 0]) rfl (by rw [nI_1] <;> rfl) rfl ?_
  refine qr_sldN (j := (a + 1)) (fun _ _ _ _ h => h) (pc := 847) d_lw_law_847 (by omega) hLn ?_
  refine qr_aload_n (pc := 848) d_lw_law_848 rfl rfl ?_
  refine qr_callSW (hh := hh_count) (na := 3) (As := [.ref 0, .int (xs (a + 1)), .ref 76]) (pc := 849) d_lw_law_849 lk_lw_140 ii_lw cw_count ⟨by decide, by decide⟩ (by decide +kernel) sm_lw_count hW rfl rfl (Nat.le_of_ble_eq_true rfl) (Nat.le_of_ble_eq_true rfl) (Nat.le_of_ble_eq_true rfl) hkc hks (fun v n9 f9 hE => ?_)
  obtain ⟨k9, I1, L1, b9, I2, L2, rfl, rfl, rfl, hm, hpost⟩ := hM _ _ _ hE
  refine qr_istore (lv' := [(5, .int k9), (0, .ref 77), (1, .ref 0), (2, .ref 47), (3, .ref 76), (4, .int (nI a))]) (pc := 852) d_lw_law_852 (Nat.le_of_ble_eq_true rfl) rfl ?_
  refine qr_aload_n (pc := 854) d_lw_law_854 rfl rfl ?_
  refine qr_aload_n (pc := 855) d_lw_law_855 rfl rfl ?_
  refine qr_iload (pc := 856) d_lw_law_856 rfl ?_
  refine qr_iconst (v := 1) (pc := 858) d_lw_law_858 (by decide) ?_
  refine qr_iadd (pc := 859) d_lw_law_859 ?_
  refine qR_st (st' := [.int (nI (a + 1)), .ref 77, .ref 47]) rfl (by rw [nI_1] <;> rfl) rfl ?_
  refine qr_sldN (j := (a + 1)) (fun _ _ _ _ h => h) (pc := 860) d_lw_law_860 (by omega) hLn ?_
  refine qr_callV (q := 47) (As := [.int (xs (a + 1))]) (pc := 861) d_lw_law_861 lk_lw_142 im_md_count se_md_count rfl (by decide) (by decide) (c_47 _ _) hm rfl rfl (Nat.le_of_ble_eq_true rfl) (Nat.le_of_ble_eq_true rfl) (Nat.le_of_ble_eq_true rfl) (by show kc + 1 + 0 ≤ 601024; omega) (by show ks + 6 + 0 ≤ 7293034; omega) (fun h => nomatch h) (fun v n9 f9 hE9 => ?_)
  obtain ⟨rfl, rfl, rfl⟩ := hE9
  refine qr_istore (lv' := [(6, .int b9), (5, .int k9), (0, .ref 77), (1, .ref 0), (2, .ref 47), (3, .ref 76), (4, .int (nI a))]) (pc := 864) d_lw_law_864 (Nat.le_of_ble_eq_true rfl) rfl ?_
  refine qr_goto (tgt := 869) (pc := 866) d_lw_law_866 (by decide) ?_
  refine qR_sub (lv' := lwV a) [2, 3, 4, 5, 6] rfl ?_
  exact kk _ _ hpost
