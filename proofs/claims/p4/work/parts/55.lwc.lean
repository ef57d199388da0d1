/-! the law's cases: the class's call by its wrapper, the reference's, the comparison -/
abbrev qKL (l : Launch) (b Ln : Nat) (xs : Nat → Int32) : qK := (l, "BillForgeLaw", code, 8, some .boolean, false, true, 13, 601024, 7293034, 0, qScr b Ln xs)
abbrev lwV (a : Nat) : List (Nat × Value) := [(0, .ref 77), (1, .ref 0), (2, .ref 47), (3, .ref 76), (4, .int (nI a))]
/-- a long out of two ints of the script -/
def lwJ (h l : Int32) : Int64 := (Int32.toInt64 h <<< ((Int32.toInt64 32) &&& 63)) ||| (Int32.toInt64 l &&& 4294967295)
set_option maxRecDepth 10000 in
theorem lc_text {l : Launch} {b Ln : Nat} {xs : Nat → Int32} {E : qE} {X : qXC} {a kc ks : Nat} {I : Nat → Nat → Int32} {L : Nat → Nat → Int64} (ha : a + 5 ≤ Ln) (hLn : Ln < 2 ^ 31) (hkc : kc + 1 ≤ 601024) (hks : ks + 6 ≤ 7293034) (Post : (Nat → Nat → Int32) → (Nat → Nat → Int64) → Prop) {Ew : qE} (hW : qSpW l y_lw_text b_lw_text 5 (some .int) hh_text 10 1 6 [.ref 0, .long (lwJ (xs (a + 1)) (xs (a + 2))), .ref 76] 77 (fm I L) Ew) (hM : ∀ v n f, Ew v n f → ∃ (k9 : Int32) (I1 : Nat → Nat → Int32) (L1 : Nat → Nat → Int64) (b9 : Int32) (I2 : Nat → Nat → Int32) (L2 : Nat → Nat → Int64), some (.int k9) = v ∧ 77 = n ∧ fm I1 L1 = f ∧ qSp l y_md_text b_md_text 6 (some .int) false 2 0 0 [.ref 47, .long (lwJ (xs (a + 1)) (xs (a + 2)))] 77 (fm I1 L1) (qD (some (.int b9)) 77 (fm I2 L2)) ∧ Post I2 L2) (kk : ∀ I2 L2, Post I2 L2 → qR (qKL l b Ln xs) E X 834 (lwV a) [] 77 (kc + 1) (ks + 6) (fm I2 L2)) : qR (qKL l b Ln xs) E X 120 (lwV a) [] 77 kc ks (fm I L) := by
  refine qr_aload_n (pc := 120) d_lw_law_120 rfl rfl ?_
  refine qr_aload_n (pc := 121) d_lw_law_121 rfl rfl ?_
  refine qr_iload (pc := 122) d_lw_law_122 rfl ?_
  refine qr_iconst (v := 1) (pc := 124) d_lw_law_124 (by decide) ?_
  refine qr_iadd (pc := 125) d_lw_law_125 ?_
  refine qR_st (st' := [.int (nI (a + 1)), .ref 77, .ref 0]) rfl (by rw [nI_1] <;> rfl) rfl ?_
  refine qr_sldN (j := (a + 1)) (fun _ _ _ _ h => h) (pc := 126) d_lw_law_126 (by omega) hLn ?_
  refine qr_i2l (pc := 127) d_lw_law_127 ?_
  refine qr_bipush (v := 32) (pc := 128) d_lw_law_128 (by decide) ?_
  refine qr_lshl (pc := 130) d_lw_law_130 ?_
  refine qr_aload_n (pc := 131) d_lw_law_131 rfl rfl ?_
  refine qr_iload (pc := 132) d_lw_law_132 rfl ?_
  refine qr_iconst (v := 2) (pc := 134) d_lw_law_134 (by decide) ?_
  refine qr_iadd (pc := 135) d_lw_law_135 ?_
  refine qR_st (st' := [.int (nI (a + 2)), .ref 77, .long ((Int32.toInt64 (xs (a + 1))) <<< ((Int32.toInt64 32) &&& 63)), .ref 0]) rfl (by rw [nI_p2] <;> rfl) rfl ?_
  refine qr_sldN (j := (a + 2)) (fun _ _ _ _ h => h) (pc := 136) d_lw_law_136 (by omega) hLn ?_
  refine qr_i2l (pc := 137) d_lw_law_137 ?_
  refine qr_ldc2 (v := 4294967295) (pc := 138) d_lw_law_138 kl_lw_75 ?_
  refine qr_land (pc := 141) d_lw_law_141 ?_
  refine qr_lor (pc := 142) d_lw_law_142 ?_
  refine qR_st (st' := [.long (lwJ (xs (a + 1)) (xs (a + 2))), .ref 0]) rfl rfl rfl ?_
  refine qr_aload_n (pc := 143) d_lw_law_143 rfl rfl ?_
  refine qr_callSW (hh := hh_text) (na := 3) (As := [.ref 0, .long (lwJ (xs (a + 1)) (xs (a + 2))), .ref 76]) (pc := 144) d_lw_law_144 lk_lw_77 ii_lw cw_text ⟨by decide, by decide⟩ (by decide +kernel) sm_lw_text hW rfl rfl (Nat.le_of_ble_eq_true rfl) (Nat.le_of_ble_eq_true rfl) (Nat.le_of_ble_eq_true rfl) hkc hks (fun v n9 f9 hE => ?_)
  obtain ⟨k9, I1, L1, b9, I2, L2, rfl, rfl, rfl, hm, hpost⟩ := hM _ _ _ hE
  refine qr_istore (lv' := [(5, .int k9), (0, .ref 77), (1, .ref 0), (2, .ref 47), (3, .ref 76), (4, .int (nI a))]) (pc := 147) d_lw_law_147 (Nat.le_of_ble_eq_true rfl) rfl ?_
  refine qr_aload_n (pc := 149) d_lw_law_149 rfl rfl ?_
  refine qr_aload_n (pc := 150) d_lw_law_150 rfl rfl ?_
  refine qr_iload (pc := 151) d_lw_law_151 rfl ?_
  refine qr_iconst (v := 1) (pc := 153) d_lw_law_153 (by decide) ?_
  refine qr_iadd (pc := 154) d_lw_law_154 ?_
  refine qR_st (st' := [.int (nI (a + 1)), .ref 77, .ref 47]) rfl (by rw [nI_1] <;> rfl) rfl ?_
  refine qr_sldN (j := (a + 1)) (fun _ _ _ _ h => h) (pc := 155) d_lw_law_155 (by omega) hLn ?_
  refine qr_i2l (pc := 156) d_lw_law_156 ?_
  refine qr_bipush (v := 32) (pc := 157) d_lw_law_157 (by decide) ?_
  refine qr_lshl (pc := 159) d_lw_law_159 ?_
  refine qr_aload_n (pc := 160) d_lw_law_160 rfl rfl ?_
  refine qr_iload (pc := 161) d_lw_law_161 rfl ?_
  refine qr_iconst (v := 2) (pc := 163) d_lw_law_163 (by decide) ?_
  refine qr_iadd (pc := 164) d_lw_law_164 ?_
  refine qR_st (st' := [.int (nI (a + 2)), .ref 77, .long ((Int32.toInt64 (xs (a + 1))) <<< ((Int32.toInt64 32) &&& 63)), .ref 47]) rfl (by rw [nI_p2] <;> rfl) rfl ?_
  refine qr_sldN (j := (a + 2)) (fun _ _ _ _ h => h) (pc := 165) d_lw_law_165 (by omega) hLn ?_
  refine qr_i2l (pc := 166) d_lw_law_166 ?_
  refine qr_ldc2 (v := 4294967295) (pc := 167) d_lw_law_167 kl_lw_75 ?_
  refine qr_land (pc := 170) d_lw_law_170 ?_
  refine qr_lor (pc := 171) d_lw_law_171 ?_
  refine qR_st (st' := [.long (lwJ (xs (a + 1)) (xs (a + 2))), .ref 47]) rfl rfl rfl ?_
  refine qr_callV (q := 47) (As := [.long (lwJ (xs (a + 1)) (xs (a + 2)))]) (pc := 172) d_lw_law_172 lk_lw_82 im_md_text se_md_text rfl (by decide) (by decide) (c_47 _ _) hm rfl rfl (Nat.le_of_ble_eq_true rfl) (Nat.le_of_ble_eq_true rfl) (Nat.le_of_ble_eq_true rfl) (by show kc + 1 + 0 ≤ 601024; omega) (by show ks + 6 + 0 ≤ 7293034; omega) (fun h => nomatch h) (fun v n9 f9 hE9 => ?_)
  obtain ⟨rfl, rfl, rfl⟩ := hE9
  refine qr_istore (lv' := [(6, .int b9), (5, .int k9), (0, .ref 77), (1, .ref 0), (2, .ref 47), (3, .ref 76), (4, .int (nI a))]) (pc := 175) d_lw_law_175 (Nat.le_of_ble_eq_true rfl) rfl ?_
  refine qr_goto (tgt := 834) (pc := 177) d_lw_law_177 (by decide) ?_
  refine qR_sub (lv' := lwV a) [2, 3, 4, 5, 6] rfl ?_
  exact kk _ _ hpost
set_option maxRecDepth 10000 in
theorem lc_tariff {l : Launch} {b Ln : Nat} {xs : Nat → Int32} {E : qE} {X : qXC} {a kc ks : Nat} {I : Nat → Nat → Int32} {L : Nat → Nat → Int64} (ha : a + 5 ≤ Ln) (hLn : Ln < 2 ^ 31) (hkc : kc + 1 ≤ 601024) (hks : ks + 6 ≤ 7293034) (Post : (Nat → Nat → Int32) → (Nat → Nat → Int64) → Prop) {Ew : qE} (hW : qSpW l y_lw_tariff b_lw_tariff 4 (some .int) hh_tariff 10 1 6 [.ref 0, .int (xs (a + 1)), .ref 76] 77 (fm I L) Ew) (hM : ∀ v n f, Ew v n f → ∃ (k9 : Int32) (I1 : Nat → Nat → Int32) (L1 : Nat → Nat → Int64) (b9 : Int32) (I2 : Nat → Nat → Int32) (L2 : Nat → Nat → Int64), some (.int k9) = v ∧ 77 = n ∧ fm I1 L1 = f ∧ qSp l y_md_tariff b_md_tariff 3 (some .int) false 6 0 0 [.ref 47, .int (xs (a + 1))] 77 (fm I1 L1) (qD (some (.int b9)) 77 (fm I2 L2)) ∧ Post I2 L2) (kk : ∀ I2 L2, Post I2 L2 → qR (qKL l b Ln xs) E X 834 (lwV a) [] 77 (kc + 1) (ks + 6) (fm I2 L2)) : qR (qKL l b Ln xs) E X 180 (lwV a) [] 77 kc ks (fm I L) := by
  refine qr_aload_n (pc := 180) d_lw_law_180 rfl rfl ?_
  refine qr_aload_n (pc := 181) d_lw_law_181 rfl rfl ?_
  refine qr_iload (pc := 182) d_lw_law_182 rfl ?_
  refine qr_iconst (v := 1) (pc := 184) d_lw_law_184 (by decide) ?_
  refine qr_iadd (pc := 185) d_lw_law_185 ?_
  refine qR_st (st' := [.int (nI (a + 1)), .ref 77, .ref 0]) rfl (by rw [nI_1] <;> rfl) rfl ?_
  refine qr_sldN (j := (a + 1)) (fun _ _ _ _ h => h) (pc := 186) d_lw_law_186 (by omega) hLn ?_
  refine qr_aload_n (pc := 187) d_lw_law_187 rfl rfl ?_
  refine qr_callSW (hh := hh_tariff) (na := 3) (As := [.ref 0, .int (xs (a + 1)), .ref 76]) (pc := 188) d_lw_law_188 lk_lw_83 ii_lw cw_tariff ⟨by decide, by decide⟩ (by decide +kernel) sm_lw_tariff hW rfl rfl (Nat.le_of_ble_eq_true rfl) (Nat.le_of_ble_eq_true rfl) (Nat.le_of_ble_eq_true rfl) hkc hks (fun v n9 f9 hE => ?_)
  obtain ⟨k9, I1, L1, b9, I2, L2, rfl, rfl, rfl, hm, hpost⟩ := hM _ _ _ hE
  refine qr_istore (lv' := [(5, .int k9), (0, .ref 77), (1, .ref 0), (2, .ref 47), (3, .ref 76), (4, .int (nI a))]) (pc := 191) d_lw_law_191 (Nat.le_of_ble_eq_true rfl) rfl ?_
  refine qr_aload_n (pc := 193) d_lw_law_193 rfl rfl ?_
  refine qr_aload_n (pc := 194) d_lw_law_194 rfl rfl ?_
  refine qr_iload (pc := 195) d_lw_law_195 rfl ?_
  refine qr_iconst (v := 1) (pc := 197) d_lw_law_197 (by decide) ?_
  refine qr_iadd (pc := 198) d_lw_law_198 ?_
  refine qR_st (st' := [.int (nI (a + 1)), .ref 77, .ref 47]) rfl (by rw [nI_1] <;> rfl) rfl ?_
  refine qr_sldN (j := (a + 1)) (fun _ _ _ _ h => h) (pc := 199) d_lw_law_199 (by omega) hLn ?_
  refine qr_callV (q := 47) (As := [.int (xs (a + 1))]) (pc := 200) d_lw_law_200 lk_lw_86 im_md_tariff se_md_tariff rfl (by decide) (by decide) (c_47 _ _) hm rfl rfl (Nat.le_of_ble_eq_true rfl) (Nat.le_of_ble_eq_true rfl) (Nat.le_of_ble_eq_true rfl) (by show kc + 1 + 0 ≤ 601024; omega) (by show ks + 6 + 0 ≤ 7293034; omega) (fun h => nomatch h) (fun v n9 f9 hE9 => ?_)
  obtain ⟨rfl, rfl, rfl⟩ := hE9
  refine qr_istore (lv' := [(6, .int b9), (5, .int k9), (0, .ref 77), (1, .ref 0), (2, .ref 47), (3, .ref 76), (4, .int (nI a))]) (pc := 203) d_lw_law_203 (Nat.le_of_ble_eq_true rfl) rfl ?_
  refine qr_goto (tgt := 834) (pc := 205) d_lw_law_205 (by decide) ?_
  refine qR_sub (lv' := lwV a) [2, 3, 4, 5, 6] rfl ?_
  exact kk _ _ hpost
set_option maxRecDepth 10000 in
theorem lc_where {l : Launch} {b Ln : Nat} {xs : Nat → Int32} {E : qE} {X : qXC} {a kc ks : Nat} {I : Nat → Nat → Int32} {L : Nat → Nat → Int64} (ha : a + 5 ≤ Ln) (hLn : Ln < 2 ^ 31) (hkc : kc + 1 ≤ 601024) (hks : ks + 6 ≤ 7293034) (Post : (Nat → Nat → Int32) → (Nat → Nat → Int64) → Prop) {r r2 : Int32} {I1 I2 : Nat → Nat → Int32} {L1 L2 : Nat → Nat → Int64} (hW : qSp l y_bf_where b_bf_where 1 (some .int) false 2 0 0 [.ref 0] 77 (fm I L) (qD (some (.int r)) 77 (fm I1 L1))) (hM : qSp l y_md_where b_md_where 1 (some .int) false 1 0 0 [.ref 47] 77 (fm I1 L1) (qD (some (.int r2)) 77 (fm I2 L2))) (hr : r = r2) (hp : Post I2 L2) (kk : ∀ I2 L2, Post I2 L2 → qR (qKL l b Ln xs) E X 834 (lwV a) [] 77 kc ks (fm I2 L2)) : qR (qKL l b Ln xs) E X 208 (lwV a) [] 77 kc ks (fm I L) := by
  refine qr_aload_n (pc := 208) d_lw_law_208 rfl rfl ?_
  refine qr_callV (q := 0) (As := []) (pc := 209) d_lw_law_209 lk_lw_87 im_bf_where se_bf_where rfl (by decide) (by decide) (c_0 _ _) hW rfl rfl (Nat.le_of_ble_eq_true rfl) (Nat.le_of_ble_eq_true rfl) (Nat.le_of_ble_eq_true rfl) (by show kc + 0 ≤ 601024; omega) (by show ks + 0 ≤ 7293034; omega) (fun h => nomatch h) (fun v n9 f9 hE => ?_)
  obtain ⟨rfl, rfl, rfl⟩ := hE
  refine qr_aload_n (pc := 212) d_lw_law_212 rfl rfl ?_
  refine qr_callV (q := 47) (As := []) (pc := 213) d_lw_law_213 lk_lw_91 im_md_where se_md_where rfl (by decide) (by decide) (c_47 _ _) hM rfl rfl (Nat.le_of_ble_eq_true rfl) (Nat.le_of_ble_eq_true rfl) (Nat.le_of_ble_eq_true rfl) (by show kc + 0 + 0 ≤ 601024; omega) (by show ks + 0 + 0 ≤ 7293034; omega) (fun h => nomatch h) (fun v n9 f9 hE => ?_)
  obtain ⟨rfl, rfl, rfl⟩ := hE
  refine qr_icmp_eq (tgt := 834) (pc := 216) d_lw_law_216 (by decide) (fun _ => ?_) (fun h => absurd hr h)
  exact kk _ _ hp
set_option maxRecDepth 10000 in
theorem lc_use {l : Launch} {b Ln : Nat} {xs : Nat → Int32} {E : qE} {X : qXC} {a kc ks : Nat} {I : Nat → Nat → Int32} {L : Nat → Nat → Int64} (ha : a + 5 ≤ Ln) (hLn : Ln < 2 ^ 31) (hkc : kc + 1 ≤ 601024) (hks : ks + 6 ≤ 7293034) (Post : (Nat → Nat → Int32) → (Nat → Nat → Int64) → Prop) {Ew : qE} (hW : qSpW l y_lw_use b_lw_use 5 (some .int) hh_use 10 1 6 [.ref 0, .int (xs (a + 1)), .int (xs (a + 2)), .ref 76] 77 (fm I L) Ew) (hM : ∀ v n f, Ew v n f → ∃ (k9 : Int32) (I1 : Nat → Nat → Int32) (L1 : Nat → Nat → Int64) (b9 : Int64) (I2 : Nat → Nat → Int32) (L2 : Nat → Nat → Int64), some (.int k9) = v ∧ 77 = n ∧ fm I1 L1 = f ∧ qSp l y_md_use b_md_use 3 (some .long) false 3 0 0 [.ref 47, .int (xs (a + 1)), .int (xs (a + 2))] 77 (fm I1 L1) (qD (some (.long b9)) 77 (fm I2 L2)) ∧ Post I2 L2) (kk : ∀ I2 L2, Post I2 L2 → qR (qKL l b Ln xs) E X 834 (lwV a) [] 77 (kc + 1) (ks + 6) (fm I2 L2)) : qR (qKL l b Ln xs) E X 221 (lwV a) [] 77 kc ks (fm I L) := by
  refine qr_aload_n (pc := 221) d_lw_law_221 rfl rfl ?_
  refine qr_aload_n (pc := 222) d_lw_law_222 rfl rfl ?_
  refine qr_iload (pc := 223) d_lw_law_223 rfl ?_
  refine qr_iconst (v := 1) (pc := 225) d_lw_law_225 (by decide) ?_
  refine qr_iadd (pc := 226) d_lw_law_226 ?_
  refine qR_st (st' := [.int (nI (a + 1)), .ref 77, .ref 0]) rfl (by rw [nI_1] <;> rfl) rfl ?_
  refine qr_sldN (j := (a + 1)) (fun _ _ _ _ h => h) (pc := 227) d_lw_law_227 (by omega) hLn ?_
  refine qr_aload_n (pc := 228) d_lw_law_228 rfl rfl ?_
  refine qr_iload (pc := 229) d_lw_law_229 rfl ?_
  refine qr_iconst (v := 2) (pc := 231) d_lw_law_231 (by decide) ?_
  refine qr_iadd (pc := 232) d_lw_law_232 ?_
  refine qR_st (st' := [.int (nI (a + 2)), .ref 77, .int (xs (a + 1)), .ref 0]) rfl (by rw [nI_p2] <;> rfl) rfl ?_
  refine qr_sldN (j := (a + 2)) (fun _ _ _ _ h => h) (pc := 233) d_lw_law_233 (by omega) hLn ?_
  refine qr_aload_n (pc := 234) d_lw_law_234 rfl rfl ?_
  refine qr_callSW (hh := hh_use) (na := 4) (As := [.ref 0, .int (xs (a + 1)), .int (xs (a + 2)), .ref 76]) (pc := 235) d_lw_law_235 lk_lw_92 ii_lw cw_use ⟨by decide, by decide⟩ (by decide +kernel) sm_lw_use hW rfl rfl (Nat.le_of_ble_eq_true rfl) (Nat.le_of_ble_eq_true rfl) (Nat.le_of_ble_eq_true rfl) hkc hks (fun v n9 f9 hE => ?_)
  obtain ⟨k9, I1, L1, b9, I2, L2, rfl, rfl, rfl, hm, hpost⟩ := hM _ _ _ hE
  refine qr_istore (lv' := [(5, .int k9), (0, .ref 77), (1, .ref 0), (2, .ref 47), (3, .ref 76), (4, .int (nI a))]) (pc := 238) d_lw_law_238 (Nat.le_of_ble_eq_true rfl) rfl ?_
  refine qr_aload_n (pc := 240) d_lw_law_240 rfl rfl ?_
  refine qr_aload_n (pc := 241) d_lw_law_241 rfl rfl ?_
  refine qr_iload (pc := 242) d_lw_law_242 rfl ?_
  refine qr_iconst (v := 1) (pc := 244) d_lw_law_244 (by decide) ?_
  refine qr_iadd (pc := 245) d_lw_law_245 ?_
  refine qR_st (st' := [.int (nI (a + 1)), .ref 77, .ref 47]) rfl (by rw [nI_1] <;> rfl) rfl ?_
  refine qr_sldN (j := (a + 1)) (fun _ _ _ _ h => h) (pc := 246) d_lw_law_246 (by omega) hLn ?_
  refine qr_aload_n (pc := 247) d_lw_law_247 rfl rfl ?_
  refine qr_iload (pc := 248) d_lw_law_248 rfl ?_
  refine qr_iconst (v := 2) (pc := 250) d_lw_law_250 (by decide) ?_
  refine qr_iadd (pc := 251) d_lw_law_251 ?_
  refine qR_st (st' := [.int (nI (a + 2)), .ref 77, .int (xs (a + 1)), .ref 47]) rfl (by rw [nI_p2] <;> rfl) rfl ?_
  refine qr_sldN (j := (a + 2)) (fun _ _ _ _ h => h) (pc := 252) d_lw_law_252 (by omega) hLn ?_
  refine qr_callV (q := 47) (As := [.int (xs (a + 1)), .int (xs (a + 2))]) (pc := 253) d_lw_law_253 lk_lw_95 im_md_use se_md_use rfl (by decide) (by decide) (c_47 _ _) hm rfl rfl (Nat.le_of_ble_eq_true rfl) (Nat.le_of_ble_eq_true rfl) (Nat.le_of_ble_eq_true rfl) (by show kc + 1 + 0 ≤ 601024; omega) (by show ks + 6 + 0 ≤ 7293034; omega) (fun h => nomatch h) (fun v n9 f9 hE9 => ?_)
  obtain ⟨rfl, rfl, rfl⟩ := hE9
  refine qr_lstore (lv' := [(6, .long b9), (5, .int k9), (0, .ref 77), (1, .ref 0), (2, .ref 47), (3, .ref 76), (4, .int (nI a))]) (pc := 256) d_lw_law_256 (Nat.le_of_ble_eq_true rfl) rfl ?_
  refine qr_goto (tgt := 834) (pc := 258) d_lw_law_258 (by decide) ?_
  refine qR_sub (lv' := lwV a) [2, 3, 4, 5, 6] rfl ?_
  exact kk _ _ hpost
set_option maxRecDepth 10000 in
theorem lc_subscribe {l : Launch} {b Ln : Nat} {xs : Nat → Int32} {E : qE} {X : qXC} {a kc ks : Nat} {I : Nat → Nat → Int32} {L : Nat → Nat → Int64} (ha : a + 5 ≤ Ln) (hLn : Ln < 2 ^ 31) (hkc : kc + 1 ≤ 601024) (hks : ks + 6 ≤ 7293034) (Post : (Nat → Nat → Int32) → (Nat → Nat → Int64) → Prop) {Ew : qE} (hW : qSpW l y_lw_subscribe b_lw_subscribe 5 (some .int) hh_subscribe 10 1 6 [.ref 0, .int (xs (a + 1)), .int (xs (a + 2)), .ref 76] 77 (fm I L) Ew) (hM : ∀ v n f, Ew v n f → ∃ (k9 : Int32) (I1 : Nat → Nat → Int32) (L1 : Nat → Nat → Int64) (b9 : Int32) (I2 : Nat → Nat → Int32) (L2 : Nat → Nat → Int64), some (.int k9) = v ∧ 77 = n ∧ fm I1 L1 = f ∧ qSp l y_md_subscribe b_md_subscribe 4 (some .int) false 2 0 0 [.ref 47, .int (xs (a + 1)), .int (xs (a + 2))] 77 (fm I1 L1) (qD (some (.int b9)) 77 (fm I2 L2)) ∧ Post I2 L2) (kk : ∀ I2 L2, Post I2 L2 → qR (qKL l b Ln xs) E X 834 (lwV a) [] 77 (kc + 1) (ks + 6) (fm I2 L2)) : qR (qKL l b Ln xs) E X 261 (lwV a) [] 77 kc ks (fm I L) := by
  refine qr_aload_n (pc := 261) d_lw_law_261 rfl rfl ?_
  refine qr_aload_n (pc := 262) d_lw_law_262 rfl rfl ?_
  refine qr_iload (pc := 263) d_lw_law_263 rfl ?_
  refine qr_iconst (v := 1) (pc := 265) d_lw_law_265 (by decide) ?_
  refine qr_iadd (pc := 266) d_lw_law_266 ?_
  refine qR_st (st' := [.int (nI (a + 1)), .ref 77, .ref 0]) rfl (by rw [nI_1] <;> rfl) rfl ?_
  refine qr_sldN (j := (a + 1)) (fun _ _ _ _ h => h) (pc := 267) d_lw_law_267 (by omega) hLn ?_
  refine qr_aload_n (pc := 268) d_lw_law_268 rfl rfl ?_
  refine qr_iload (pc := 269) d_lw_law_269 rfl ?_
  refine qr_iconst (v := 2) (pc := 271) d_lw_law_271 (by decide) ?_
  refine qr_iadd (pc := 272) d_lw_law_272 ?_
  refine qR_st (st' := [.int (nI (a + 2)), .ref 77, .int (xs (a + 1)), .ref 0]) rfl (by rw [nI_p2] <;> rfl) rfl ?_
  refine qr_sldN (j := (a + 2)) (fun _ _ _ _ h => h) (pc := 273) d_lw_law_273 (by omega) hLn ?_
  refine qr_aload_n (pc := 274) d_lw_law_274 rfl rfl ?_
  refine qr_callSW (hh := hh_subscribe) (na := 4) (As := [.ref 0, .int (xs (a + 1)), .int (xs (a + 2)), .ref 76]) (pc := 275) d_lw_law_275 lk_lw_96 ii_lw cw_subscribe ⟨by decide, by decide⟩ (by decide +kernel) sm_lw_subscribe hW rfl rfl (Nat.le_of_ble_eq_true rfl) (Nat.le_of_ble_eq_true rfl) (Nat.le_of_ble_eq_true rfl) hkc hks (fun v n9 f9 hE => ?_)
  obtain ⟨k9, I1, L1, b9, I2, L2, rfl, rfl, rfl, hm, hpost⟩ := hM _ _ _ hE
  refine qr_istore (lv' := [(5, .int k9), (0, .ref 77), (1, .ref 0), (2, .ref 47), (3, .ref 76), (4, .int (nI a))]) (pc := 278) d_lw_law_278 (Nat.le_of_ble_eq_true rfl) rfl ?_
  refine qr_aload_n (pc := 280) d_lw_law_280 rfl rfl ?_
  refine qr_aload_n (pc := 281) d_lw_law_281 rfl rfl ?_
  refine qr_iload (pc := 282) d_lw_law_282 rfl ?_
  refine qr_iconst (v := 1) (pc := 284) d_lw_law_284 (by decide) ?_
  refine qr_iadd (pc := 285) d_lw_law_285 ?_
  refine qR_st (st' := [.int (nI (a + 1)), .ref 77, .ref 47]) rfl (by rw [nI_1] <;> rfl) rfl ?_
  refine qr_sldN (j := (a + 1)) (fun _ _ _ _ h => h) (pc := 286) d_lw_law_286 (by omega) hLn ?_
  refine qr_aload_n (pc := 287) d_lw_law_287 rfl rfl ?_
  refine qr_iload (pc := 288) d_lw_law_288 rfl ?_
  refine qr_iconst (v := 2) (pc := 290) d_lw_law_290 (by decide) ?_
  refine qr_iadd (pc := 291) d_lw_law_291 ?_
  refine qR_st (st' := [.int (nI (a + 2)), .ref 77, .int (xs (a + 1)), .ref 47]) rfl (by rw [nI_p2] <;> rfl) rfl ?_
  refine qr_sldN (j := (a + 2)) (fun _ _ _ _ h => h) (pc := 292) d_lw_law_292 (by omega) hLn ?_
  refine qr_callV (q := 47) (As := [.int (xs (a + 1)), .int (xs (a + 2))]) (pc := 293) d_lw_law_293 lk_lw_98 im_md_subscribe se_md_subscribe rfl (by decide) (by decide) (c_47 _ _) hm rfl rfl (Nat.le_of_ble_eq_true rfl) (Nat.le_of_ble_eq_true rfl) (Nat.le_of_ble_eq_true rfl) (by show kc + 1 + 0 ≤ 601024; omega) (by show ks + 6 + 0 ≤ 7293034; omega) (fun h => nomatch h) (fun v n9 f9 hE9 => ?_)
  obtain ⟨rfl, rfl, rfl⟩ := hE9
  refine qr_istore (lv' := [(6, .int b9), (5, .int k9), (0, .ref 77), (1, .ref 0), (2, .ref 47), (3, .ref 76), (4, .int (nI a))]) (pc := 296) d_lw_law_296 (Nat.le_of_ble_eq_true rfl) rfl ?_
  refine qr_goto (tgt := 834) (pc := 298) d_lw_law_298 (by decide) ?_
  refine qR_sub (lv' := lwV a) [2, 3, 4, 5, 6] rfl ?_
  exact kk _ _ hpost
set_option maxRecDepth 10000 in
theorem lc_pause {l : Launch} {b Ln : Nat} {xs : Nat → Int32} {E : qE} {X : qXC} {a kc ks : Nat} {I : Nat → Nat → Int32} {L : Nat → Nat → Int64} (ha : a + 5 ≤ Ln) (hLn : Ln < 2 ^ 31) (hkc : kc + 1 ≤ 601024) (hks : ks + 6 ≤ 7293034) (Post : (Nat → Nat → Int32) → (Nat → Nat → Int64) → Prop) {Ew : qE} {on : Int32} (hon : on = if xs (a + 2) = 0 then 0 else 1) (hW : qSpW l y_lw_pause b_lw_pause 5 (some .int) hh_pause 10 1 6 [.ref 0, .int (xs (a + 1)), .int on, .ref 76] 77 (fm I L) Ew) (hM : ∀ v n f, Ew v n f → ∃ (k9 : Int32) (I1 : Nat → Nat → Int32) (L1 : Nat → Nat → Int64) (b9 : Int32) (I2 : Nat → Nat → Int32) (L2 : Nat → Nat → Int64), some (.int k9) = v ∧ 77 = n ∧ fm I1 L1 = f ∧ qSp l y_md_pause b_md_pause 4 (some .boolean) false 2 0 0 [.ref 47, .int (xs (a + 1)), .int on] 77 (fm I1 L1) (qD (some (.int b9)) 77 (fm I2 L2)) ∧ Post I2 L2) (kk : ∀ I2 L2, Post I2 L2 → qR (qKL l b Ln xs) E X 834 (lwV a) [] 77 (kc + 1) (ks + 6) (fm I2 L2)) : qR (qKL l b Ln xs) E X 301 (lwV a) [] 77 kc ks (fm I L) := by
  refine qr_aload_n (pc := 301) d_lw_law_301 rfl rfl ?_
  refine qr_aload_n (pc := 302) d_lw_law_302 rfl rfl ?_
  refine qr_iload (pc := 303) d_lw_law_303 rfl ?_
  refine qr_iconst (v := 1) (pc := 305) d_lw_law_305 (by decide) ?_
  refine qr_iadd (pc := 306) d_lw_law_306 ?_
  refine qR_st (st' := [.int (nI (a + 1)), .ref 77, .ref 0]) rfl (by rw [nI_1] <;> rfl) rfl ?_
  refine qr_sldN (j := (a + 1)) (fun _ _ _ _ h => h) (pc := 307) d_lw_law_307 (by omega) hLn ?_
  refine qr_aload_n (pc := 308) d_lw_law_308 rfl rfl ?_
  refine qr_iload (pc := 309) d_lw_law_309 rfl ?_
  refine qr_iconst (v := 2) (pc := 311) d_lw_law_311 (by decide) ?_
  refine qr_iadd (pc := 312) d_lw_law_312 ?_
  refine qR_st (st' := [.int (nI (a + 2)), .ref 77, .int (xs (a + 1)), .ref 0]) rfl (by rw [nI_p2] <;> rfl) rfl ?_
  refine qr_sldN (j := (a + 2)) (fun _ _ _ _ h => h) (pc := 313) d_lw_law_313 (by omega) hLn ?_
  refine qr_if_eq (tgt := 321) (pc := 314) d_lw_law_314 (by decide) (fun hz0 => ?_) (fun hz0 => ?_)
  · skip
    refine qr_iconst (v := 0) (pc := 321) d_lw_law_321 (by decide) ?_
    refine qr_aload_n (pc := 322) d_lw_law_322 rfl rfl ?_
    refine qR_st (st' := [.ref 76, .int on, .int (xs (a + 1)), .ref 0]) rfl (by rw [hon, if_pos hz0]) rfl ?_
    refine qr_callSW (hh := hh_pause) (na := 4) (As := [.ref 0, .int (xs (a + 1)), .int on, .ref 76]) (pc := 323) d_lw_law_323 lk_lw_99 ii_lw cw_pause ⟨by decide, by decide⟩ (by decide +kernel) sm_lw_pause hW rfl rfl (Nat.le_of_ble_eq_true rfl) (Nat.le_of_ble_eq_true rfl) (Nat.le_of_ble_eq_true rfl) hkc hks (fun v n9 f9 hE => ?_)
    obtain ⟨k9, I1, L1, b9, I2, L2, rfl, rfl, rfl, hm, hpost⟩ := hM _ _ _ hE
    refine qr_istore (lv' := [(5, .int k9), (0, .ref 77), (1, .ref 0), (2, .ref 47), (3, .ref 76), (4, .int (nI a))]) (pc := 326) d_lw_law_326 (Nat.le_of_ble_eq_true rfl) rfl ?_
    refine qr_aload_n (pc := 328) d_lw_law_328 rfl rfl ?_
    refine qr_aload_n (pc := 329) d_lw_law_329 rfl rfl ?_
    refine qr_iload (pc := 330) d_lw_law_330 rfl ?_
    refine qr_iconst (v := 1) (pc := 332) d_lw_law_332 (by decide) ?_
    refine qr_iadd (pc := 333) d_lw_law_333 ?_
    refine qR_st (st' := [.int (nI (a + 1)), .ref 77, .ref 47]) rfl (by rw [nI_1] <;> rfl) rfl ?_
    refine qr_sldN (j := (a + 1)) (fun _ _ _ _ h => h) (pc := 334) d_lw_law_334 (by omega) hLn ?_
    refine qr_aload_n (pc := 335) d_lw_law_335 rfl rfl ?_
    refine qr_iload (pc := 336) d_lw_law_336 rfl ?_
    refine qr_iconst (v := 2) (pc := 338) d_lw_law_338 (by decide) ?_
    refine qr_iadd (pc := 339) d_lw_law_339 ?_
    refine qR_st (st' := [.int (nI (a + 2)), .ref 77, .int (xs (a + 1)), .ref 47]) rfl (by rw [nI_p2] <;> rfl) rfl ?_
    refine qr_sldN (j := (a + 2)) (fun _ _ _ _ h => h) (pc := 340) d_lw_law_340 (by omega) hLn ?_
    refine qr_if_eq (tgt := 348) (pc := 341) d_lw_law_341 (by decide) (fun _ => ?_) (fun h => absurd hz0 h)
    refine qr_iconst (v := 0) (pc := 348) d_lw_law_348 (by decide) ?_
    refine qR_st (st' := [.int on, .int (xs (a + 1)), .ref 47]) rfl (by rw [hon, if_pos hz0]) rfl ?_
    refine qr_callV (q := 47) (As := [.int (xs (a + 1)), .int on]) (pc := 349) d_lw_law_349 lk_lw_102 im_md_pause se_md_pause rfl (by decide) (by decide) (c_47 _ _) hm rfl rfl (Nat.le_of_ble_eq_true rfl) (Nat.le_of_ble_eq_true rfl) (Nat.le_of_ble_eq_true rfl) (by show kc + 1 + 0 ≤ 601024; omega) (by show ks + 6 + 0 ≤ 7293034; omega) (fun h => nomatch h) (fun v n9 f9 hE9 => ?_)
    obtain ⟨rfl, rfl, rfl⟩ := hE9
    refine qr_istore (lv' := [(6, .int b9), (5, .int k9), (0, .ref 77), (1, .ref 0), (2, .ref 47), (3, .ref 76), (4, .int (nI a))]) (pc := 352) d_lw_law_352 (Nat.le_of_ble_eq_true rfl) rfl ?_
    refine qr_goto (tgt := 834) (pc := 354) d_lw_law_354 (by decide) ?_
    refine qR_sub (lv' := lwV a) [2, 3, 4, 5, 6] rfl ?_
    exact kk _ _ hpost
  · skip
    refine qr_iconst (v := 1) (pc := 317) d_lw_law_317 (by decide) ?_
    refine qr_goto (tgt := 322) (pc := 318) d_lw_law_318 (by decide) ?_
    refine qr_aload_n (pc := 322) d_lw_law_322 rfl rfl ?_
    refine qR_st (st' := [.ref 76, .int on, .int (xs (a + 1)), .ref 0]) rfl (by rw [hon, if_neg hz0]) rfl ?_
    refine qr_callSW (hh := hh_pause) (na := 4) (As := [.ref 0, .int (xs (a + 1)), .int on, .ref 76]) (pc := 323) d_lw_law_323 lk_lw_99 ii_lw cw_pause ⟨by decide, by decide⟩ (by decide +kernel) sm_lw_pause hW rfl rfl (Nat.le_of_ble_eq_true rfl) (Nat.le_of_ble_eq_true rfl) (Nat.le_of_ble_eq_true rfl) hkc hks (fun v n9 f9 hE => ?_)
    obtain ⟨k9, I1, L1, b9, I2, L2, rfl, rfl, rfl, hm, hpost⟩ := hM _ _ _ hE
    refine qr_istore (lv' := [(5, .int k9), (0, .ref 77), (1, .ref 0), (2, .ref 47), (3, .ref 76), (4, .int (nI a))]) (pc := 326) d_lw_law_326 (Nat.le_of_ble_eq_true rfl) rfl ?_
    refine qr_aload_n (pc := 328) d_lw_law_328 rfl rfl ?_
    refine qr_aload_n (pc := 329) d_lw_law_329 rfl rfl ?_
    refine qr_iload (pc := 330) d_lw_law_330 rfl ?_
    refine qr_iconst (v := 1) (pc := 332) d_lw_law_332 (by decide) ?_
    refine qr_iadd (pc := 333) d_lw_law_333 ?_
    refine qR_st (st' := [.int (nI (a + 1)), .ref 77, .ref 47]) rfl (by rw [nI_1] <;> rfl) rfl ?_
    refine qr_sldN (j := (a + 1)) (fun _ _ _ _ h => h) (pc := 334) d_lw_law_334 (by omega) hLn ?_
    refine qr_aload_n (pc := 335) d_lw_law_335 rfl rfl ?_
    refine qr_iload (pc := 336) d_lw_law_336 rfl ?_
    refine qr_iconst (v := 2) (pc := 338) d_lw_law_338 (by decide) ?_
    refine qr_iadd (pc := 339) d_lw_law_339 ?_
    refine qR_st (st' := [.int (nI (a + 2)), .ref 77, .int (xs (a + 1)), .ref 47]) rfl (by rw [nI_p2] <;> rfl) rfl ?_
    refine qr_sldN (j := (a + 2)) (fun _ _ _ _ h => h) (pc := 340) d_lw_law_340 (by omega) hLn ?_
    refine qr_if_eq (tgt := 348) (pc := 341) d_lw_law_341 (by decide) (fun h => absurd h hz0) (fun _ => ?_)
    refine qr_iconst (v := 1) (pc := 344) d_lw_law_344 (by decide) ?_
    refine qr_goto (tgt := 349) (pc := 345) d_lw_law_345 (by decide) ?_
    refine qR_st (st' := [.int on, .int (xs (a + 1)), .ref 47]) rfl (by rw [hon, if_neg hz0]) rfl ?_
    refine qr_callV (q := 47) (As := [.int (xs (a + 1)), .int on]) (pc := 349) d_lw_law_349 lk_lw_102 im_md_pause se_md_pause rfl (by decide) (by decide) (c_47 _ _) hm rfl rfl (Nat.le_of_ble_eq_true rfl) (Nat.le_of_ble_eq_true rfl) (Nat.le_of_ble_eq_true rfl) (by show kc + 1 + 0 ≤ 601024; omega) (by show ks + 6 + 0 ≤ 7293034; omega) (fun h => nomatch h) (fun v n9 f9 hE9 => ?_)
    obtain ⟨rfl, rfl, rfl⟩ := hE9
    refine qr_istore (lv' := [(6, .int b9), (5, .int k9), (0, .ref 77), (1, .ref 0), (2, .ref 47), (3, .ref 76), (4, .int (nI a))]) (pc := 352) d_lw_law_352 (Nat.le_of_ble_eq_true rfl) rfl ?_
    refine qr_goto (tgt := 834) (pc := 354) d_lw_law_354 (by decide) ?_
    refine qR_sub (lv' := lwV a) [2, 3, 4, 5, 6] rfl ?_
    exact kk _ _ hpost
set_option maxRecDepth 10000 in
theorem lc_event {l : Launch} {b Ln : Nat} {xs : Nat → Int32} {E : qE} {X : qXC} {a kc ks : Nat} {I : Nat → Nat → Int32} {L : Nat → Nat → Int64} (ha : a + 5 ≤ Ln) (hLn : Ln < 2 ^ 31) (hkc : kc + 1 ≤ 601024) (hks : ks + 6 ≤ 7293034) (Post : (Nat → Nat → Int32) → (Nat → Nat → Int64) → Prop) {Ew : qE} (hW : qSpW l y_lw_event b_lw_event 7 (some .int) hh_event 10 1 6 [.ref 0, .int (xs (a + 1)), .int (xs (a + 2)), .int (xs (a + 3)), .int (xs (a + 4)), .ref 76] 77 (fm I L) Ew) (hM : ∀ v n f, Ew v n f → ∃ (k9 : Int32) (I1 : Nat → Nat → Int32) (L1 : Nat → Nat → Int64) (b9 : Int32) (I2 : Nat → Nat → Int32) (L2 : Nat → Nat → Int64), some (.int k9) = v ∧ 77 = n ∧ fm I1 L1 = f ∧ qSp l y_md_event b_md_event 6 (some .int) false 2 0 0 [.ref 47, .int (xs (a + 1)), .int (xs (a + 2)), .int (xs (a + 3)), .int (xs (a + 4))] 77 (fm I1 L1) (qD (some (.int b9)) 77 (fm I2 L2)) ∧ Post I2 L2) (kk : ∀ I2 L2, Post I2 L2 → qR (qKL l b Ln xs) E X 834 (lwV a) [] 77 (kc + 1) (ks + 6) (fm I2 L2)) : qR (qKL l b Ln xs) E X 357 (lwV a) [] 77 kc ks (fm I L) := by
  refine qr_aload_n (pc := 357) d_lw_law_357 rfl rfl ?_
  refine qr_aload_n (pc := 358) d_lw_law_358 rfl rfl ?_
  refine qr_iload (pc := 359) d_lw_law_359 rfl ?_
  refine qr_iconst (v := 1) (pc := 361) d_lw_law_361 (by decide) ?_
  refine qr_iadd (pc := 362) d_lw_law_362 ?_
  refine qR_st (st' := [.int (nI (a + 1)), .ref 77, .ref 0]) rfl (by rw [nI_1] <;> rfl) rfl ?_
  refine qr_sldN (j := (a + 1)) (fun _ _ _ _ h => h) (pc := 363) d_lw_law_363 (by omega) hLn ?_
  refine qr_aload_n (pc := 364) d_lw_law_364 rfl rfl ?_
  refine qr_iload (pc := 365) d_lw_law_365 rfl ?_
  refine qr_iconst (v := 2) (pc := 367) d_lw_law_367 (by decide) ?_
  refine qr_iadd (pc := 368) d_lw_law_368 ?_
  refine qR_st (st' := [.int (nI (a + 2)), .ref 77, .int (xs (a + 1)), .ref 0]) rfl (by rw [nI_p2] <;> rfl) rfl ?_
  refine qr_sldN (j := (a + 2)) (fun _ _ _ _ h => h) (pc := 369) d_lw_law_369 (by omega) hLn ?_
  refine qr_aload_n (pc := 370) d_lw_law_370 rfl rfl ?_
  refine qr_iload (pc := 371) d_lw_law_371 rfl ?_
  refine qr_iconst (v := 3) (pc := 373) d_lw_law_373 (by decide) ?_
  refine qr_iadd (pc := 374) d_lw_law_374 ?_
  refine qR_st (st' := [.int (nI (a + 3)), .ref 77, .int (xs (a + 2)), .int (xs (a + 1)), .ref 0]) rfl (by rw [nI_p3] <;> rfl) rfl ?_
  refine qr_sldN (j := (a + 3)) (fun _ _ _ _ h => h) (pc := 375) d_lw_law_375 (by omega) hLn ?_
  refine qr_aload_n (pc := 376) d_lw_law_376 rfl rfl ?_
  refine qr_iload (pc := 377) d_lw_law_377 rfl ?_
  refine qr_iconst (v := 4) (pc := 379) d_lw_law_379 (by decide) ?_
  refine qr_iadd (pc := 380) d_lw_law_380 ?_
  refine qR_st (st' := [.int (nI (a + 4)), .ref 77, .int (xs (a + 3)), .int (xs (a + 2)), .int (xs (a + 1)), .ref 0]) rfl (by rw [nI_p4] <;> rfl) rfl ?_
  refine qr_sldN (j := (a + 4)) (fun _ _ _ _ h => h) (pc := 381) d_lw_law_381 (by omega) hLn ?_
  refine qr_aload_n (pc := 382) d_lw_law_382 rfl rfl ?_
  refine qr_callSW (hh := hh_event) (na := 6) (As := [.ref 0, .int (xs (a + 1)), .int (xs (a + 2)), .int (xs (a + 3)), .int (xs (a + 4)), .ref 76]) (pc := 383) d_lw_law_383 lk_lw_103 ii_lw cw_event ⟨by decide, by decide⟩ (by decide +kernel) sm_lw_event hW rfl rfl (Nat.le_of_ble_eq_true rfl) (Nat.le_of_ble_eq_true rfl) (Nat.le_of_ble_eq_true rfl) hkc hks (fun v n9 f9 hE => ?_)
  obtain ⟨k9, I1, L1, b9, I2, L2, rfl, rfl, rfl, hm, hpost⟩ := hM _ _ _ hE
  refine qr_istore (lv' := [(5, .int k9), (0, .ref 77), (1, .ref 0), (2, .ref 47), (3, .ref 76), (4, .int (nI a))]) (pc := 386) d_lw_law_386 (Nat.le_of_ble_eq_true rfl) rfl ?_
  refine qr_aload_n (pc := 388) d_lw_law_388 rfl rfl ?_
  refine qr_aload_n (pc := 389) d_lw_law_389 rfl rfl ?_
  refine qr_iload (pc := 390) d_lw_law_390 rfl ?_
  refine qr_iconst (v := 1) (pc := 392) d_lw_law_392 (by decide) ?_
  refine qr_iadd (pc := 393) d_lw_law_393 ?_
  refine qR_st (st' := [.int (nI (a + 1)), .ref 77, .ref 47]) rfl (by rw [nI_1] <;> rfl) rfl ?_
  refine qr_sldN (j := (a + 1)) (fun _ _ _ _ h => h) (pc := 394) d_lw_law_394 (by omega) hLn ?_
  refine qr_aload_n (pc := 395) d_lw_law_395 rfl rfl ?_
  refine qr_iload (pc := 396) d_lw_law_396 rfl ?_
  refine qr_iconst (v := 2) (pc := 398) d_lw_law_398 (by decide) ?_
  refine qr_iadd (pc := 399) d_lw_law_399 ?_
  refine qR_st (st' := [.int (nI (a + 2)), .ref 77, .int (xs (a + 1)), .ref 47]) rfl (by rw [nI_p2] <;> rfl) rfl ?_
  refine qr_sldN (j := (a + 2)) (fun _ _ _ _ h => h) (pc := 400) d_lw_law_400 (by omega) hLn ?_
  refine qr_aload_n (pc := 401) d_lw_law_401 rfl rfl ?_
  refine qr_iload (pc := 402) d_lw_law_402 rfl ?_
  refine qr_iconst (v := 3) (pc := 404) d_lw_law_404 (by decide) ?_
  refine qr_iadd (pc := 405) d_lw_law_405 ?_
  refine qR_st (st' := [.int (nI (a + 3)), .ref 77, .int (xs (a + 2)), .int (xs (a + 1)), .ref 47]) rfl (by rw [nI_p3] <;> rfl) rfl ?_
  refine qr_sldN (j := (a + 3)) (fun _ _ _ _ h => h) (pc := 406) d_lw_law_406 (by omega) hLn ?_
  refine qr_aload_n (pc := 407) d_lw_law_407 rfl rfl ?_
  refine qr_iload (pc := 408) d_lw_law_408 rfl ?_
  refine qr_iconst (v := 4) (pc := 410) d_lw_law_410 (by decide) ?_
  refine qr_iadd (pc := 411) d_lw_law_411 ?_
  refine qR_st (st' := [.int (nI (a + 4)), .ref 77, .int (xs (a + 3)), .int (xs (a + 2)), .int (xs (a + 1)), .ref 47]) rfl (by rw [nI_p4] <;> rfl) rfl ?_
  refine qr_sldN (j := (a + 4)) (fun _ _ _ _ h => h) (pc := 412) d_lw_law_412 (by omega) hLn ?_
  refine qr_callV (q := 47) (As := [.int (xs (a + 1)), .int (xs (a + 2)), .int (xs (a + 3)), .int (xs (a + 4))]) (pc := 413) d_lw_law_413 lk_lw_106 im_md_event se_md_event rfl (by decide) (by decide) (c_47 _ _) hm rfl rfl (Nat.le_of_ble_eq_true rfl) (Nat.le_of_ble_eq_true rfl) (Nat.le_of_ble_eq_true rfl) (by show kc + 1 + 0 ≤ 601024; omega) (by show ks + 6 + 0 ≤ 7293034; omega) (fun h => nomatch h) (fun v n9 f9 hE9 => ?_)
  obtain ⟨rfl, rfl, rfl⟩ := hE9
  refine qr_istore (lv' := [(6, .int b9), (5, .int k9), (0, .ref 77), (1, .ref 0), (2, .ref 47), (3, .ref 76), (4, .int (nI a))]) (pc := 416) d_lw_law_416 (Nat.le_of_ble_eq_true rfl) rfl ?_
  refine qr_goto (tgt := 834) (pc := 418) d_lw_law_418 (by decide) ?_
  refine qR_sub (lv' := lwV a) [2, 3, 4, 5, 6] rfl ?_
  exact kk _ _ hpost
set_option maxRecDepth 10000 in
theorem lc_tick {l : Launch} {b Ln : Nat} {xs : Nat → Int32} {E : qE} {X : qXC} {a kc ks : Nat} {I : Nat → Nat → Int32} {L : Nat → Nat → Int64} (ha : a + 5 ≤ Ln) (hLn : Ln < 2 ^ 31) (hkc : kc + 1 ≤ 601024) (hks : ks + 6 ≤ 7293034) (Post : (Nat → Nat → Int32) → (Nat → Nat → Int64) → Prop) {Ew : qE} (hW : qSpW l y_lw_tick b_lw_tick 4 (some .int) hh_tick 10 1 6 [.ref 0, .int (xs (a + 1)), .ref 76] 77 (fm I L) Ew) (hM : ∀ v n f, Ew v n f → ∃ (k9 : Int32) (I1 : Nat → Nat → Int32) (L1 : Nat → Nat → Int64) (b9 : Int32) (I2 : Nat → Nat → Int32) (L2 : Nat → Nat → Int64), some (.int k9) = v ∧ 77 = n ∧ fm I1 L1 = f ∧ qSp l y_md_tick b_md_tick 4 (some .int) false 3 0 0 [.ref 47, .int (xs (a + 1))] 77 (fm I1 L1) (qD (some (.int b9)) 77 (fm I2 L2)) ∧ Post I2 L2) (kk : ∀ I2 L2, Post I2 L2 → qR (qKL l b Ln xs) E X 834 (lwV a) [] 77 (kc + 1) (ks + 6) (fm I2 L2)) : qR (qKL l b Ln xs) E X 421 (lwV a) [] 77 kc ks (fm I L) := by
  refine qr_aload_n (pc := 421) d_lw_law_421 rfl rfl ?_
  refine qr_aload_n (pc := 422) d_lw_law_422 rfl rfl ?_
  refine qr_iload (pc := 423) d_lw_law_423 rfl ?_
  refine qr_iconst (v := 1) (pc := 425) d_lw_law_425 (by decide) ?_
  refine qr_iadd (pc := 426) d_lw_law_426 ?_
  refine qR_st (st' := [.int (nI (a + 1)), .ref 77, .ref 0]) rfl (by rw [nI_1] <;> rfl) rfl ?_
  refine qr_sldN (j := (a + 1)) (fun _ _ _ _ h => h) (pc := 427) d_lw_law_427 (by omega) hLn ?_
  refine qr_aload_n (pc := 428) d_lw_law_428 rfl rfl ?_
  refine qr_callSW (hh := hh_tick) (na := 3) (As := [.ref 0, .int (xs (a + 1)), .ref 76]) (pc := 429) d_lw_law_429 lk_lw_107 ii_lw cw_tick ⟨by decide, by decide⟩ (by decide +kernel) sm_lw_tick hW rfl rfl (Nat.le_of_ble_eq_true rfl) (Nat.le_of_ble_eq_true rfl) (Nat.le_of_ble_eq_true rfl) hkc hks (fun v n9 f9 hE => ?_)
  obtain ⟨k9, I1, L1, b9, I2, L2, rfl, rfl, rfl, hm, hpost⟩ := hM _ _ _ hE
  refine qr_istore (lv' := [(5, .int k9), (0, .ref 77), (1, .ref 0), (2, .ref 47), (3, .ref 76), (4, .int (nI a))]) (pc := 432) d_lw_law_432 (Nat.le_of_ble_eq_true rfl) rfl ?_
  refine qr_aload_n (pc := 434) d_lw_law_434 rfl rfl ?_
  refine qr_aload_n (pc := 435) d_lw_law_435 rfl rfl ?_
  refine qr_iload (pc := 436) d_lw_law_436 rfl ?_
  refine qr_iconst (v := 1) (pc := 438) d_lw_law_438 (by decide) ?_
  refine qr_iadd (pc := 439) d_lw_law_439 ?_
  refine qR_st (st' := [.int (nI (a + 1)), .ref 77, .ref 47]) rfl (by rw [nI_1] <;> rfl) rfl ?_
  refine qr_sldN (j := (a + 1)) (fun _ _ _ _ h => h) (pc := 440) d_lw_law_440 (by omega) hLn ?_
  refine qr_callV (q := 47) (As := [.int (xs (a + 1))]) (pc := 441) d_lw_law_441 lk_lw_109 im_md_tick se_md_tick rfl (by decide) (by decide) (c_47 _ _) hm rfl rfl (Nat.le_of_ble_eq_true rfl) (Nat.le_of_ble_eq_true rfl) (Nat.le_of_ble_eq_true rfl) (by show kc + 1 + 0 ≤ 601024; omega) (by show ks + 6 + 0 ≤ 7293034; omega) (fun h => nomatch h) (fun v n9 f9 hE9 => ?_)
  obtain ⟨rfl, rfl, rfl⟩ := hE9
  refine qr_istore (lv' := [(6, .int b9), (5, .int k9), (0, .ref 77), (1, .ref 0), (2, .ref 47), (3, .ref 76), (4, .int (nI a))]) (pc := 444) d_lw_law_444 (Nat.le_of_ble_eq_true rfl) rfl ?_
  refine qr_goto (tgt := 834) (pc := 446) d_lw_law_446 (by decide) ?_
  refine qR_sub (lv' := lwV a) [2, 3, 4, 5, 6] rfl ?_
  exact kk _ _ hpost
set_option maxRecDepth 10000 in
theorem lc_run {l : Launch} {b Ln : Nat} {xs : Nat → Int32} {E : qE} {X : qXC} {a kc ks : Nat} {I : Nat → Nat → Int32} {L : Nat → Nat → Int64} (ha : a + 5 ≤ Ln) (hLn : Ln < 2 ^ 31) (hkc : kc + 1 ≤ 601024) (hks : ks + 6 ≤ 7293034) (Post : (Nat → Nat → Int32) → (Nat → Nat → Int64) → Prop) {r r2 : Int32} {I1 I2 : Nat → Nat → Int32} {L1 L2 : Nat → Nat → Int64} (hW : qSp l y_bf_run b_bf_run 4 (some .int) false 9 0 0 [.ref 0] 77 (fm I L) (qD (some (.int r)) 77 (fm I1 L1))) (hM : qSp l y_md_run b_md_run 9 (some .int) false 6 0 0 [.ref 47] 77 (fm I1 L1) (qD (some (.int r2)) 77 (fm I2 L2))) (hp : Post I2 L2) (kk : ∀ I2 L2, Post I2 L2 → qR (qKL l b Ln xs) E X 834 (lwV a) [] 77 kc ks (fm I2 L2)) : qR (qKL l b Ln xs) E X 449 (lwV a) [] 77 kc ks (fm I L) := by
  refine qr_aload_n (pc := 449) d_lw_law_449 rfl rfl ?_
  refine qr_callV (q := 0) (As := []) (pc := 450) d_lw_law_450 lk_lw_110 im_bf_run se_bf_run rfl (by decide) (by decide) (c_0 _ _) hW rfl rfl (Nat.le_of_ble_eq_true rfl) (Nat.le_of_ble_eq_true rfl) (Nat.le_of_ble_eq_true rfl) (by show kc + 0 ≤ 601024; omega) (by show ks + 0 ≤ 7293034; omega) (fun h => nomatch h) (fun v n9 f9 hE => ?_)
  obtain ⟨rfl, rfl, rfl⟩ := hE
  refine qr_pop (pc := 453) d_lw_law_453 rfl ?_
  refine qr_aload_n (pc := 454) d_lw_law_454 rfl rfl ?_
  refine qr_callV (q := 47) (As := []) (pc := 455) d_lw_law_455 lk_lw_113 im_md_run se_md_run rfl (by decide) (by decide) (c_47 _ _) hM rfl rfl (Nat.le_of_ble_eq_true rfl) (Nat.le_of_ble_eq_true rfl) (Nat.le_of_ble_eq_true rfl) (by show kc + 0 + 0 ≤ 601024; omega) (by show ks + 0 + 0 ≤ 7293034; omega) (fun h => nomatch h) (fun v n9 f9 hE => ?_)
  obtain ⟨rfl, rfl, rfl⟩ := hE
  refine qr_pop (pc := 458) d_lw_law_458 rfl ?_
  refine qr_goto (tgt := 834) (pc := 459) d_lw_law_459 (by decide) ?_
  exact kk _ _ hp
set_option maxRecDepth 10000 in
theorem lc_pay {l : Launch} {b Ln : Nat} {xs : Nat → Int32} {E : qE} {X : qXC} {a kc ks : Nat} {I : Nat → Nat → Int32} {L : Nat → Nat → Int64} (ha : a + 5 ≤ Ln) (hLn : Ln < 2 ^ 31) (hkc : kc + 1 ≤ 601024) (hks : ks + 6 ≤ 7293034) (Post : (Nat → Nat → Int32) → (Nat → Nat → Int64) → Prop) {Ew : qE} (hW : qSpW l y_lw_pay b_lw_pay 6 (some .int) hh_pay 10 1 6 [.ref 0, .int (xs (a + 1)), .long (lwJ (xs (a + 2)) (xs (a + 3))), .ref 76] 77 (fm I L) Ew) (hM : ∀ v n f, Ew v n f → ∃ (k9 : Int32) (I1 : Nat → Nat → Int32) (L1 : Nat → Nat → Int64) (b9 : Int64) (I2 : Nat → Nat → Int32) (L2 : Nat → Nat → Int64), some (.int k9) = v ∧ 77 = n ∧ fm I1 L1 = f ∧ qSp l y_md_pay b_md_pay 6 (some .long) false 4 0 0 [.ref 47, .int (xs (a + 1)), .long (lwJ (xs (a + 2)) (xs (a + 3)))] 77 (fm I1 L1) (qD (some (.long b9)) 77 (fm I2 L2)) ∧ Post I2 L2) (kk : ∀ I2 L2, Post I2 L2 → qR (qKL l b Ln xs) E X 834 (lwV a) [] 77 (kc + 1) (ks + 6) (fm I2 L2)) : qR (qKL l b Ln xs) E X 462 (lwV a) [] 77 kc ks (fm I L) := by
  refine qr_aload_n (pc := 462) d_lw_law_462 rfl rfl ?_
  refine qr_aload_n (pc := 463) d_lw_law_463 rfl rfl ?_
  refine qr_iload (pc := 464) d_lw_law_464 rfl ?_
  refine qr_iconst (v := 1) (pc := 466) d_lw_law_466 (by decide) ?_
  refine qr_iadd (pc := 467) d_lw_law_467 ?_
  refine qR_st (st' := [.int (nI (a + 1)), .ref 77, .ref 0]) rfl (by rw [nI_1] <;> rfl) rfl ?_
  refine qr_sldN (j := (a + 1)) (fun _ _ _ _ h => h) (pc := 468) d_lw_law_468 (by omega) hLn ?_
  refine qr_aload_n (pc := 469) d_lw_law_469 rfl rfl ?_
  refine qr_iload (pc := 470) d_lw_law_470 rfl ?_
  refine qr_iconst (v := 2) (pc := 472) d_lw_law_472 (by decide) ?_
  refine qr_iadd (pc := 473) d_lw_law_473 ?_
  refine qR_st (st' := [.int (nI (a + 2)), .ref 77, .int (xs (a + 1)), .ref 0]) rfl (by rw [nI_p2] <;> rfl) rfl ?_
  refine qr_sldN (j := (a + 2)) (fun _ _ _ _ h => h) (pc := 474) d_lw_law_474 (by omega) hLn ?_
  refine qr_i2l (pc := 475) d_lw_law_475 ?_
  refine qr_bipush (v := 32) (pc := 476) d_lw_law_476 (by decide) ?_
  refine qr_lshl (pc := 478) d_lw_law_478 ?_
  refine qr_aload_n (pc := 479) d_lw_law_479 rfl rfl ?_
  refine qr_iload (pc := 480) d_lw_law_480 rfl ?_
  refine qr_iconst (v := 3) (pc := 482) d_lw_law_482 (by decide) ?_
  refine qr_iadd (pc := 483) d_lw_law_483 ?_
  refine qR_st (st' := [.int (nI (a + 3)), .ref 77, .long ((Int32.toInt64 (xs (a + 2))) <<< ((Int32.toInt64 32) &&& 63)), .int (xs (a + 1)), .ref 0]) rfl (by rw [nI_p3] <;> rfl) rfl ?_
  refine qr_sldN (j := (a + 3)) (fun _ _ _ _ h => h) (pc := 484) d_lw_law_484 (by omega) hLn ?_
  refine qr_i2l (pc := 485) d_lw_law_485 ?_
  refine qr_ldc2 (v := 4294967295) (pc := 486) d_lw_law_486 kl_lw_75 ?_
  refine qr_land (pc := 489) d_lw_law_489 ?_
  refine qr_lor (pc := 490) d_lw_law_490 ?_
  refine qR_st (st' := [.long (lwJ (xs (a + 2)) (xs (a + 3))), .int (xs (a + 1)), .ref 0]) rfl rfl rfl ?_
  refine qr_aload_n (pc := 491) d_lw_law_491 rfl rfl ?_
  refine qr_callSW (hh := hh_pay) (na := 4) (As := [.ref 0, .int (xs (a + 1)), .long (lwJ (xs (a + 2)) (xs (a + 3))), .ref 76]) (pc := 492) d_lw_law_492 lk_lw_114 ii_lw cw_pay ⟨by decide, by decide⟩ (by decide +kernel) sm_lw_pay hW rfl rfl (Nat.le_of_ble_eq_true rfl) (Nat.le_of_ble_eq_true rfl) (Nat.le_of_ble_eq_true rfl) hkc hks (fun v n9 f9 hE => ?_)
  obtain ⟨k9, I1, L1, b9, I2, L2, rfl, rfl, rfl, hm, hpost⟩ := hM _ _ _ hE
  refine qr_istore (lv' := [(5, .int k9), (0, .ref 77), (1, .ref 0), (2, .ref 47), (3, .ref 76), (4, .int (nI a))]) (pc := 495) d_lw_law_495 (Nat.le_of_ble_eq_true rfl) rfl ?_
  refine qr_aload_n (pc := 497) d_lw_law_497 rfl rfl ?_
  refine qr_aload_n (pc := 498) d_lw_law_498 rfl rfl ?_
  refine qr_iload (pc := 499) d_lw_law_499 rfl ?_
  refine qr_iconst (v := 1) (pc := 501) d_lw_law_501 (by decide) ?_
  refine qr_iadd (pc := 502) d_lw_law_502 ?_
  refine qR_st (st' := [.int (nI (a + 1)), .ref 77, .ref 47]) rfl (by rw [nI_1] <;> rfl) rfl ?_
  refine qr_sldN (j := (a + 1)) (fun _ _ _ _ h => h) (pc := 503) d_lw_law_503 (by omega) hLn ?_
  refine qr_aload_n (pc := 504) d_lw_law_504 rfl rfl ?_
  refine qr_iload (pc := 505) d_lw_law_505 rfl ?_
  refine qr_iconst (v := 2) (pc := 507) d_lw_law_507 (by decide) ?_
  refine qr_iadd (pc := 508) d_lw_law_508 ?_
  refine qR_st (st' := [.int (nI (a + 2)), .ref 77, .int (xs (a + 1)), .ref 47]) rfl (by rw [nI_p2] <;> rfl) rfl ?_
  refine qr_sldN (j := (a + 2)) (fun _ _ _ _ h => h) (pc := 509) d_lw_law_509 (by omega) hLn ?_
  refine qr_i2l (pc := 510) d_lw_law_510 ?_
  refine qr_bipush (v := 32) (pc := 511) d_lw_law_511 (by decide) ?_
  refine qr_lshl (pc := 513) d_lw_law_513 ?_
  refine qr_aload_n (pc := 514) d_lw_law_514 rfl rfl ?_
  refine qr_iload (pc := 515) d_lw_law_515 rfl ?_
  refine qr_iconst (v := 3) (pc := 517) d_lw_law_517 (by decide) ?_
  refine qr_iadd (pc := 518) d_lw_law_518 ?_
  refine qR_st (st' := [.int (nI (a + 3)), .ref 77, .long ((Int32.toInt64 (xs (a + 2))) <<< ((Int32.toInt64 32) &&& 63)), .int (xs (a + 1)), .ref 47]) rfl (by rw [nI_p3] <;> rfl) rfl ?_
  refine qr_sldN (j := (a + 3)) (fun _ _ _ _ h => h) (pc := 519) d_lw_law_519 (by omega) hLn ?_
  refine qr_i2l (pc := 520) d_lw_law_520 ?_
  refine qr_ldc2 (v := 4294967295) (pc := 521) d_lw_law_521 kl_lw_75 ?_
  refine qr_land (pc := 524) d_lw_law_524 ?_
  refine qr_lor (pc := 525) d_lw_law_525 ?_
  refine qR_st (st' := [.long (lwJ (xs (a + 2)) (xs (a + 3))), .int (xs (a + 1)), .ref 47]) rfl rfl rfl ?_
  refine qr_callV (q := 47) (As := [.int (xs (a + 1)), .long (lwJ (xs (a + 2)) (xs (a + 3)))]) (pc := 526) d_lw_law_526 lk_lw_117 im_md_pay se_md_pay rfl (by decide) (by decide) (c_47 _ _) hm rfl rfl (Nat.le_of_ble_eq_true rfl) (Nat.le_of_ble_eq_true rfl) (Nat.le_of_ble_eq_true rfl) (by show kc + 1 + 0 ≤ 601024; omega) (by show ks + 6 + 0 ≤ 7293034; omega) (fun h => nomatch h) (fun v n9 f9 hE9 => ?_)
  obtain ⟨rfl, rfl, rfl⟩ := hE9
  refine qr_lstore (lv' := [(6, .long b9), (5, .int k9), (0, .ref 77), (1, .ref 0), (2, .ref 47), (3, .ref 76), (4, .int (nI a))]) (pc := 529) d_lw_law_529 (Nat.le_of_ble_eq_true rfl) rfl ?_
  refine qr_goto (tgt := 834) (pc := 531) d_lw_law_531 (by decide) ?_
  refine qR_sub (lv' := lwV a) [2, 3, 4, 5, 6] rfl ?_
  exact kk _ _ hpost
set_option maxRecDepth 10000 in
theorem lc_plan {l : Launch} {b Ln : Nat} {xs : Nat → Int32} {E : qE} {X : qXC} {a kc ks : Nat} {I : Nat → Nat → Int32} {L : Nat → Nat → Int64} (ha : a + 5 ≤ Ln) (hLn : Ln < 2 ^ 31) (hkc : kc + 1 ≤ 601024) (hks : ks + 6 ≤ 7293034) (Post : (Nat → Nat → Int32) → (Nat → Nat → Int64) → Prop) {Ew : qE} (hW : qSpW l y_lw_plan b_lw_plan 7 (some .int) hh_plan 10 1 6 [.ref 0, .int (xs (a + 1)), .long (lwJ (xs (a + 2)) (xs (a + 3))), .int (xs (a + 4)), .ref 76] 77 (fm I L) Ew) (hM : ∀ v n f, Ew v n f → ∃ (k9 : Int32) (I1 : Nat → Nat → Int32) (L1 : Nat → Nat → Int64) (b9 : Int32) (I2 : Nat → Nat → Int32) (L2 : Nat → Nat → Int64), some (.int k9) = v ∧ 77 = n ∧ fm I1 L1 = f ∧ qSp l y_md_plan b_md_plan 5 (some .int) false 2 0 0 [.ref 47, .int (xs (a + 1)), .long (lwJ (xs (a + 2)) (xs (a + 3))), .int (xs (a + 4))] 77 (fm I1 L1) (qD (some (.int b9)) 77 (fm I2 L2)) ∧ Post I2 L2) (kk : ∀ I2 L2, Post I2 L2 → qR (qKL l b Ln xs) E X 834 (lwV a) [] 77 (kc + 1) (ks + 6) (fm I2 L2)) : qR (qKL l b Ln xs) E X 534 (lwV a) [] 77 kc ks (fm I L) := by
  refine qr_aload_n (pc := 534) d_lw_law_534 rfl rfl ?_
  refine qr_aload_n (pc := 535) d_lw_law_535 rfl rfl ?_
  refine qr_iload (pc := 536) d_lw_law_536 rfl ?_
  refine qr_iconst (v := 1) (pc := 538) d_lw_law_538 (by decide) ?_
  refine qr_iadd (pc := 539) d_lw_law_539 ?_
  refine qR_st (st' := [.int (nI (a + 1)), .ref 77, .ref 0]) rfl (by rw [nI_1] <;> rfl) rfl ?_
  refine qr_sldN (j := (a + 1)) (fun _ _ _ _ h => h) (pc := 540) d_lw_law_540 (by omega) hLn ?_
  refine qr_aload_n (pc := 541) d_lw_law_541 rfl rfl ?_
  refine qr_iload (pc := 542) d_lw_law_542 rfl ?_
  refine qr_iconst (v := 2) (pc := 544) d_lw_law_544 (by decide) ?_
  refine qr_iadd (pc := 545) d_lw_law_545 ?_
  refine qR_st (st' := [.int (nI (a + 2)), .ref 77, .int (xs (a + 1)), .ref 0]) rfl (by rw [nI_p2] <;> rfl) rfl ?_
  refine qr_sldN (j := (a + 2)) (fun _ _ _ _ h => h) (pc := 546) d_lw_law_546 (by omega) hLn ?_
  refine qr_i2l (pc := 547) d_lw_law_547 ?_
  refine qr_bipush (v := 32) (pc := 548) d_lw_law_548 (by decide) ?_
  refine qr_lshl (pc := 550) d_lw_law_550 ?_
  refine qr_aload_n (pc := 551) d_lw_law_551 rfl rfl ?_
  refine qr_iload (pc := 552) d_lw_law_552 rfl ?_
  refine qr_iconst (v := 3) (pc := 554) d_lw_law_554 (by decide) ?_
  refine qr_iadd (pc := 555) d_lw_law_555 ?_
  refine qR_st (st' := [.int (nI (a + 3)), .ref 77, .long ((Int32.toInt64 (xs (a + 2))) <<< ((Int32.toInt64 32) &&& 63)), .int (xs (a + 1)), .ref 0]) rfl (by rw [nI_p3] <;> rfl) rfl ?_
  refine qr_sldN (j := (a + 3)) (fun _ _ _ _ h => h) (pc := 556) d_lw_law_556 (by omega) hLn ?_
  refine qr_i2l (pc := 557) d_lw_law_557 ?_
  refine qr_ldc2 (v := 4294967295) (pc := 558) d_lw_law_558 kl_lw_75 ?_
  refine qr_land (pc := 561) d_lw_law_561 ?_
  refine qr_lor (pc := 562) d_lw_law_562 ?_
  refine qR_st (st' := [.long (lwJ (xs (a + 2)) (xs (a + 3))), .int (xs (a + 1)), .ref 0]) rfl rfl rfl ?_
  refine qr_aload_n (pc := 563) d_lw_law_563 rfl rfl ?_
  refine qr_iload (pc := 564) d_lw_law_564 rfl ?_
  refine qr_iconst (v := 4) (pc := 566) d_lw_law_566 (by decide) ?_
  refine qr_iadd (pc := 567) d_lw_law_567 ?_
  refine qR_st (st' := [.int (nI (a + 4)), .ref 77, .long (lwJ (xs (a + 2)) (xs (a + 3))), .int (xs (a + 1)), .ref 0]) rfl (by rw [nI_p4] <;> rfl) rfl ?_
  refine qr_sldN (j := (a + 4)) (fun _ _ _ _ h => h) (pc := 568) d_lw_law_568 (by omega) hLn ?_
  refine qr_aload_n (pc := 569) d_lw_law_569 rfl rfl ?_
  refine qr_callSW (hh := hh_plan) (na := 5) (As := [.ref 0, .int (xs (a + 1)), .long (lwJ (xs (a + 2)) (xs (a + 3))), .int (xs (a + 4)), .ref 76]) (pc := 570) d_lw_law_570 lk_lw_118 ii_lw cw_plan ⟨by decide, by decide⟩ (by decide +kernel) sm_lw_plan hW rfl rfl (Nat.le_of_ble_eq_true rfl) (Nat.le_of_ble_eq_true rfl) (Nat.le_of_ble_eq_true rfl) hkc hks (fun v n9 f9 hE => ?_)
  obtain ⟨k9, I1, L1, b9, I2, L2, rfl, rfl, rfl, hm, hpost⟩ := hM _ _ _ hE
  refine qr_istore (lv' := [(5, .int k9), (0, .ref 77), (1, .ref 0), (2, .ref 47), (3, .ref 76), (4, .int (nI a))]) (pc := 573) d_lw_law_573 (Nat.le_of_ble_eq_true rfl) rfl ?_
  refine qr_aload_n (pc := 575) d_lw_law_575 rfl rfl ?_
  refine qr_aload_n (pc := 576) d_lw_law_576 rfl rfl ?_
  refine qr_iload (pc := 577) d_lw_law_577 rfl ?_
  refine qr_iconst (v := 1) (pc := 579) d_lw_law_579 (by decide) ?_
  refine qr_iadd (pc := 580) d_lw_law_580 ?_
  refine qR_st (st' := [.int (nI (a + 1)), .ref 77, .ref 47]) rfl (by rw [nI_1] <;> rfl) rfl ?_
  refine qr_sldN (j := (a + 1)) (fun _ _ _ _ h => h) (pc := 581) d_lw_law_581 (by omega) hLn ?_
  refine qr_aload_n (pc := 582) d_lw_law_582 rfl rfl ?_
  refine qr_iload (pc := 583) d_lw_law_583 rfl ?_
  refine qr_iconst (v := 2) (pc := 585) d_lw_law_585 (by decide) ?_
  refine qr_iadd (pc := 586) d_lw_law_586 ?_
  refine qR_st (st' := [.int (nI (a + 2)), .ref 77, .int (xs (a + 1)), .ref 47]) rfl (by rw [nI_p2] <;> rfl) rfl ?_
  refine qr_sldN (j := (a + 2)) (fun _ _ _ _ h => h) (pc := 587) d_lw_law_587 (by omega) hLn ?_
  refine qr_i2l (pc := 588) d_lw_law_588 ?_
  refine qr_bipush (v := 32) (pc := 589) d_lw_law_589 (by decide) ?_
  refine qr_lshl (pc := 591) d_lw_law_591 ?_
  refine qr_aload_n (pc := 592) d_lw_law_592 rfl rfl ?_
  refine qr_iload (pc := 593) d_lw_law_593 rfl ?_
  refine qr_iconst (v := 3) (pc := 595) d_lw_law_595 (by decide) ?_
  refine qr_iadd (pc := 596) d_lw_law_596 ?_
  refine qR_st (st' := [.int (nI (a + 3)), .ref 77, .long ((Int32.toInt64 (xs (a + 2))) <<< ((Int32.toInt64 32) &&& 63)), .int (xs (a + 1)), .ref 47]) rfl (by rw [nI_p3] <;> rfl) rfl ?_
  refine qr_sldN (j := (a + 3)) (fun _ _ _ _ h => h) (pc := 597) d_lw_law_597 (by omega) hLn ?_
  refine qr_i2l (pc := 598) d_lw_law_598 ?_
  refine qr_ldc2 (v := 4294967295) (pc := 599) d_lw_law_599 kl_lw_75 ?_
  refine qr_land (pc := 602) d_lw_law_602 ?_
  refine qr_lor (pc := 603) d_lw_law_603 ?_
  refine qR_st (st' := [.long (lwJ (xs (a + 2)) (xs (a + 3))), .int (xs (a + 1)), .ref 47]) rfl rfl rfl ?_
  refine qr_aload_n (pc := 604) d_lw_law_604 rfl rfl ?_
  refine qr_iload (pc := 605) d_lw_law_605 rfl ?_
  refine qr_iconst (v := 4) (pc := 607) d_lw_law_607 (by decide) ?_
  refine qr_iadd (pc := 608) d_lw_law_608 ?_
  refine qR_st (st' := [.int (nI (a + 4)), .ref 77, .long (lwJ (xs (a + 2)) (xs (a + 3))), .int (xs (a + 1)), .ref 47]) rfl (by rw [nI_p4] <;> rfl) rfl ?_
  refine qr_sldN (j := (a + 4)) (fun _ _ _ _ h => h) (pc := 609) d_lw_law_609 (by omega) hLn ?_
  refine qr_callV (q := 47) (As := [.int (xs (a + 1)), .long (lwJ (xs (a + 2)) (xs (a + 3))), .int (xs (a + 4))]) (pc := 610) d_lw_law_610 lk_lw_121 im_md_plan se_md_plan rfl (by decide) (by decide) (c_47 _ _) hm rfl rfl (Nat.le_of_ble_eq_true rfl) (Nat.le_of_ble_eq_true rfl) (Nat.le_of_ble_eq_true rfl) (by show kc + 1 + 0 ≤ 601024; omega) (by show ks + 6 + 0 ≤ 7293034; omega) (fun h => nomatch h) (fun v n9 f9 hE9 => ?_)
  obtain ⟨rfl, rfl, rfl⟩ := hE9
  refine qr_istore (lv' := [(6, .int b9), (5, .int k9), (0, .ref 77), (1, .ref 0), (2, .ref 47), (3, .ref 76), (4, .int (nI a))]) (pc := 613) d_lw_law_613 (Nat.le_of_ble_eq_true rfl) rfl ?_
  refine qr_goto (tgt := 834) (pc := 615) d_lw_law_615 (by decide) ?_
  refine qR_sub (lv' := lwV a) [2, 3, 4, 5, 6] rfl ?_
  exact kk _ _ hpost
set_option maxRecDepth 10000 in
theorem lc_charge {l : Launch} {b Ln : Nat} {xs : Nat → Int32} {E : qE} {X : qXC} {a kc ks : Nat} {I : Nat → Nat → Int32} {L : Nat → Nat → Int64} (ha : a + 5 ≤ Ln) (hLn : Ln < 2 ^ 31) (hkc : kc + 1 ≤ 601024) (hks : ks + 6 ≤ 7293034) (Post : (Nat → Nat → Int32) → (Nat → Nat → Int64) → Prop) {Ew : qE} (hW : qSpW l y_lw_charge b_lw_charge 5 (some .int) hh_charge 10 1 6 [.ref 0, .int (xs (a + 1)), .int (xs (a + 2)), .ref 76] 77 (fm I L) Ew) (hM : ∀ v n f, Ew v n f → ∃ (k9 : Int32) (I1 : Nat → Nat → Int32) (L1 : Nat → Nat → Int64) (b9 : Int64) (I2 : Nat → Nat → Int32) (L2 : Nat → Nat → Int64), some (.int k9) = v ∧ 77 = n ∧ fm I1 L1 = f ∧ qSp l y_md_charge b_md_charge 3 (some .long) false 5 0 0 [.ref 47, .int (xs (a + 1)), .int (xs (a + 2))] 77 (fm I1 L1) (qD (some (.long b9)) 77 (fm I2 L2)) ∧ Post I2 L2) (kk : ∀ I2 L2, Post I2 L2 → qR (qKL l b Ln xs) E X 834 (lwV a) [] 77 (kc + 1) (ks + 6) (fm I2 L2)) : qR (qKL l b Ln xs) E X 618 (lwV a) [] 77 kc ks (fm I L) := by
  refine qr_aload_n (pc := 618) d_lw_law_618 rfl rfl ?_
  refine qr_aload_n (pc := 619) d_lw_law_619 rfl rfl ?_
  refine qr_iload (pc := 620) d_lw_law_620 rfl ?_
  refine qr_iconst (v := 1) (pc := 622) d_lw_law_622 (by decide) ?_
  refine qr_iadd (pc := 623) d_lw_law_623 ?_
  refine qR_st (st' := [.int (nI (a + 1)), .ref 77, .ref 0]) rfl (by rw [nI_1] <;> rfl) rfl ?_
  refine qr_sldN (j := (a + 1)) (fun _ _ _ _ h => h) (pc := 624) d_lw_law_624 (by omega) hLn ?_
  refine qr_aload_n (pc := 625) d_lw_law_625 rfl rfl ?_
  refine qr_iload (pc := 626) d_lw_law_626 rfl ?_
  refine qr_iconst (v := 2) (pc := 628) d_lw_law_628 (by decide) ?_
  refine qr_iadd (pc := 629) d_lw_law_629 ?_
  refine qR_st (st' := [.int (nI (a + 2)), .ref 77, .int (xs (a + 1)), .ref 0]) rfl (by rw [nI_p2] <;> rfl) rfl ?_
  refine qr_sldN (j := (a + 2)) (fun _ _ _ _ h => h) (pc := 630) d_lw_law_630 (by omega) hLn ?_
  refine qr_aload_n (pc := 631) d_lw_law_631 rfl rfl ?_
  refine qr_callSW (hh := hh_charge) (na := 4) (As := [.ref 0, .int (xs (a + 1)), .int (xs (a + 2)), .ref 76]) (pc := 632) d_lw_law_632 lk_lw_122 ii_lw cw_charge ⟨by decide, by decide⟩ (by decide +kernel) sm_lw_charge hW rfl rfl (Nat.le_of_ble_eq_true rfl) (Nat.le_of_ble_eq_true rfl) (Nat.le_of_ble_eq_true rfl) hkc hks (fun v n9 f9 hE => ?_)
  obtain ⟨k9, I1, L1, b9, I2, L2, rfl, rfl, rfl, hm, hpost⟩ := hM _ _ _ hE
  refine qr_istore (lv' := [(5, .int k9), (0, .ref 77), (1, .ref 0), (2, .ref 47), (3, .ref 76), (4, .int (nI a))]) (pc := 635) d_lw_law_635 (Nat.le_of_ble_eq_true rfl) rfl ?_
  refine qr_aload_n (pc := 637) d_lw_law_637 rfl rfl ?_
  refine qr_aload_n (pc := 638) d_lw_law_638 rfl rfl ?_
  refine qr_iload (pc := 639) d_lw_law_639 rfl ?_
  refine qr_iconst (v := 1) (pc := 641) d_lw_law_641 (by decide) ?_
  refine qr_iadd (pc := 642) d_lw_law_642 ?_
  refine qR_st (st' := [.int (nI (a + 1)), .ref 77, .ref 47]) rfl (by rw [nI_1] <;> rfl) rfl ?_
  refine qr_sldN (j := (a + 1)) (fun _ _ _ _ h => h) (pc := 643) d_lw_law_643 (by omega) hLn ?_
  refine qr_aload_n (pc := 644) d_lw_law_644 rfl rfl ?_
  refine qr_iload (pc := 645) d_lw_law_645 rfl ?_
  refine qr_iconst (v := 2) (pc := 647) d_lw_law_647 (by decide) ?_
  refine qr_iadd (pc := 648) d_lw_law_648 ?_
  refine qR_st (st' := [.int (nI (a + 2)), .ref 77, .int (xs (a + 1)), .ref 47]) rfl (by rw [nI_p2] <;> rfl) rfl ?_
  refine qr_sldN (j := (a + 2)) (fun _ _ _ _ h => h) (pc := 649) d_lw_law_649 (by omega) hLn ?_
  refine qr_callV (q := 47) (As := [.int (xs (a + 1)), .int (xs (a + 2))]) (pc := 650) d_lw_law_650 lk_lw_124 im_md_charge se_md_charge rfl (by decide) (by decide) (c_47 _ _) hm rfl rfl (Nat.le_of_ble_eq_true rfl) (Nat.le_of_ble_eq_true rfl) (Nat.le_of_ble_eq_true rfl) (by show kc + 1 + 0 ≤ 601024; omega) (by show ks + 6 + 0 ≤ 7293034; omega) (fun h => nomatch h) (fun v n9 f9 hE9 => ?_)
  obtain ⟨rfl, rfl, rfl⟩ := hE9
  refine qr_lstore (lv' := [(6, .long b9), (5, .int k9), (0, .ref 77), (1, .ref 0), (2, .ref 47), (3, .ref 76), (4, .int (nI a))]) (pc := 653) d_lw_law_653 (Nat.le_of_ble_eq_true rfl) rfl ?_
  refine qr_goto (tgt := 834) (pc := 655) d_lw_law_655 (by decide) ?_
  refine qR_sub (lv' := lwV a) [2, 3, 4, 5, 6] rfl ?_
  exact kk _ _ hpost
set_option maxRecDepth 10000 in
theorem lc_invoice {l : Launch} {b Ln : Nat} {xs : Nat → Int32} {E : qE} {X : qXC} {a kc ks : Nat} {I : Nat → Nat → Int32} {L : Nat → Nat → Int64} (ha : a + 5 ≤ Ln) (hLn : Ln < 2 ^ 31) (hkc : kc + 1 ≤ 601024) (hks : ks + 6 ≤ 7293034) (Post : (Nat → Nat → Int32) → (Nat → Nat → Int64) → Prop) {Ew : qE} (hW : qSpW l y_lw_invoice b_lw_invoice 5 (some .int) hh_invoice 10 1 6 [.ref 0, .int (xs (a + 1)), .int (xs (a + 2)), .ref 76] 77 (fm I L) Ew) (hM : ∀ v n f, Ew v n f → ∃ (k9 : Int32) (I1 : Nat → Nat → Int32) (L1 : Nat → Nat → Int64) (b9 : Int64) (I2 : Nat → Nat → Int32) (L2 : Nat → Nat → Int64), some (.int k9) = v ∧ 77 = n ∧ fm I1 L1 = f ∧ qSp l y_md_invoice b_md_invoice 3 (some .long) false 2 0 0 [.ref 47, .int (xs (a + 1)), .int (xs (a + 2))] 77 (fm I1 L1) (qD (some (.long b9)) 77 (fm I2 L2)) ∧ Post I2 L2) (kk : ∀ I2 L2, Post I2 L2 → qR (qKL l b Ln xs) E X 834 (lwV a) [] 77 (kc + 1) (ks + 6) (fm I2 L2)) : qR (qKL l b Ln xs) E X 658 (lwV a) [] 77 kc ks (fm I L) := by
  refine qr_aload_n (pc := 658) d_lw_law_658 rfl rfl ?_
  refine qr_aload_n (pc := 659) d_lw_law_659 rfl rfl ?_
  refine qr_iload (pc := 660) d_lw_law_660 rfl ?_
  refine qr_iconst (v := 1) (pc := 662) d_lw_law_662 (by decide) ?_
  refine qr_iadd (pc := 663) d_lw_law_663 ?_
  refine qR_st (st' := [.int (nI (a + 1)), .ref 77, .ref 0]) rfl (by rw [nI_1] <;> rfl) rfl ?_
  refine qr_sldN (j := (a + 1)) (fun _ _ _ _ h => h) (pc := 664) d_lw_law_664 (by omega) hLn ?_
  refine qr_aload_n (pc := 665) d_lw_law_665 rfl rfl ?_
  refine qr_iload (pc := 666) d_lw_law_666 rfl ?_
  refine qr_iconst (v := 2) (pc := 668) d_lw_law_668 (by decide) ?_
  refine qr_iadd (pc := 669) d_lw_law_669 ?_
  refine qR_st (st' := [.int (nI (a + 2)), .ref 77, .int (xs (a + 1)), .ref 0]) rfl (by rw [nI_p2] <;> rfl) rfl ?_
  refine qr_sldN (j := (a + 2)) (fun _ _ _ _ h => h) (pc := 670) d_lw_law_670 (by omega) hLn ?_
  refine qr_aload_n (pc := 671) d_lw_law_671 rfl rfl ?_
  refine qr_callSW (hh := hh_invoice) (na := 4) (As := [.ref 0, .int (xs (a + 1)), .int (xs (a + 2)), .ref 76]) (pc := 672) d_lw_law_672 lk_lw_125 ii_lw cw_invoice ⟨by decide, by decide⟩ (by decide +kernel) sm_lw_invoice hW rfl rfl (Nat.le_of_ble_eq_true rfl) (Nat.le_of_ble_eq_true rfl) (Nat.le_of_ble_eq_true rfl) hkc hks (fun v n9 f9 hE => ?_)
  obtain ⟨k9, I1, L1, b9, I2, L2, rfl, rfl, rfl, hm, hpost⟩ := hM _ _ _ hE
  refine qr_istore (lv' := [(5, .int k9), (0, .ref 77), (1, .ref 0), (2, .ref 47), (3, .ref 76), (4, .int (nI a))]) (pc := 675) d_lw_law_675 (Nat.le_of_ble_eq_true rfl) rfl ?_
  refine qr_aload_n (pc := 677) d_lw_law_677 rfl rfl ?_
  refine qr_aload_n (pc := 678) d_lw_law_678 rfl rfl ?_
  refine qr_iload (pc := 679) d_lw_law_679 rfl ?_
  refine qr_iconst (v := 1) (pc := 681) d_lw_law_681 (by decide) ?_
  refine qr_iadd (pc := 682) d_lw_law_682 ?_
  refine qR_st (st' := [.int (nI (a + 1)), .ref 77, .ref 47]) rfl (by rw [nI_1] <;> rfl) rfl ?_
  refine qr_sldN (j := (a + 1)) (fun _ _ _ _ h => h) (pc := 683) d_lw_law_683 (by omega) hLn ?_
  refine qr_aload_n (pc := 684) d_lw_law_684 rfl rfl ?_
  refine qr_iload (pc := 685) d_lw_law_685 rfl ?_
  refine qr_iconst (v := 2) (pc := 687) d_lw_law_687 (by decide) ?_
  refine qr_iadd (pc := 688) d_lw_law_688 ?_
  refine qR_st (st' := [.int (nI (a + 2)), .ref 77, .int (xs (a + 1)), .ref 47]) rfl (by rw [nI_p2] <;> rfl) rfl ?_
  refine qr_sldN (j := (a + 2)) (fun _ _ _ _ h => h) (pc := 689) d_lw_law_689 (by omega) hLn ?_
  refine qr_callV (q := 47) (As := [.int (xs (a + 1)), .int (xs (a + 2))]) (pc := 690) d_lw_law_690 lk_lw_127 im_md_invoice se_md_invoice rfl (by decide) (by decide) (c_47 _ _) hm rfl rfl (Nat.le_of_ble_eq_true rfl) (Nat.le_of_ble_eq_true rfl) (Nat.le_of_ble_eq_true rfl) (by show kc + 1 + 0 ≤ 601024; omega) (by show ks + 6 + 0 ≤ 7293034; omega) (fun h => nomatch h) (fun v n9 f9 hE9 => ?_)
  obtain ⟨rfl, rfl, rfl⟩ := hE9
  refine qr_lstore (lv' := [(6, .long b9), (5, .int k9), (0, .ref 77), (1, .ref 0), (2, .ref 47), (3, .ref 76), (4, .int (nI a))]) (pc := 693) d_lw_law_693 (Nat.le_of_ble_eq_true rfl) rfl ?_
  refine qr_goto (tgt := 834) (pc := 695) d_lw_law_695 (by decide) ?_
  refine qR_sub (lv' := lwV a) [2, 3, 4, 5, 6] rfl ?_
  exact kk _ _ hpost
set_option maxRecDepth 10000 in
theorem lc_told {l : Launch} {b Ln : Nat} {xs : Nat → Int32} {E : qE} {X : qXC} {a kc ks : Nat} {I : Nat → Nat → Int32} {L : Nat → Nat → Int64} (ha : a + 5 ≤ Ln) (hLn : Ln < 2 ^ 31) (hkc : kc + 1 ≤ 601024) (hks : ks + 6 ≤ 7293034) (Post : (Nat → Nat → Int32) → (Nat → Nat → Int64) → Prop) {Ew : qE} (hW : qSpW l y_lw_told b_lw_told 5 (some .int) hh_told 10 1 6 [.ref 0, .int (xs (a + 1)), .int (xs (a + 2)), .ref 76] 77 (fm I L) Ew) (hM : ∀ v n f, Ew v n f → ∃ (k9 : Int32) (I1 : Nat → Nat → Int32) (L1 : Nat → Nat → Int64) (b9 : Int64) (I2 : Nat → Nat → Int32) (L2 : Nat → Nat → Int64), some (.int k9) = v ∧ 77 = n ∧ fm I1 L1 = f ∧ qSp l y_md_told b_md_told 6 (some .long) false 2 0 0 [.ref 47, .int (xs (a + 1)), .int (xs (a + 2))] 77 (fm I1 L1) (qD (some (.long b9)) 77 (fm I2 L2)) ∧ Post I2 L2) (kk : ∀ I2 L2, Post I2 L2 → qR (qKL l b Ln xs) E X 834 (lwV a) [] 77 (kc + 1) (ks + 6) (fm I2 L2)) : qR (qKL l b Ln xs) E X 698 (lwV a) [] 77 kc ks (fm I L) := by
  refine qr_aload_n (pc := 698) d_lw_law_698 rfl rfl ?_
  refine qr_aload_n (pc := 699) d_lw_law_699 rfl rfl ?_
  refine qr_iload (pc := 700) d_lw_law_700 rfl ?_
  refine qr_iconst (v := 1) (pc := 702) d_lw_law_702 (by decide) ?_
  refine qr_iadd (pc := 703) d_lw_law_703 ?_
  refine qR_st (st' := [.int (nI (a + 1)), .ref 77, .ref 0]) rfl (by rw [nI_1] <;> rfl) rfl ?_
  refine qr_sldN (j := (a + 1)) (fun _ _ _ _ h => h) (pc := 704) d_lw_law_704 (by omega) hLn ?_
  refine qr_aload_n (pc := 705) d_lw_law_705 rfl rfl ?_
  refine qr_iload (pc := 706) d_lw_law_706 rfl ?_
  refine qr_iconst (v := 2) (pc := 708) d_lw_law_708 (by decide) ?_
  refine qr_iadd (pc := 709) d_lw_law_709 ?_
  refine qR_st (st' := [.int (nI (a + 2)), .ref 77, .int (xs (a + 1)), .ref 0]) rfl (by rw [nI_p2] <;> rfl) rfl ?_
  refine qr_sldN (j := (a + 2)) (fun _ _ _ _ h => h) (pc := 710) d_lw_law_710 (by omega) hLn ?_
  refine qr_aload_n (pc := 711) d_lw_law_711 rfl rfl ?_
  refine qr_callSW (hh := hh_told) (na := 4) (As := [.ref 0, .int (xs (a + 1)), .int (xs (a + 2)), .ref 76]) (pc := 712) d_lw_law_712 lk_lw_128 ii_lw cw_told ⟨by decide, by decide⟩ (by decide +kernel) sm_lw_told hW rfl rfl (Nat.le_of_ble_eq_true rfl) (Nat.le_of_ble_eq_true rfl) (Nat.le_of_ble_eq_true rfl) hkc hks (fun v n9 f9 hE => ?_)
  obtain ⟨k9, I1, L1, b9, I2, L2, rfl, rfl, rfl, hm, hpost⟩ := hM _ _ _ hE
  refine qr_istore (lv' := [(5, .int k9), (0, .ref 77), (1, .ref 0), (2, .ref 47), (3, .ref 76), (4, .int (nI a))]) (pc := 715) d_lw_law_715 (Nat.le_of_ble_eq_true rfl) rfl ?_
  refine qr_aload_n (pc := 717) d_lw_law_717 rfl rfl ?_
  refine qr_aload_n (pc := 718) d_lw_law_718 rfl rfl ?_
  refine qr_iload (pc := 719) d_lw_law_719 rfl ?_
  refine qr_iconst (v := 1) (pc := 721) d_lw_law_721 (by decide) ?_
  refine qr_iadd (pc := 722) d_lw_law_722 ?_
  refine qR_st (st' := [.int (nI (a + 1)), .ref 77, .ref 47]) rfl (by rw [nI_1] <;> rfl) rfl ?_
  refine qr_sldN (j := (a + 1)) (fun _ _ _ _ h => h) (pc := 723) d_lw_law_723 (by omega) hLn ?_
  refine qr_aload_n (pc := 724) d_lw_law_724 rfl rfl ?_
  refine qr_iload (pc := 725) d_lw_law_725 rfl ?_
  refine qr_iconst (v := 2) (pc := 727) d_lw_law_727 (by decide) ?_
  refine qr_iadd (pc := 728) d_lw_law_728 ?_
  refine qR_st (st' := [.int (nI (a + 2)), .ref 77, .int (xs (a + 1)), .ref 47]) rfl (by rw [nI_p2] <;> rfl) rfl ?_
  refine qr_sldN (j := (a + 2)) (fun _ _ _ _ h => h) (pc := 729) d_lw_law_729 (by omega) hLn ?_
  refine qr_callV (q := 47) (As := [.int (xs (a + 1)), .int (xs (a + 2))]) (pc := 730) d_lw_law_730 lk_lw_130 im_md_told se_md_told rfl (by decide) (by decide) (c_47 _ _) hm rfl rfl (Nat.le_of_ble_eq_true rfl) (Nat.le_of_ble_eq_true rfl) (Nat.le_of_ble_eq_true rfl) (by show kc + 1 + 0 ≤ 601024; omega) (by show ks + 6 + 0 ≤ 7293034; omega) (fun h => nomatch h) (fun v n9 f9 hE9 => ?_)
  obtain ⟨rfl, rfl, rfl⟩ := hE9
  refine qr_lstore (lv' := [(6, .long b9), (5, .int k9), (0, .ref 77), (1, .ref 0), (2, .ref 47), (3, .ref 76), (4, .int (nI a))]) (pc := 733) d_lw_law_733 (Nat.le_of_ble_eq_true rfl) rfl ?_
  refine qr_goto (tgt := 834) (pc := 735) d_lw_law_735 (by decide) ?_
  refine qR_sub (lv' := lwV a) [2, 3, 4, 5, 6] rfl ?_
  exact kk _ _ hpost
set_option maxRecDepth 10000 in
theorem lc_books {l : Launch} {b Ln : Nat} {xs : Nat → Int32} {E : qE} {X : qXC} {a kc ks : Nat} {I : Nat → Nat → Int32} {L : Nat → Nat → Int64} (ha : a + 5 ≤ Ln) (hLn : Ln < 2 ^ 31) (hkc : kc + 1 ≤ 601024) (hks : ks + 6 ≤ 7293034) (Post : (Nat → Nat → Int32) → (Nat → Nat → Int64) → Prop) {Ew : qE} (hW : qSpW l y_lw_books b_lw_books 4 (some .int) hh_books 10 1 6 [.ref 0, .int (xs (a + 1)), .ref 76] 77 (fm I L) Ew) (hM : ∀ v n f, Ew v n f → ∃ (k9 : Int32) (I1 : Nat → Nat → Int32) (L1 : Nat → Nat → Int64) (b9 : Int64) (I2 : Nat → Nat → Int32) (L2 : Nat → Nat → Int64), some (.int k9) = v ∧ 77 = n ∧ fm I1 L1 = f ∧ qSp l y_md_books b_md_books 5 (some .long) false 2 0 0 [.ref 47, .int (xs (a + 1))] 77 (fm I1 L1) (qD (some (.long b9)) 77 (fm I2 L2)) ∧ Post I2 L2) (kk : ∀ I2 L2, Post I2 L2 → qR (qKL l b Ln xs) E X 834 (lwV a) [] 77 (kc + 1) (ks + 6) (fm I2 L2)) : qR (qKL l b Ln xs) E X 738 (lwV a) [] 77 kc ks (fm I L) := by
  refine qr_aload_n (pc := 738) d_lw_law_738 rfl rfl ?_
  refine qr_aload_n (pc := 739) d_lw_law_739 rfl rfl ?_
  refine qr_iload (pc := 740) d_lw_law_740 rfl ?_
  refine qr_iconst (v := 1) (pc := 742) d_lw_law_742 (by decide) ?_
  refine qr_iadd (pc := 743) d_lw_law_743 ?_
  refine qR_st (st' := [.int (nI (a + 1)), .ref 77, .ref 0]) rfl (by rw [nI_1] <;> rfl) rfl ?_
  refine qr_sldN (j := (a + 1)) (fun _ _ _ _ h => h) (pc := 744) d_lw_law_744 (by omega) hLn ?_
  refine qr_aload_n (pc := 745) d_lw_law_745 rfl rfl ?_
  refine qr_callSW (hh := hh_books) (na := 3) (As := [.ref 0, .int (xs (a + 1)), .ref 76]) (pc := 746) d_lw_law_746 lk_lw_131 ii_lw cw_books ⟨by decide, by decide⟩ (by decide +kernel) sm_lw_books hW rfl rfl (Nat.le_of_ble_eq_true rfl) (Nat.le_of_ble_eq_true rfl) (Nat.le_of_ble_eq_true rfl) hkc hks (fun v n9 f9 hE => ?_)
  obtain ⟨k9, I1, L1, b9, I2, L2, rfl, rfl, rfl, hm, hpost⟩ := hM _ _ _ hE
  refine qr_istore (lv' := [(5, .int k9), (0, .ref 77), (1, .ref 0), (2, .ref 47), (3, .ref 76), (4, .int (nI a))]) (pc := 749) d_lw_law_749 (Nat.le_of_ble_eq_true rfl) rfl ?_
  refine qr_aload_n (pc := 751) d_lw_law_751 rfl rfl ?_
  refine qr_aload_n (pc := 752) d_lw_law_752 rfl rfl ?_
  refine qr_iload (pc := 753) d_lw_law_753 rfl ?_
  refine qr_iconst (v := 1) (pc := 755) d_lw_law_755 (by decide) ?_
  refine qr_iadd (pc := 756) d_lw_law_756 ?_
  refine qR_st (st' := [.int (nI (a + 1)), .ref 77, .ref 47]) rfl (by rw [nI_1] <;> rfl) rfl ?_
  refine qr_sldN (j := (a + 1)) (fun _ _ _ _ h => h) (pc := 757) d_lw_law_757 (by omega) hLn ?_
  refine qr_callV (q := 47) (As := [.int (xs (a + 1))]) (pc := 758) d_lw_law_758 lk_lw_133 im_md_books se_md_books rfl (by decide) (by decide) (c_47 _ _) hm rfl rfl (Nat.le_of_ble_eq_true rfl) (Nat.le_of_ble_eq_true rfl) (Nat.le_of_ble_eq_true rfl) (by show kc + 1 + 0 ≤ 601024; omega) (by show ks + 6 + 0 ≤ 7293034; omega) (fun h => nomatch h) (fun v n9 f9 hE9 => ?_)
  obtain ⟨rfl, rfl, rfl⟩ := hE9
  refine qr_lstore (lv' := [(6, .long b9), (5, .int k9), (0, .ref 77), (1, .ref 0), (2, .ref 47), (3, .ref 76), (4, .int (nI a))]) (pc := 761) d_lw_law_761 (Nat.le_of_ble_eq_true rfl) rfl ?_
  refine qr_goto (tgt := 834) (pc := 763) d_lw_law_763 (by decide) ?_
  refine qR_sub (lv' := lwV a) [2, 3, 4, 5, 6] rfl ?_
  exact kk _ _ hpost
set_option maxRecDepth 10000 in
theorem lc_date {l : Launch} {b Ln : Nat} {xs : Nat → Int32} {E : qE} {X : qXC} {a kc ks : Nat} {I : Nat → Nat → Int32} {L : Nat → Nat → Int64} (ha : a + 5 ≤ Ln) (hLn : Ln < 2 ^ 31) (hkc : kc + 1 ≤ 601024) (hks : ks + 6 ≤ 7293034) (Post : (Nat → Nat → Int32) → (Nat → Nat → Int64) → Prop) {Ew : qE} (hW : qSpW l y_lw_date b_lw_date 5 (some .int) hh_date 10 1 6 [.ref 0, .int (xs (a + 1)), .int (xs (a + 2)), .ref 76] 77 (fm I L) Ew) (hM : ∀ v n f, Ew v n f → ∃ (k9 : Int32) (I1 : Nat → Nat → Int32) (L1 : Nat → Nat → Int64) (b9 : Int32) (I2 : Nat → Nat → Int32) (L2 : Nat → Nat → Int64), some (.int k9) = v ∧ 77 = n ∧ fm I1 L1 = f ∧ qSp l y_md_date b_md_date 5 (some .int) false 3 0 0 [.ref 47, .int (xs (a + 1)), .int (xs (a + 2))] 77 (fm I1 L1) (qD (some (.int b9)) 77 (fm I2 L2)) ∧ Post I2 L2) (kk : ∀ I2 L2, Post I2 L2 → qR (qKL l b Ln xs) E X 834 (lwV a) [] 77 (kc + 1) (ks + 6) (fm I2 L2)) : qR (qKL l b Ln xs) E X 766 (lwV a) [] 77 kc ks (fm I L) := by
  refine qr_aload_n (pc := 766) d_lw_law_766 rfl rfl ?_
  refine qr_aload_n (pc := 767) d_lw_law_767 rfl rfl ?_
  refine qr_iload (pc := 768) d_lw_law_768 rfl ?_
  refine qr_iconst (v := 1) (pc := 770) d_lw_law_770 (by decide) ?_
  refine qr_iadd (pc := 771) d_lw_law_771 ?_
  refine qR_st (st' := [.int (nI (a + 1)), .ref 77, .ref 0]) rfl (by rw [nI_1] <;> rfl) rfl ?_
  refine qr_sldN (j := (a + 1)) (fun _ _ _ _ h => h) (pc := 772) d_lw_law_772 (by omega) hLn ?_
  refine qr_aload_n (pc := 773) d_lw_law_773 rfl rfl ?_
  refine qr_iload (pc := 774) d_lw_law_774 rfl ?_
  refine qr_iconst (v := 2) (pc := 776) d_lw_law_776 (by decide) ?_
  refine qr_iadd (pc := 777) d_lw_law_777 ?_
  refine qR_st (st' := [.int (nI (a + 2)), .ref 77, .int (xs (a + 1)), .ref 0]) rfl (by rw [nI_p2] <;> rfl) rfl ?_
  refine qr_sldN (j := (a + 2)) (fun _ _ _ _ h => h) (pc := 778) d_lw_law_778 (by omega) hLn ?_
  refine qr_aload_n (pc := 779) d_lw_law_779 rfl rfl ?_
  refine qr_callSW (hh := hh_date) (na := 4) (As := [.ref 0, .int (xs (a + 1)), .int (xs (a + 2)), .ref 76]) (pc := 780) d_lw_law_780 lk_lw_134 ii_lw cw_date ⟨by decide, by decide⟩ (by decide +kernel) sm_lw_date hW rfl rfl (Nat.le_of_ble_eq_true rfl) (Nat.le_of_ble_eq_true rfl) (Nat.le_of_ble_eq_true rfl) hkc hks (fun v n9 f9 hE => ?_)
  obtain ⟨k9, I1, L1, b9, I2, L2, rfl, rfl, rfl, hm, hpost⟩ := hM _ _ _ hE
  refine qr_istore (lv' := [(5, .int k9), (0, .ref 77), (1, .ref 0), (2, .ref 47), (3, .ref 76), (4, .int (nI a))]) (pc := 783) d_lw_law_783 (Nat.le_of_ble_eq_true rfl) rfl ?_
  refine qr_aload_n (pc := 785) d_lw_law_785 rfl rfl ?_
  refine qr_aload_n (pc := 786) d_lw_law_786 rfl rfl ?_
  refine qr_iload (pc := 787) d_lw_law_787 rfl ?_
  refine qr_iconst (v := 1) (pc := 789) d_lw_law_789 (by decide) ?_
  refine qr_iadd (pc := 790) d_lw_law_790 ?_
  refine qR_st (st' := [.int (nI (a + 1)), .ref 77, .ref 47]) rfl (by rw [nI_1] <;> rfl) rfl ?_
  refine qr_sldN (j := (a + 1)) (fun _ _ _ _ h => h) (pc := 791) d_lw_law_791 (by omega) hLn ?_
  refine qr_aload_n (pc := 792) d_lw_law_792 rfl rfl ?_
  refine qr_iload (pc := 793) d_lw_law_793 rfl ?_
  refine qr_iconst (v := 2) (pc := 795) d_lw_law_795 (by decide) ?_
  refine qr_iadd (pc := 796) d_lw_law_796 ?_
  refine qR_st (st' := [.int (nI (a + 2)), .ref 77, .int (xs (a + 1)), .ref 47]) rfl (by rw [nI_p2] <;> rfl) rfl ?_
  refine qr_sldN (j := (a + 2)) (fun _ _ _ _ h => h) (pc := 797) d_lw_law_797 (by omega) hLn ?_
  refine qr_callV (q := 47) (As := [.int (xs (a + 1)), .int (xs (a + 2))]) (pc := 798) d_lw_law_798 lk_lw_136 im_md_date se_md_date rfl (by decide) (by decide) (c_47 _ _) hm rfl rfl (Nat.le_of_ble_eq_true rfl) (Nat.le_of_ble_eq_true rfl) (Nat.le_of_ble_eq_true rfl) (by show kc + 1 + 0 ≤ 601024; omega) (by show ks + 6 + 0 ≤ 7293034; omega) (fun h => nomatch h) (fun v n9 f9 hE9 => ?_)
  obtain ⟨rfl, rfl, rfl⟩ := hE9
  refine qr_istore (lv' := [(6, .int b9), (5, .int k9), (0, .ref 77), (1, .ref 0), (2, .ref 47), (3, .ref 76), (4, .int (nI a))]) (pc := 801) d_lw_law_801 (Nat.le_of_ble_eq_true rfl) rfl ?_
  refine qr_goto (tgt := 834) (pc := 803) d_lw_law_803 (by decide) ?_
  refine qR_sub (lv' := lwV a) [2, 3, 4, 5, 6] rfl ?_
  exact kk _ _ hpost
set_option maxRecDepth 10000 in
theorem lc_count {l : Launch} {b Ln : Nat} {xs : Nat → Int32} {E : qE} {X : qXC} {a kc ks : Nat} {I : Nat → Nat → Int32} {L : Nat → Nat → Int64} (ha : a + 5 ≤ Ln) (hLn : Ln < 2 ^ 31) (hkc : kc + 1 ≤ 601024) (hks : ks + 6 ≤ 7293034) (Post : (Nat → Nat → Int32) → (Nat → Nat → Int64) → Prop) {Ew : qE} (hW : qSpW l y_lw_count b_lw_count 4 (some .int) hh_count 10 1 6 [.ref 0, .int (xs (a + 1)), .ref 76] 77 (fm I L) Ew) (hM : ∀ v n f, Ew v n f → ∃ (k9 : Int32) (I1 : Nat → Nat → Int32) (L1 : Nat → Nat → Int64) (b9 : Int32) (I2 : Nat → Nat → Int32) (L2 : Nat → Nat → Int64), some (.int k9) = v ∧ 77 = n ∧ fm I1 L1 = f ∧ qSp l y_md_count b_md_count 2 (some .int) false 2 0 0 [.ref 47, .int (xs (a + 1))] 77 (fm I1 L1) (qD (some (.int b9)) 77 (fm I2 L2)) ∧ Post I2 L2) (kk : ∀ I2 L2, Post I2 L2 → qR (qKL l b Ln xs) E X 834 (lwV a) [] 77 (kc + 1) (ks + 6) (fm I2 L2)) : qR (qKL l b Ln xs) E X 806 (lwV a) [] 77 kc ks (fm I L) := by
  refine qr_aload_n (pc := 806) d_lw_law_806 rfl rfl ?_
  refine qr_aload_n (pc := 807) d_lw_law_807 rfl rfl ?_
  refine qr_iload (pc := 808) d_lw_law_808 rfl ?_
  refine qr_iconst (v := 1) (pc := 810) d_lw_law_810 (by decide) ?_
  refine qr_iadd (pc := 811) d_lw_law_811 ?_
  refine qR_st (st' := [.int (nI (a + 1)), .ref 77, .ref 0]) rfl (by rw [nI_1] <;> rfl) rfl ?_
  refine qr_sldN (j := (a + 1)) (fun _ _ _ _ h => h) (pc := 812) d_lw_law_812 (by omega) hLn ?_
  refine qr_aload_n (pc := 813) d_lw_law_813 rfl rfl ?_
  refine qr_callSW (hh := hh_count) (na := 3) (As := [.ref 0, .int (xs (a + 1)), .ref 76]) (pc := 814) d_lw_law_814 lk_lw_137 ii_lw cw_count ⟨by decide, by decide⟩ (by decide +kernel) sm_lw_count hW rfl rfl (Nat.le_of_ble_eq_true rfl) (Nat.le_of_ble_eq_true rfl) (Nat.le_of_ble_eq_true rfl) hkc hks (fun v n9 f9 hE => ?_)
  obtain ⟨k9, I1, L1, b9, I2, L2, rfl, rfl, rfl, hm, hpost⟩ := hM _ _ _ hE
  refine qr_istore (lv' := [(5, .int k9), (0, .ref 77), (1, .ref 0), (2, .ref 47), (3, .ref 76), (4, .int (nI a))]) (pc := 817) d_lw_law_817 (Nat.le_of_ble_eq_true rfl) rfl ?_
  refine qr_aload_n (pc := 819) d_lw_law_819 rfl rfl ?_
  refine qr_aload_n (pc := 820) d_lw_law_820 rfl rfl ?_
  refine qr_iload (pc := 821) d_lw_law_821 rfl ?_
  refine qr_iconst (v := 1) (pc := 823) d_lw_law_823 (by decide) ?_
  refine qr_iadd (pc := 824) d_lw_law_824 ?_
  refine qR_st (st' := [.int (nI (a + 1)), .ref 77, .ref 47]) rfl (by rw [nI_1] <;> rfl) rfl ?_
  refine qr_sldN (j := (a + 1)) (fun _ _ _ _ h => h) (pc := 825) d_lw_law_825 (by omega) hLn ?_
  refine qr_callV (q := 47) (As := [.int (xs (a + 1))]) (pc := 826) d_lw_law_826 lk_lw_139 im_md_count se_md_count rfl (by decide) (by decide) (c_47 _ _) hm rfl rfl (Nat.le_of_ble_eq_true rfl) (Nat.le_of_ble_eq_true rfl) (Nat.le_of_ble_eq_true rfl) (by show kc + 1 + 0 ≤ 601024; omega) (by show ks + 6 + 0 ≤ 7293034; omega) (fun h => nomatch h) (fun v n9 f9 hE9 => ?_)
  obtain ⟨rfl, rfl, rfl⟩ := hE9
  refine qr_istore (lv' := [(6, .int b9), (5, .int k9), (0, .ref 77), (1, .ref 0), (2, .ref 47), (3, .ref 76), (4, .int (nI a))]) (pc := 829) d_lw_law_829 (Nat.le_of_ble_eq_true rfl) rfl ?_
  refine qr_goto (tgt := 834) (pc := 831) d_lw_law_831 (by decide) ?_
  refine qR_sub (lv' := lwV a) [2, 3, 4, 5, 6] rfl ?_
  exact kk _ _ hpost
