/-! the law's cases: the class's call by its wrapper, the reference's, the comparison -/
abbrev qKL (l : Launch) (b Ln : Nat) (xs : Nat → Int32) : qK := (l, "BillForgeLaw", code, 8, some .boolean, false, true, 13, 601024, 7293034, 0, qScr b Ln xs)
abbrev lwV (a : Nat) : List (Nat × Value) := [(0, .ref 77), (1, .ref 0), (2, .ref 47), (3, .ref 76), (4, .int (nI a))]
/-- a long out of two ints of the script -/
def lwJ (h l : Int32) : Int64 := (Int32.toInt64 h <<< ((Int32.toInt64 32) &&& 63)) ||| (Int32.toInt64 l &&& 4294967295)
set_option maxRecDepth 10000 in
theorem lc_text {l : Launch} {b Ln : Nat} {xs : Nat → Int32} {E : qE} {X : qXC} {a kc ks : Nat} {I : Nat → Nat → Int32} {L : Nat → Nat → Int64} (ha : a + 5 ≤ Ln) (hLn : Ln < 2 ^ 31) (hkc : kc + 1 ≤ 601024) (hks : ks + 6 ≤ 7293034) (Post : (Nat → Nat → Int32) → (Nat → Nat → Int64) → Prop) {Ew : qE} (hW : qSpW l y_lw_text b_lw_text 5 (some .int) hh_text 10 1 6 [.ref 0, .long (lwJ (xs (a + 1)) (xs (a + 2))), .ref 76] 77 (fm I L) Ew) (hM : ∀ v n f, Ew v n f → ∃ (k9 : Int32) (I1 : Nat → Nat → Int32) (L1 : Nat → Nat → Int64) (b9 : Int32) (I2 : Nat → Nat → Int32) (L2 : Nat → Nat → Int64), some (.int k9) = v ∧ 77 = n ∧ fm I1 L1 = f ∧ qSp l y_md_text b_md_text 6 (some .int) false 2 0 0 [.ref 47, .long (lwJ (xs (a + 1)) (xs (a + 2)))] 77 (fm I1 L1) (qD (some (.int b9)) 77 (fm I2 L2)) ∧ I2 47 0 = k9 ∧ (k9 = 0 → L2 76 0 = Int32.toInt64 b9) ∧ Post I2 L2) (kk : ∀ I2 L2, Post I2 L2 → qR (qKL l b Ln xs) E X 1255 (lwV a) [] 77 (kc + 1) (ks + 6) (fm I2 L2)) : qR (qKL l b Ln xs) E X 120 (lwV a) [] 77 kc ks (fm I L) := by
  refine qr_aload_n (pc := 120) d_lw_law_120 rfl rfl ?_
  refine qr_aload_n (pc := 121) d_lw_law_121 rfl rfl ?_
  refine qr_iload (pc := 122) d_lw_law_122 rfl ?_
  refine qr_iconst (v := 1) (pc := 124) d_lw_law_124 (by decide) ?_
  refine qr_iadd (pc := 125) d_lw_law_125 ?_
  refine qR_st (st' := [.int (nI (a + 1)), .ref 77, .ref 0]) rfl (by rw [nI_1] <;> rfl) rfl ?_
  refine qr_sldN (j := (a + 1)) (fun _ _ _ _ h => h) (pc := 126) d_lw_law_126 (by omega) hLn ?_
  refine qr_i2l (pc := 127) d_lw_law_127 ?_
  refine qr_bipush (v := 32) (pc := 128) d_lw_law_128 (by decide) ?_
  refine qr_lshl (pc := 130) d_lw_law_130 ?_
  refine qr_aload_n (pc := 131) d_lw_law_131 rfl rfl ?_
  refine qr_iload (pc := 132) d_lw_law_132 rfl ?_
  refine qr_iconst (v := 2) (pc := 134) d_lw_law_134 (by decide) ?_
  refine qr_iadd (pc := 135) d_lw_law_135 ?_
  refine qR_st (st' := [.int (nI (a + 2)), .ref 77, .long ((Int32.toInt64 (xs (a + 1))) <<< ((Int32.toInt64 32) &&& 63)), .ref 0]) rfl (by rw [nI_p2] <;> rfl) rfl ?_
  refine qr_sldN (j := (a + 2)) (fun _ _ _ _ h => h) (pc := 136) d_lw_law_136 (by omega) hLn ?_
  refine qr_i2l (pc := 137) d_lw_law_137 ?_
  refine qr_ldc2 (v := 4294967295) (pc := 138) d_lw_law_138 kl_lw_75 ?_
  refine qr_land (pc := 141) d_lw_law_141 ?_
  refine qr_lor (pc := 142) d_lw_law_142 ?_
  refine qR_st (st' := [.long (lwJ (xs (a + 1)) (xs (a + 2))), .ref 0]) rfl rfl rfl ?_
  refine qr_aload_n (pc := 143) d_lw_law_143 rfl rfl ?_
  refine qr_callSW (hh := hh_text) (na := 3) (As := [.ref 0, .long (lwJ (xs (a + 1)) (xs (a + 2))), .ref 76]) (pc := 144) d_lw_law_144 lk_lw_77 ii_lw cw_text ⟨by decide, by decide⟩ (by decide +kernel) sm_lw_text hW rfl rfl (Nat.le_of_ble_eq_true rfl) (Nat.le_of_ble_eq_true rfl) (Nat.le_of_ble_eq_true rfl) hkc hks (fun v n9 f9 hE => ?_)
  obtain ⟨k9, I1, L1, b9, I2, L2, rfl, rfl, rfl, hm, hth, hout, hpost⟩ := hM _ _ _ hE
  refine qr_istore (lv' := [(5, .int k9), (0, .ref 77), (1, .ref 0), (2, .ref 47), (3, .ref 76), (4, .int (nI a))]) (pc := 147) d_lw_law_147 (Nat.le_of_ble_eq_true rfl) rfl ?_
  refine qr_aload_n (pc := 149) d_lw_law_149 rfl rfl ?_
  refine qr_aload_n (pc := 150) d_lw_law_150 rfl rfl ?_
  refine qr_iload (pc := 151) d_lw_law_151 rfl ?_
  refine qr_iconst (v := 1) (pc := 153) d_lw_law_153 (by decide) ?_
  refine qr_iadd (pc := 154) d_lw_law_154 ?_
  refine qR_st (st' := [.int (nI (a + 1)), .ref 77, .ref 47]) rfl (by rw [nI_1] <;> rfl) rfl ?_
  refine qr_sldN (j := (a + 1)) (fun _ _ _ _ h => h) (pc := 155) d_lw_law_155 (by omega) hLn ?_
  refine qr_i2l (pc := 156) d_lw_law_156 ?_
  refine qr_bipush (v := 32) (pc := 157) d_lw_law_157 (by decide) ?_
  refine qr_lshl (pc := 159) d_lw_law_159 ?_
  refine qr_aload_n (pc := 160) d_lw_law_160 rfl rfl ?_
  refine qr_iload (pc := 161) d_lw_law_161 rfl ?_
  refine qr_iconst (v := 2) (pc := 163) d_lw_law_163 (by decide) ?_
  refine qr_iadd (pc := 164) d_lw_law_164 ?_
  refine qR_st (st' := [.int (nI (a + 2)), .ref 77, .long ((Int32.toInt64 (xs (a + 1))) <<< ((Int32.toInt64 32) &&& 63)), .ref 47]) rfl (by rw [nI_p2] <;> rfl) rfl ?_
  refine qr_sldN (j := (a + 2)) (fun _ _ _ _ h => h) (pc := 165) d_lw_law_165 (by omega) hLn ?_
  refine qr_i2l (pc := 166) d_lw_law_166 ?_
  refine qr_ldc2 (v := 4294967295) (pc := 167) d_lw_law_167 kl_lw_75 ?_
  refine qr_land (pc := 170) d_lw_law_170 ?_
  refine qr_lor (pc := 171) d_lw_law_171 ?_
  refine qR_st (st' := [.long (lwJ (xs (a + 1)) (xs (a + 2))), .ref 47]) rfl rfl rfl ?_
  refine qr_callV (q := 47) (As := [.long (lwJ (xs (a + 1)) (xs (a + 2)))]) (pc := 172) d_lw_law_172 lk_lw_82 im_md_text se_md_text rfl (by decide) (by decide) (c_47 _ _) hm rfl rfl (Nat.le_of_ble_eq_true rfl) (Nat.le_of_ble_eq_true rfl) (Nat.le_of_ble_eq_true rfl) (by show kc + 1 + 0 ≤ 601024; omega) (by show ks + 6 + 0 ≤ 7293034; omega) (fun h => nomatch h) (fun v n9 f9 hE9 => ?_)
  obtain ⟨rfl, rfl, rfl⟩ := hE9
  refine qr_istore (lv' := [(6, .int b9), (5, .int k9), (0, .ref 77), (1, .ref 0), (2, .ref 47), (3, .ref 76), (4, .int (nI a))]) (pc := 175) d_lw_law_175 (Nat.le_of_ble_eq_true rfl) rfl ?_
  refine qr_aload_n (pc := 177) d_lw_law_177 rfl rfl ?_
  refine qr_callV (q := 47) (As := []) (pc := 178) d_lw_law_178 lk_lw_83 im_md_thrown se_md_thrown rfl (by decide) (by decide) (c_47 _ _) (s_md_thrown _ false _ _) rfl rfl (Nat.le_of_ble_eq_true rfl) (Nat.le_of_ble_eq_true rfl) (Nat.le_of_ble_eq_true rfl) (by show kc + 1 + 0 + 0 ≤ 601024; omega) (by show ks + 6 + 0 + 0 ≤ 7293034; omega) (fun h => nomatch h) (fun v n9 f9 hE9 => ?_)
  obtain ⟨rfl, rfl, rfl⟩ := hE9
  refine qr_iload (pc := 181) d_lw_law_181 rfl ?_
  refine qr_icmp_eq (tgt := 188) (pc := 183) d_lw_law_183 (by decide) (fun _ => ?_) (fun h => absurd hth h)
  refine qr_iload (pc := 188) d_lw_law_188 rfl ?_
  refine qr_if_ne (tgt := 205) (pc := 190) d_lw_law_190 (by decide) (fun _ => ?_) (fun hk9 => ?_)
  · skip
    refine qr_goto (tgt := 1255) (pc := 205) d_lw_law_205 (by decide) ?_
    refine qR_sub (lv' := lwV a) [2, 3, 4, 5, 6] rfl ?_
    exact kk _ _ hpost
  · have ho := hout hk9
    refine qr_aload_n (pc := 193) d_lw_law_193 rfl rfl ?_
    refine qr_iconst (v := 0) (pc := 194) d_lw_law_194 (by decide) ?_
    refine qr_laldN (j := 0) (pc := 195) d_lw_law_195 (by decide) (by decide) (c_76 _ _) (by decide) (by decide) ?_
    refine qr_iload (pc := 196) d_lw_law_196 rfl ?_
    refine qr_i2l (pc := 198) d_lw_law_198 ?_
    refine qr_lcmp (pc := 199) d_lw_law_199 ?_
    refine qr_if_eq (tgt := 205) (pc := 200) d_lw_law_200 (by decide) (fun _ => ?_) (fun h => absurd ((lgc_eq _ _).mpr ho) h)
    refine qr_goto (tgt := 1255) (pc := 205) d_lw_law_205 (by decide) ?_
    refine qR_sub (lv' := lwV a) [2, 3, 4, 5, 6] rfl ?_
    exact kk _ _ hpost
set_option maxRecDepth 10000 in
theorem lc_tariff {l : Launch} {b Ln : Nat} {xs : Nat → Int32} {E : qE} {X : qXC} {a kc ks : Nat} {I : Nat → Nat → Int32} {L : Nat → Nat → Int64} (ha : a + 5 ≤ Ln) (hLn : Ln < 2 ^ 31) (hkc : kc + 1 ≤ 601024) (hks : ks + 6 ≤ 7293034) (Post : (Nat → Nat → Int32) → (Nat → Nat → Int64) → Prop) {Ew : qE} (hW : qSpW l y_lw_tariff b_lw_tariff 4 (some .int) hh_tariff 10 1 6 [.ref 0, .int (xs (a + 1)), .ref 76] 77 (fm I L) Ew) (hM : ∀ v n f, Ew v n f → ∃ (k9 : Int32) (I1 : Nat → Nat → Int32) (L1 : Nat → Nat → Int64) (b9 : Int32) (I2 : Nat → Nat → Int32) (L2 : Nat → Nat → Int64), some (.int k9) = v ∧ 77 = n ∧ fm I1 L1 = f ∧ qSp l y_md_tariff b_md_tariff 3 (some .int) false 6 0 0 [.ref 47, .int (xs (a + 1))] 77 (fm I1 L1) (qD (some (.int b9)) 77 (fm I2 L2)) ∧ I2 47 0 = k9 ∧ (k9 = 0 → L2 76 0 = Int32.toInt64 b9) ∧ Post I2 L2) (kk : ∀ I2 L2, Post I2 L2 → qR (qKL l b Ln xs) E X 1255 (lwV a) [] 77 (kc + 1) (ks + 6) (fm I2 L2)) : qR (qKL l b Ln xs) E X 208 (lwV a) [] 77 kc ks (fm I L) := by
  refine qr_aload_n (pc := 208) d_lw_law_208 rfl rfl ?_
  refine qr_aload_n (pc := 209) d_lw_law_209 rfl rfl ?_
  refine qr_iload (pc := 210) d_lw_law_210 rfl ?_
  refine qr_iconst (v := 1) (pc := 212) d_lw_law_212 (by decide) ?_
  refine qr_iadd (pc := 213) d_lw_law_213 ?_
  refine qR_st (st' := [.int (nI (a + 1)), .ref 77, .ref 0]) rfl (by rw [nI_1] <;> rfl) rfl ?_
  refine qr_sldN (j := (a + 1)) (fun _ _ _ _ h => h) (pc := 214) d_lw_law_214 (by omega) hLn ?_
  refine qr_aload_n (pc := 215) d_lw_law_215 rfl rfl ?_
  refine qr_callSW (hh := hh_tariff) (na := 3) (As := [.ref 0, .int (xs (a + 1)), .ref 76]) (pc := 216) d_lw_law_216 lk_lw_87 ii_lw cw_tariff ⟨by decide, by decide⟩ (by decide +kernel) sm_lw_tariff hW rfl rfl (Nat.le_of_ble_eq_true rfl) (Nat.le_of_ble_eq_true rfl) (Nat.le_of_ble_eq_true rfl) hkc hks (fun v n9 f9 hE => ?_)
  obtain ⟨k9, I1, L1, b9, I2, L2, rfl, rfl, rfl, hm, hth, hout, hpost⟩ := hM _ _ _ hE
  refine qr_istore (lv' := [(5, .int k9), (0, .ref 77), (1, .ref 0), (2, .ref 47), (3, .ref 76), (4, .int (nI a))]) (pc := 219) d_lw_law_219 (Nat.le_of_ble_eq_true rfl) rfl ?_
  refine qr_aload_n (pc := 221) d_lw_law_221 rfl rfl ?_
  refine qr_aload_n (pc := 222) d_lw_law_222 rfl rfl ?_
  refine qr_iload (pc := 223) d_lw_law_223 rfl ?_
  refine qr_iconst (v := 1) (pc := 225) d_lw_law_225 (by decide) ?_
  refine qr_iadd (pc := 226) d_lw_law_226 ?_
  refine qR_st (st' := [.int (nI (a + 1)), .ref 77, .ref 47]) rfl (by rw [nI_1] <;> rfl) rfl ?_
  refine qr_sldN (j := (a + 1)) (fun _ _ _ _ h => h) (pc := 227) d_lw_law_227 (by omega) hLn ?_
  refine qr_callV (q := 47) (As := [.int (xs (a + 1))]) (pc := 228) d_lw_law_228 lk_lw_90 im_md_tariff se_md_tariff rfl (by decide) (by decide) (c_47 _ _) hm rfl rfl (Nat.le_of_ble_eq_true rfl) (Nat.le_of_ble_eq_true rfl) (Nat.le_of_ble_eq_true rfl) (by show kc + 1 + 0 ≤ 601024; omega) (by show ks + 6 + 0 ≤ 7293034; omega) (fun h => nomatch h) (fun v n9 f9 hE9 => ?_)
  obtain ⟨rfl, rfl, rfl⟩ := hE9
  refine qr_istore (lv' := [(6, .int b9), (5, .int k9), (0, .ref 77), (1, .ref 0), (2, .ref 47), (3, .ref 76), (4, .int (nI a))]) (pc := 231) d_lw_law_231 (Nat.le_of_ble_eq_true rfl) rfl ?_
  refine qr_aload_n (pc := 233) d_lw_law_233 rfl rfl ?_
  refine qr_callV (q := 47) (As := []) (pc := 234) d_lw_law_234 lk_lw_83 im_md_thrown se_md_thrown rfl (by decide) (by decide) (c_47 _ _) (s_md_thrown _ false _ _) rfl rfl (Nat.le_of_ble_eq_true rfl) (Nat.le_of_ble_eq_true rfl) (Nat.le_of_ble_eq_true rfl) (by show kc + 1 + 0 + 0 ≤ 601024; omega) (by show ks + 6 + 0 + 0 ≤ 7293034; omega) (fun h => nomatch h) (fun v n9 f9 hE9 => ?_)
  obtain ⟨rfl, rfl, rfl⟩ := hE9
  refine qr_iload (pc := 237) d_lw_law_237 rfl ?_
  refine qr_icmp_eq (tgt := 244) (pc := 239) d_lw_law_239 (by decide) (fun _ => ?_) (fun h => absurd hth h)
  refine qr_iload (pc := 244) d_lw_law_244 rfl ?_
  refine qr_if_ne (tgt := 261) (pc := 246) d_lw_law_246 (by decide) (fun _ => ?_) (fun hk9 => ?_)
  · skip
    refine qr_goto (tgt := 1255) (pc := 261) d_lw_law_261 (by decide) ?_
    refine qR_sub (lv' := lwV a) [2, 3, 4, 5, 6] rfl ?_
    exact kk _ _ hpost
  · have ho := hout hk9
    refine qr_aload_n (pc := 249) d_lw_law_249 rfl rfl ?_
    refine qr_iconst (v := 0) (pc := 250) d_lw_law_250 (by decide) ?_
    refine qr_laldN (j := 0) (pc := 251) d_lw_law_251 (by decide) (by decide) (c_76 _ _) (by decide) (by decide) ?_
    refine qr_iload (pc := 252) d_lw_law_252 rfl ?_
    refine qr_i2l (pc := 254) d_lw_law_254 ?_
    refine qr_lcmp (pc := 255) d_lw_law_255 ?_
    refine qr_if_eq (tgt := 261) (pc := 256) d_lw_law_256 (by decide) (fun _ => ?_) (fun h => absurd ((lgc_eq _ _).mpr ho) h)
    refine qr_goto (tgt := 1255) (pc := 261) d_lw_law_261 (by decide) ?_
    refine qR_sub (lv' := lwV a) [2, 3, 4, 5, 6] rfl ?_
    exact kk _ _ hpost
set_option maxRecDepth 10000 in
theorem lc_where {l : Launch} {b Ln : Nat} {xs : Nat → Int32} {E : qE} {X : qXC} {a kc ks : Nat} {I : Nat → Nat → Int32} {L : Nat → Nat → Int64} (ha : a + 5 ≤ Ln) (hLn : Ln < 2 ^ 31) (hkc : kc + 1 ≤ 601024) (hks : ks + 6 ≤ 7293034) (Post : (Nat → Nat → Int32) → (Nat → Nat → Int64) → Prop) {r r2 : Int32} {I1 I2 : Nat → Nat → Int32} {L1 L2 : Nat → Nat → Int64} (hW : qSp l y_bf_where b_bf_where 1 (some .int) false 2 0 0 [.ref 0] 77 (fm I L) (qD (some (.int r)) 77 (fm I1 L1))) (hM : qSp l y_md_where b_md_where 1 (some .int) false 1 0 0 [.ref 47] 77 (fm I1 L1) (qD (some (.int r2)) 77 (fm I2 L2))) (hr : r = r2) (hp : Post I2 L2) (kk : ∀ I2 L2, Post I2 L2 → qR (qKL l b Ln xs) E X 1255 (lwV a) [] 77 kc ks (fm I2 L2)) : qR (qKL l b Ln xs) E X 264 (lwV a) [] 77 kc ks (fm I L) := by
  refine qr_aload_n (pc := 264) d_lw_law_264 rfl rfl ?_
  refine qr_callV (q := 0) (As := []) (pc := 265) d_lw_law_265 lk_lw_91 im_bf_where se_bf_where rfl (by decide) (by decide) (c_0 _ _) hW rfl rfl (Nat.le_of_ble_eq_true rfl) (Nat.le_of_ble_eq_true rfl) (Nat.le_of_ble_eq_true rfl) (by show kc + 0 ≤ 601024; omega) (by show ks + 0 ≤ 7293034; omega) (fun h => nomatch h) (fun v n9 f9 hE => ?_)
  obtain ⟨rfl, rfl, rfl⟩ := hE
  refine qr_aload_n (pc := 268) d_lw_law_268 rfl rfl ?_
  refine qr_callV (q := 47) (As := []) (pc := 269) d_lw_law_269 lk_lw_94 im_md_where se_md_where rfl (by decide) (by decide) (c_47 _ _) hM rfl rfl (Nat.le_of_ble_eq_true rfl) (Nat.le_of_ble_eq_true rfl) (Nat.le_of_ble_eq_true rfl) (by show kc + 0 + 0 ≤ 601024; omega) (by show ks + 0 + 0 ≤ 7293034; omega) (fun h => nomatch h) (fun v n9 f9 hE => ?_)
  obtain ⟨rfl, rfl, rfl⟩ := hE
  refine qr_icmp_eq (tgt := 1255) (pc := 272) d_lw_law_272 (by decide) (fun _ => ?_) (fun h => absurd hr h)
  exact kk _ _ hp
set_option maxRecDepth 10000 in
theorem lc_use {l : Launch} {b Ln : Nat} {xs : Nat → Int32} {E : qE} {X : qXC} {a kc ks : Nat} {I : Nat → Nat → Int32} {L : Nat → Nat → Int64} (ha : a + 5 ≤ Ln) (hLn : Ln < 2 ^ 31) (hkc : kc + 1 ≤ 601024) (hks : ks + 6 ≤ 7293034) (Post : (Nat → Nat → Int32) → (Nat → Nat → Int64) → Prop) {Ew : qE} (hW : qSpW l y_lw_use b_lw_use 5 (some .int) hh_use 10 1 6 [.ref 0, .int (xs (a + 1)), .int (xs (a + 2)), .ref 76] 77 (fm I L) Ew) (hM : ∀ v n f, Ew v n f → ∃ (k9 : Int32) (I1 : Nat → Nat → Int32) (L1 : Nat → Nat → Int64) (b9 : Int64) (I2 : Nat → Nat → Int32) (L2 : Nat → Nat → Int64), some (.int k9) = v ∧ 77 = n ∧ fm I1 L1 = f ∧ qSp l y_md_use b_md_use 3 (some .long) false 3 0 0 [.ref 47, .int (xs (a + 1)), .int (xs (a + 2))] 77 (fm I1 L1) (qD (some (.long b9)) 77 (fm I2 L2)) ∧ I2 47 0 = k9 ∧ (k9 = 0 → L2 76 0 = b9) ∧ Post I2 L2) (kk : ∀ I2 L2, Post I2 L2 → qR (qKL l b Ln xs) E X 1255 (lwV a) [] 77 (kc + 1) (ks + 6) (fm I2 L2)) : qR (qKL l b Ln xs) E X 277 (lwV a) [] 77 kc ks (fm I L) := by
  refine qr_aload_n (pc := 277) d_lw_law_277 rfl rfl ?_
  refine qr_aload_n (pc := 278) d_lw_law_278 rfl rfl ?_
  refine qr_iload (pc := 279) d_lw_law_279 rfl ?_
  refine qr_iconst (v := 1) (pc := 281) d_lw_law_281 (by decide) ?_
  refine qr_iadd (pc := 282) d_lw_law_282 ?_
  refine qR_st (st' := [.int (nI (a + 1)), .ref 77, .ref 0]) rfl (by rw [nI_1] <;> rfl) rfl ?_
  refine qr_sldN (j := (a + 1)) (fun _ _ _ _ h => h) (pc := 283) d_lw_law_283 (by omega) hLn ?_
  refine qr_aload_n (pc := 284) d_lw_law_284 rfl rfl ?_
  refine qr_iload (pc := 285) d_lw_law_285 rfl ?_
  refine qr_iconst (v := 2) (pc := 287) d_lw_law_287 (by decide) ?_
  refine qr_iadd (pc := 288) d_lw_law_288 ?_
  refine qR_st (st' := [.int (nI (a + 2)), .ref 77, .int (xs (a + 1)), .ref 0]) rfl (by rw [nI_p2] <;> rfl) rfl ?_
  refine qr_sldN (j := (a + 2)) (fun _ _ _ _ h => h) (pc := 289) d_lw_law_289 (by omega) hLn ?_
  refine qr_aload_n (pc := 290) d_lw_law_290 rfl rfl ?_
  refine qr_callSW (hh := hh_use) (na := 4) (As := [.ref 0, .int (xs (a + 1)), .int (xs (a + 2)), .ref 76]) (pc := 291) d_lw_law_291 lk_lw_95 ii_lw cw_use ⟨by decide, by decide⟩ (by decide +kernel) sm_lw_use hW rfl rfl (Nat.le_of_ble_eq_true rfl) (Nat.le_of_ble_eq_true rfl) (Nat.le_of_ble_eq_true rfl) hkc hks (fun v n9 f9 hE => ?_)
  obtain ⟨k9, I1, L1, b9, I2, L2, rfl, rfl, rfl, hm, hth, hout, hpost⟩ := hM _ _ _ hE
  refine qr_istore (lv' := [(5, .int k9), (0, .ref 77), (1, .ref 0), (2, .ref 47), (3, .ref 76), (4, .int (nI a))]) (pc := 294) d_lw_law_294 (Nat.le_of_ble_eq_true rfl) rfl ?_
  refine qr_aload_n (pc := 296) d_lw_law_296 rfl rfl ?_
  refine qr_aload_n (pc := 297) d_lw_law_297 rfl rfl ?_
  refine qr_iload (pc := 298) d_lw_law_298 rfl ?_
  refine qr_iconst (v := 1) (pc := 300) d_lw_law_300 (by decide) ?_
  refine qr_iadd (pc := 301) d_lw_law_301 ?_
  refine qR_st (st' := [.int (nI (a + 1)), .ref 77, .ref 47]) rfl (by rw [nI_1] <;> rfl) rfl ?_
  refine qr_sldN (j := (a + 1)) (fun _ _ _ _ h => h) (pc := 302) d_lw_law_302 (by omega) hLn ?_
  refine qr_aload_n (pc := 303) d_lw_law_303 rfl rfl ?_
  refine qr_iload (pc := 304) d_lw_law_304 rfl ?_
  refine qr_iconst (v := 2) (pc := 306) d_lw_law_306 (by decide) ?_
  refine qr_iadd (pc := 307) d_lw_law_307 ?_
  refine qR_st (st' := [.int (nI (a + 2)), .ref 77, .int (xs (a + 1)), .ref 47]) rfl (by rw [nI_p2] <;> rfl) rfl ?_
  refine qr_sldN (j := (a + 2)) (fun _ _ _ _ h => h) (pc := 308) d_lw_law_308 (by omega) hLn ?_
  refine qr_callV (q := 47) (As := [.int (xs (a + 1)), .int (xs (a + 2))]) (pc := 309) d_lw_law_309 lk_lw_98 im_md_use se_md_use rfl (by decide) (by decide) (c_47 _ _) hm rfl rfl (Nat.le_of_ble_eq_true rfl) (Nat.le_of_ble_eq_true rfl) (Nat.le_of_ble_eq_true rfl) (by show kc + 1 + 0 ≤ 601024; omega) (by show ks + 6 + 0 ≤ 7293034; omega) (fun h => nomatch h) (fun v n9 f9 hE9 => ?_)
  obtain ⟨rfl, rfl, rfl⟩ := hE9
  refine qr_lstore (lv' := [(6, .long b9), (5, .int k9), (0, .ref 77), (1, .ref 0), (2, .ref 47), (3, .ref 76), (4, .int (nI a))]) (pc := 312) d_lw_law_312 (Nat.le_of_ble_eq_true rfl) rfl ?_
  refine qr_aload_n (pc := 314) d_lw_law_314 rfl rfl ?_
  refine qr_callV (q := 47) (As := []) (pc := 315) d_lw_law_315 lk_lw_83 im_md_thrown se_md_thrown rfl (by decide) (by decide) (c_47 _ _) (s_md_thrown _ false _ _) rfl rfl (Nat.le_of_ble_eq_true rfl) (Nat.le_of_ble_eq_true rfl) (Nat.le_of_ble_eq_true rfl) (by show kc + 1 + 0 + 0 ≤ 601024; omega) (by show ks + 6 + 0 + 0 ≤ 7293034; omega) (fun h => nomatch h) (fun v n9 f9 hE9 => ?_)
  obtain ⟨rfl, rfl, rfl⟩ := hE9
  refine qr_iload (pc := 318) d_lw_law_318 rfl ?_
  refine qr_icmp_eq (tgt := 325) (pc := 320) d_lw_law_320 (by decide) (fun _ => ?_) (fun h => absurd hth h)
  refine qr_iload (pc := 325) d_lw_law_325 rfl ?_
  refine qr_if_ne (tgt := 341) (pc := 327) d_lw_law_327 (by decide) (fun _ => ?_) (fun hk9 => ?_)
  · skip
    refine qr_goto (tgt := 1255) (pc := 341) d_lw_law_341 (by decide) ?_
    refine qR_sub (lv' := lwV a) [2, 3, 4, 5, 6] rfl ?_
    exact kk _ _ hpost
  · have ho := hout hk9
    refine qr_aload_n (pc := 330) d_lw_law_330 rfl rfl ?_
    refine qr_iconst (v := 0) (pc := 331) d_lw_law_331 (by decide) ?_
    refine qr_laldN (j := 0) (pc := 332) d_lw_law_332 (by decide) (by decide) (c_76 _ _) (by decide) (by decide) ?_
    refine qr_lload (pc := 333) d_lw_law_333 rfl ?_
    refine qr_lcmp (pc := 335) d_lw_law_335 ?_
    refine qr_if_eq (tgt := 341) (pc := 336) d_lw_law_336 (by decide) (fun _ => ?_) (fun h => absurd ((lgc_eq _ _).mpr ho) h)
    refine qr_goto (tgt := 1255) (pc := 341) d_lw_law_341 (by decide) ?_
    refine qR_sub (lv' := lwV a) [2, 3, 4, 5, 6] rfl ?_
    exact kk _ _ hpost
set_option maxRecDepth 10000 in
theorem lc_subscribe {l : Launch} {b Ln : Nat} {xs : Nat → Int32} {E : qE} {X : qXC} {a kc ks : Nat} {I : Nat → Nat → Int32} {L : Nat → Nat → Int64} (ha : a + 5 ≤ Ln) (hLn : Ln < 2 ^ 31) (hkc : kc + 1 ≤ 601024) (hks : ks + 6 ≤ 7293034) (Post : (Nat → Nat → Int32) → (Nat → Nat → Int64) → Prop) {Ew : qE} (hW : qSpW l y_lw_subscribe b_lw_subscribe 5 (some .int) hh_subscribe 10 1 6 [.ref 0, .int (xs (a + 1)), .int (xs (a + 2)), .ref 76] 77 (fm I L) Ew) (hM : ∀ v n f, Ew v n f → ∃ (k9 : Int32) (I1 : Nat → Nat → Int32) (L1 : Nat → Nat → Int64) (b9 : Int32) (I2 : Nat → Nat → Int32) (L2 : Nat → Nat → Int64), some (.int k9) = v ∧ 77 = n ∧ fm I1 L1 = f ∧ qSp l y_md_subscribe b_md_subscribe 4 (some .int) false 2 0 0 [.ref 47, .int (xs (a + 1)), .int (xs (a + 2))] 77 (fm I1 L1) (qD (some (.int b9)) 77 (fm I2 L2)) ∧ I2 47 0 = k9 ∧ (k9 = 0 → L2 76 0 = Int32.toInt64 b9) ∧ Post I2 L2) (kk : ∀ I2 L2, Post I2 L2 → qR (qKL l b Ln xs) E X 1255 (lwV a) [] 77 (kc + 1) (ks + 6) (fm I2 L2)) : qR (qKL l b Ln xs) E X 344 (lwV a) [] 77 kc ks (fm I L) := by
  refine qr_aload_n (pc := 344) d_lw_law_344 rfl rfl ?_
  refine qr_aload_n (pc := 345) d_lw_law_345 rfl rfl ?_
  refine qr_iload (pc := 346) d_lw_law_346 rfl ?_
  refine qr_iconst (v := 1) (pc := 348) d_lw_law_348 (by decide) ?_
  refine qr_iadd (pc := 349) d_lw_law_349 ?_
  refine qR_st (st' := [.int (nI (a + 1)), .ref 77, .ref 0]) rfl (by rw [nI_1] <;> rfl) rfl ?_
  refine qr_sldN (j := (a + 1)) (fun _ _ _ _ h => h) (pc := 350) d_lw_law_350 (by omega) hLn ?_
  refine qr_aload_n (pc := 351) d_lw_law_351 rfl rfl ?_
  refine qr_iload (pc := 352) d_lw_law_352 rfl ?_
  refine qr_iconst (v := 2) (pc := 354) d_lw_law_354 (by decide) ?_
  refine qr_iadd (pc := 355) d_lw_law_355 ?_
  refine qR_st (st' := [.int (nI (a + 2)), .ref 77, .int (xs (a + 1)), .ref 0]) rfl (by rw [nI_p2] <;> rfl) rfl ?_
  refine qr_sldN (j := (a + 2)) (fun _ _ _ _ h => h) (pc := 356) d_lw_law_356 (by omega) hLn ?_
  refine qr_aload_n (pc := 357) d_lw_law_357 rfl rfl ?_
  refine qr_callSW (hh := hh_subscribe) (na := 4) (As := [.ref 0, .int (xs (a + 1)), .int (xs (a + 2)), .ref 76]) (pc := 358) d_lw_law_358 lk_lw_99 ii_lw cw_subscribe ⟨by decide, by decide⟩ (by decide +kernel) sm_lw_subscribe hW rfl rfl (Nat.le_of_ble_eq_true rfl) (Nat.le_of_ble_eq_true rfl) (Nat.le_of_ble_eq_true rfl) hkc hks (fun v n9 f9 hE => ?_)
  obtain ⟨k9, I1, L1, b9, I2, L2, rfl, rfl, rfl, hm, hth, hout, hpost⟩ := hM _ _ _ hE
  refine qr_istore (lv' := [(5, .int k9), (0, .ref 77), (1, .ref 0), (2, .ref 47), (3, .ref 76), (4, .int (nI a))]) (pc := 361) d_lw_law_361 (Nat.le_of_ble_eq_true rfl) rfl ?_
  refine qr_aload_n (pc := 363) d_lw_law_363 rfl rfl ?_
  refine qr_aload_n (pc := 364) d_lw_law_364 rfl rfl ?_
  refine qr_iload (pc := 365) d_lw_law_365 rfl ?_
  refine qr_iconst (v := 1) (pc := 367) d_lw_law_367 (by decide) ?_
  refine qr_iadd (pc := 368) d_lw_law_368 ?_
  refine qR_st (st' := [.int (nI (a + 1)), .ref 77, .ref 47]) rfl (by rw [nI_1] <;> rfl) rfl ?_
  refine qr_sldN (j := (a + 1)) (fun _ _ _ _ h => h) (pc := 369) d_lw_law_369 (by omega) hLn ?_
  refine qr_aload_n (pc := 370) d_lw_law_370 rfl rfl ?_
  refine qr_iload (pc := 371) d_lw_law_371 rfl ?_
  refine qr_iconst (v := 2) (pc := 373) d_lw_law_373 (by decide) ?_
  refine qr_iadd (pc := 374) d_lw_law_374 ?_
  refine qR_st (st' := [.int (nI (a + 2)), .ref 77, .int (xs (a + 1)), .ref 47]) rfl (by rw [nI_p2] <;> rfl) rfl ?_
  refine qr_sldN (j := (a + 2)) (fun _ _ _ _ h => h) (pc := 375) d_lw_law_375 (by omega) hLn ?_
  refine qr_callV (q := 47) (As := [.int (xs (a + 1)), .int (xs (a + 2))]) (pc := 376) d_lw_law_376 lk_lw_101 im_md_subscribe se_md_subscribe rfl (by decide) (by decide) (c_47 _ _) hm rfl rfl (Nat.le_of_ble_eq_true rfl) (Nat.le_of_ble_eq_true rfl) (Nat.le_of_ble_eq_true rfl) (by show kc + 1 + 0 ≤ 601024; omega) (by show ks + 6 + 0 ≤ 7293034; omega) (fun h => nomatch h) (fun v n9 f9 hE9 => ?_)
  obtain ⟨rfl, rfl, rfl⟩ := hE9
  refine qr_istore (lv' := [(6, .int b9), (5, .int k9), (0, .ref 77), (1, .ref 0), (2, .ref 47), (3, .ref 76), (4, .int (nI a))]) (pc := 379) d_lw_law_379 (Nat.le_of_ble_eq_true rfl) rfl ?_
  refine qr_aload_n (pc := 381) d_lw_law_381 rfl rfl ?_
  refine qr_callV (q := 47) (As := []) (pc := 382) d_lw_law_382 lk_lw_83 im_md_thrown se_md_thrown rfl (by decide) (by decide) (c_47 _ _) (s_md_thrown _ false _ _) rfl rfl (Nat.le_of_ble_eq_true rfl) (Nat.le_of_ble_eq_true rfl) (Nat.le_of_ble_eq_true rfl) (by show kc + 1 + 0 + 0 ≤ 601024; omega) (by show ks + 6 + 0 + 0 ≤ 7293034; omega) (fun h => nomatch h) (fun v n9 f9 hE9 => ?_)
  obtain ⟨rfl, rfl, rfl⟩ := hE9
  refine qr_iload (pc := 385) d_lw_law_385 rfl ?_
  refine qr_icmp_eq (tgt := 392) (pc := 387) d_lw_law_387 (by decide) (fun _ => ?_) (fun h => absurd hth h)
  refine qr_iload (pc := 392) d_lw_law_392 rfl ?_
  refine qr_if_ne (tgt := 409) (pc := 394) d_lw_law_394 (by decide) (fun _ => ?_) (fun hk9 => ?_)
  · skip
    refine qr_goto (tgt := 1255) (pc := 409) d_lw_law_409 (by decide) ?_
    refine qR_sub (lv' := lwV a) [2, 3, 4, 5, 6] rfl ?_
    exact kk _ _ hpost
  · have ho := hout hk9
    refine qr_aload_n (pc := 397) d_lw_law_397 rfl rfl ?_
    refine qr_iconst (v := 0) (pc := 398) d_lw_law_398 (by decide) ?_
    refine qr_laldN (j := 0) (pc := 399) d_lw_law_399 (by decide) (by decide) (c_76 _ _) (by decide) (by decide) ?_
    refine qr_iload (pc := 400) d_lw_law_400 rfl ?_
    refine qr_i2l (pc := 402) d_lw_law_402 ?_
    refine qr_lcmp (pc := 403) d_lw_law_403 ?_
    refine qr_if_eq (tgt := 409) (pc := 404) d_lw_law_404 (by decide) (fun _ => ?_) (fun h => absurd ((lgc_eq _ _).mpr ho) h)
    refine qr_goto (tgt := 1255) (pc := 409) d_lw_law_409 (by decide) ?_
    refine qR_sub (lv' := lwV a) [2, 3, 4, 5, 6] rfl ?_
    exact kk _ _ hpost
set_option maxRecDepth 10000 in
theorem lc_pause {l : Launch} {b Ln : Nat} {xs : Nat → Int32} {E : qE} {X : qXC} {a kc ks : Nat} {I : Nat → Nat → Int32} {L : Nat → Nat → Int64} (ha : a + 5 ≤ Ln) (hLn : Ln < 2 ^ 31) (hkc : kc + 1 ≤ 601024) (hks : ks + 6 ≤ 7293034) (Post : (Nat → Nat → Int32) → (Nat → Nat → Int64) → Prop) {Ew : qE} {on : Int32} (hon : on = if xs (a + 2) = 0 then 0 else 1) (hW : qSpW l y_lw_pause b_lw_pause 5 (some .int) hh_pause 10 1 6 [.ref 0, .int (xs (a + 1)), .int on, .ref 76] 77 (fm I L) Ew) (hM : ∀ v n f, Ew v n f → ∃ (k9 : Int32) (I1 : Nat → Nat → Int32) (L1 : Nat → Nat → Int64) (b9 : Int32) (I2 : Nat → Nat → Int32) (L2 : Nat → Nat → Int64), some (.int k9) = v ∧ 77 = n ∧ fm I1 L1 = f ∧ qSp l y_md_pause b_md_pause 4 (some .boolean) false 2 0 0 [.ref 47, .int (xs (a + 1)), .int on] 77 (fm I1 L1) (qD (some (.int b9)) 77 (fm I2 L2)) ∧ I2 47 0 = k9 ∧ (k9 = 0 → L2 76 0 = (if b9 = 0 then 0 else 1)) ∧ Post I2 L2) (kk : ∀ I2 L2, Post I2 L2 → qR (qKL l b Ln xs) E X 1255 (lwV a) [] 77 (kc + 1) (ks + 6) (fm I2 L2)) : qR (qKL l b Ln xs) E X 412 (lwV a) [] 77 kc ks (fm I L) := by
  refine qr_aload_n (pc := 412) d_lw_law_412 rfl rfl ?_
  refine qr_aload_n (pc := 413) d_lw_law_413 rfl rfl ?_
  refine qr_iload (pc := 414) d_lw_law_414 rfl ?_
  refine qr_iconst (v := 1) (pc := 416) d_lw_law_416 (by decide) ?_
  refine qr_iadd (pc := 417) d_lw_law_417 ?_
  refine qR_st (st' := [.int (nI (a + 1)), .ref 77, .ref 0]) rfl (by rw [nI_1] <;> rfl) rfl ?_
  refine qr_sldN (j := (a + 1)) (fun _ _ _ _ h => h) (pc := 418) d_lw_law_418 (by omega) hLn ?_
  refine qr_aload_n (pc := 419) d_lw_law_419 rfl rfl ?_
  refine qr_iload (pc := 420) d_lw_law_420 rfl ?_
  refine qr_iconst (v := 2) (pc := 422) d_lw_law_422 (by decide) ?_
  refine qr_iadd (pc := 423) d_lw_law_423 ?_
  refine qR_st (st' := [.int (nI (a + 2)), .ref 77, .int (xs (a + 1)), .ref 0]) rfl (by rw [nI_p2] <;> rfl) rfl ?_
  refine qr_sldN (j := (a + 2)) (fun _ _ _ _ h => h) (pc := 424) d_lw_law_424 (by omega) hLn ?_
  refine qr_if_eq (tgt := 432) (pc := 425) d_lw_law_425 (by decide) (fun hz0 => ?_) (fun hz0 => ?_)
  · skip
    refine qr_iconst (v := 0) (pc := 432) d_lw_law_432 (by decide) ?_
    refine qr_aload_n (pc := 433) d_lw_law_433 rfl rfl ?_
    refine qR_st (st' := [.ref 76, .int on, .int (xs (a + 1)), .ref 0]) rfl (by rw [hon, if_pos hz0]) rfl ?_
    refine qr_callSW (hh := hh_pause) (na := 4) (As := [.ref 0, .int (xs (a + 1)), .int on, .ref 76]) (pc := 434) d_lw_law_434 lk_lw_102 ii_lw cw_pause ⟨by decide, by decide⟩ (by decide +kernel) sm_lw_pause hW rfl rfl (Nat.le_of_ble_eq_true rfl) (Nat.le_of_ble_eq_true rfl) (Nat.le_of_ble_eq_true rfl) hkc hks (fun v n9 f9 hE => ?_)
    obtain ⟨k9, I1, L1, b9, I2, L2, rfl, rfl, rfl, hm, hth, hout, hpost⟩ := hM _ _ _ hE
    refine qr_istore (lv' := [(5, .int k9), (0, .ref 77), (1, .ref 0), (2, .ref 47), (3, .ref 76), (4, .int (nI a))]) (pc := 437) d_lw_law_437 (Nat.le_of_ble_eq_true rfl) rfl ?_
    refine qr_aload_n (pc := 439) d_lw_law_439 rfl rfl ?_
    refine qr_aload_n (pc := 440) d_lw_law_440 rfl rfl ?_
    refine qr_iload (pc := 441) d_lw_law_441 rfl ?_
    refine qr_iconst (v := 1) (pc := 443) d_lw_law_443 (by decide) ?_
    refine qr_iadd (pc := 444) d_lw_law_444 ?_
    refine qR_st (st' := [.int (nI (a + 1)), .ref 77, .ref 47]) rfl (by rw [nI_1] <;> rfl) rfl ?_
    refine qr_sldN (j := (a + 1)) (fun _ _ _ _ h => h) (pc := 445) d_lw_law_445 (by omega) hLn ?_
    refine qr_aload_n (pc := 446) d_lw_law_446 rfl rfl ?_
    refine qr_iload (pc := 447) d_lw_law_447 rfl ?_
    refine qr_iconst (v := 2) (pc := 449) d_lw_law_449 (by decide) ?_
    refine qr_iadd (pc := 450) d_lw_law_450 ?_
    refine qR_st (st' := [.int (nI (a + 2)), .ref 77, .int (xs (a + 1)), .ref 47]) rfl (by rw [nI_p2] <;> rfl) rfl ?_
    refine qr_sldN (j := (a + 2)) (fun _ _ _ _ h => h) (pc := 451) d_lw_law_451 (by omega) hLn ?_
    refine qr_if_eq (tgt := 459) (pc := 452) d_lw_law_452 (by decide) (fun _ => ?_) (fun h => absurd hz0 h)
    refine qr_iconst (v := 0) (pc := 459) d_lw_law_459 (by decide) ?_
    refine qR_st (st' := [.int on, .int (xs (a + 1)), .ref 47]) rfl (by rw [hon, if_pos hz0]) rfl ?_
    refine qr_callV (q := 47) (As := [.int (xs (a + 1)), .int on]) (pc := 460) d_lw_law_460 lk_lw_105 im_md_pause se_md_pause rfl (by decide) (by decide) (c_47 _ _) hm rfl rfl (Nat.le_of_ble_eq_true rfl) (Nat.le_of_ble_eq_true rfl) (Nat.le_of_ble_eq_true rfl) (by show kc + 1 + 0 ≤ 601024; omega) (by show ks + 6 + 0 ≤ 7293034; omega) (fun h => nomatch h) (fun v n9 f9 hE9 => ?_)
    obtain ⟨rfl, rfl, rfl⟩ := hE9
    refine qr_istore (lv' := [(6, .int b9), (5, .int k9), (0, .ref 77), (1, .ref 0), (2, .ref 47), (3, .ref 76), (4, .int (nI a))]) (pc := 463) d_lw_law_463 (Nat.le_of_ble_eq_true rfl) rfl ?_
    refine qr_aload_n (pc := 465) d_lw_law_465 rfl rfl ?_
    refine qr_callV (q := 47) (As := []) (pc := 466) d_lw_law_466 lk_lw_83 im_md_thrown se_md_thrown rfl (by decide) (by decide) (c_47 _ _) (s_md_thrown _ false _ _) rfl rfl (Nat.le_of_ble_eq_true rfl) (Nat.le_of_ble_eq_true rfl) (Nat.le_of_ble_eq_true rfl) (by show kc + 1 + 0 + 0 ≤ 601024; omega) (by show ks + 6 + 0 + 0 ≤ 7293034; omega) (fun h => nomatch h) (fun v n9 f9 hE9 => ?_)
    obtain ⟨rfl, rfl, rfl⟩ := hE9
    refine qr_iload (pc := 469) d_lw_law_469 rfl ?_
    refine qr_icmp_eq (tgt := 476) (pc := 471) d_lw_law_471 (by decide) (fun _ => ?_) (fun h => absurd hth h)
    refine qr_iload (pc := 476) d_lw_law_476 rfl ?_
    refine qr_if_ne (tgt := 500) (pc := 478) d_lw_law_478 (by decide) (fun _ => ?_) (fun hk9 => ?_)
    · skip
      refine qr_goto (tgt := 1255) (pc := 500) d_lw_law_500 (by decide) ?_
      refine qR_sub (lv' := lwV a) [2, 3, 4, 5, 6] rfl ?_
      exact kk _ _ hpost
    · have ho := hout hk9
      refine qr_aload_n (pc := 481) d_lw_law_481 rfl rfl ?_
      refine qr_iconst (v := 0) (pc := 482) d_lw_law_482 (by decide) ?_
      refine qr_laldN (j := 0) (pc := 483) d_lw_law_483 (by decide) (by decide) (c_76 _ _) (by decide) (by decide) ?_
      refine qr_iload (pc := 484) d_lw_law_484 rfl ?_
      refine qr_if_eq (tgt := 493) (pc := 486) d_lw_law_486 (by decide) (fun hz => ?_) (fun hz => ?_)
      · skip
        refine qr_lconst (v := 0) (pc := 493) d_lw_law_493 (by decide) ?_
        refine qr_lcmp (pc := 494) d_lw_law_494 ?_
        refine qr_if_eq (tgt := 500) (pc := 495) d_lw_law_495 (by decide) (fun _ => ?_) (fun h => absurd ((lgc_eq _ _).mpr (by rw [ho, if_pos hz])) h)
        refine qr_goto (tgt := 1255) (pc := 500) d_lw_law_500 (by decide) ?_
        refine qR_sub (lv' := lwV a) [2, 3, 4, 5, 6] rfl ?_
        exact kk _ _ hpost
      · skip
        refine qr_lconst (v := 1) (pc := 489) d_lw_law_489 (by decide) ?_
        refine qr_goto (tgt := 494) (pc := 490) d_lw_law_490 (by decide) ?_
        refine qr_lcmp (pc := 494) d_lw_law_494 ?_
        refine qr_if_eq (tgt := 500) (pc := 495) d_lw_law_495 (by decide) (fun _ => ?_) (fun h => absurd ((lgc_eq _ _).mpr (by rw [ho, if_neg hz])) h)
        refine qr_goto (tgt := 1255) (pc := 500) d_lw_law_500 (by decide) ?_
        refine qR_sub (lv' := lwV a) [2, 3, 4, 5, 6] rfl ?_
        exact kk _ _ hpost
  · skip
    refine qr_iconst (v := 1) (pc := 428) d_lw_law_428 (by decide) ?_
    refine qr_goto (tgt := 433) (pc := 429) d_lw_law_429 (by decide) ?_
    refine qr_aload_n (pc := 433) d_lw_law_433 rfl rfl ?_
    refine qR_st (st' := [.ref 76, .int on, .int (xs (a + 1)), .ref 0]) rfl (by rw [hon, if_neg hz0]) rfl ?_
    refine qr_callSW (hh := hh_pause) (na := 4) (As := [.ref 0, .int (xs (a + 1)), .int on, .ref 76]) (pc := 434) d_lw_law_434 lk_lw_102 ii_lw cw_pause ⟨by decide, by decide⟩ (by decide +kernel) sm_lw_pause hW rfl rfl (Nat.le_of_ble_eq_true rfl) (Nat.le_of_ble_eq_true rfl) (Nat.le_of_ble_eq_true rfl) hkc hks (fun v n9 f9 hE => ?_)
    obtain ⟨k9, I1, L1, b9, I2, L2, rfl, rfl, rfl, hm, hth, hout, hpost⟩ := hM _ _ _ hE
    refine qr_istore (lv' := [(5, .int k9), (0, .ref 77), (1, .ref 0), (2, .ref 47), (3, .ref 76), (4, .int (nI a))]) (pc := 437) d_lw_law_437 (Nat.le_of_ble_eq_true rfl) rfl ?_
    refine qr_aload_n (pc := 439) d_lw_law_439 rfl rfl ?_
    refine qr_aload_n (pc := 440) d_lw_law_440 rfl rfl ?_
    refine qr_iload (pc := 441) d_lw_law_441 rfl ?_
    refine qr_iconst (v := 1) (pc := 443) d_lw_law_443 (by decide) ?_
    refine qr_iadd (pc := 444) d_lw_law_444 ?_
    refine qR_st (st' := [.int (nI (a + 1)), .ref 77, .ref 47]) rfl (by rw [nI_1] <;> rfl) rfl ?_
    refine qr_sldN (j := (a + 1)) (fun _ _ _ _ h => h) (pc := 445) d_lw_law_445 (by omega) hLn ?_
    refine qr_aload_n (pc := 446) d_lw_law_446 rfl rfl ?_
    refine qr_iload (pc := 447) d_lw_law_447 rfl ?_
    refine qr_iconst (v := 2) (pc := 449) d_lw_law_449 (by decide) ?_
    refine qr_iadd (pc := 450) d_lw_law_450 ?_
    refine qR_st (st' := [.int (nI (a + 2)), .ref 77, .int (xs (a + 1)), .ref 47]) rfl (by rw [nI_p2] <;> rfl) rfl ?_
    refine qr_sldN (j := (a + 2)) (fun _ _ _ _ h => h) (pc := 451) d_lw_law_451 (by omega) hLn ?_
    refine qr_if_eq (tgt := 459) (pc := 452) d_lw_law_452 (by decide) (fun h => absurd h hz0) (fun _ => ?_)
    refine qr_iconst (v := 1) (pc := 455) d_lw_law_455 (by decide) ?_
    refine qr_goto (tgt := 460) (pc := 456) d_lw_law_456 (by decide) ?_
    refine qR_st (st' := [.int on, .int (xs (a + 1)), .ref 47]) rfl (by rw [hon, if_neg hz0]) rfl ?_
    refine qr_callV (q := 47) (As := [.int (xs (a + 1)), .int on]) (pc := 460) d_lw_law_460 lk_lw_105 im_md_pause se_md_pause rfl (by decide) (by decide) (c_47 _ _) hm rfl rfl (Nat.le_of_ble_eq_true rfl) (Nat.le_of_ble_eq_true rfl) (Nat.le_of_ble_eq_true rfl) (by show kc + 1 + 0 ≤ 601024; omega) (by show ks + 6 + 0 ≤ 7293034; omega) (fun h => nomatch h) (fun v n9 f9 hE9 => ?_)
    obtain ⟨rfl, rfl, rfl⟩ := hE9
    refine qr_istore (lv' := [(6, .int b9), (5, .int k9), (0, .ref 77), (1, .ref 0), (2, .ref 47), (3, .ref 76), (4, .int (nI a))]) (pc := 463) d_lw_law_463 (Nat.le_of_ble_eq_true rfl) rfl ?_
    refine qr_aload_n (pc := 465) d_lw_law_465 rfl rfl ?_
    refine qr_callV (q := 47) (As := []) (pc := 466) d_lw_law_466 lk_lw_83 im_md_thrown se_md_thrown rfl (by decide) (by decide) (c_47 _ _) (s_md_thrown _ false _ _) rfl rfl (Nat.le_of_ble_eq_true rfl) (Nat.le_of_ble_eq_true rfl) (Nat.le_of_ble_eq_true rfl) (by show kc + 1 + 0 + 0 ≤ 601024; omega) (by show ks + 6 + 0 + 0 ≤ 7293034; omega) (fun h => nomatch h) (fun v n9 f9 hE9 => ?_)
    obtain ⟨rfl, rfl, rfl⟩ := hE9
    refine qr_iload (pc := 469) d_lw_law_469 rfl ?_
    refine qr_icmp_eq (tgt := 476) (pc := 471) d_lw_law_471 (by decide) (fun _ => ?_) (fun h => absurd hth h)
    refine qr_iload (pc := 476) d_lw_law_476 rfl ?_
    refine qr_if_ne (tgt := 500) (pc := 478) d_lw_law_478 (by decide) (fun _ => ?_) (fun hk9 => ?_)
    · skip
      refine qr_goto (tgt := 1255) (pc := 500) d_lw_law_500 (by decide) ?_
      refine qR_sub (lv' := lwV a) [2, 3, 4, 5, 6] rfl ?_
      exact kk _ _ hpost
    · have ho := hout hk9
      refine qr_aload_n (pc := 481) d_lw_law_481 rfl rfl ?_
      refine qr_iconst (v := 0) (pc := 482) d_lw_law_482 (by decide) ?_
      refine qr_laldN (j := 0) (pc := 483) d_lw_law_483 (by decide) (by decide) (c_76 _ _) (by decide) (by decide) ?_
      refine qr_iload (pc := 484) d_lw_law_484 rfl ?_
      refine qr_if_eq (tgt := 493) (pc := 486) d_lw_law_486 (by decide) (fun hz => ?_) (fun hz => ?_)
      · skip
        refine qr_lconst (v := 0) (pc := 493) d_lw_law_493 (by decide) ?_
        refine qr_lcmp (pc := 494) d_lw_law_494 ?_
        refine qr_if_eq (tgt := 500) (pc := 495) d_lw_law_495 (by decide) (fun _ => ?_) (fun h => absurd ((lgc_eq _ _).mpr (by rw [ho, if_pos hz])) h)
        refine qr_goto (tgt := 1255) (pc := 500) d_lw_law_500 (by decide) ?_
        refine qR_sub (lv' := lwV a) [2, 3, 4, 5, 6] rfl ?_
        exact kk _ _ hpost
      · skip
        refine qr_lconst (v := 1) (pc := 489) d_lw_law_489 (by decide) ?_
        refine qr_goto (tgt := 494) (pc := 490) d_lw_law_490 (by decide) ?_
        refine qr_lcmp (pc := 494) d_lw_law_494 ?_
        refine qr_if_eq (tgt := 500) (pc := 495) d_lw_law_495 (by decide) (fun _ => ?_) (fun h => absurd ((lgc_eq _ _).mpr (by rw [ho, if_neg hz])) h)
        refine qr_goto (tgt := 1255) (pc := 500) d_lw_law_500 (by decide) ?_
        refine qR_sub (lv' := lwV a) [2, 3, 4, 5, 6] rfl ?_
        exact kk _ _ hpost
set_option maxRecDepth 10000 in
theorem lc_event {l : Launch} {b Ln : Nat} {xs : Nat → Int32} {E : qE} {X : qXC} {a kc ks : Nat} {I : Nat → Nat → Int32} {L : Nat → Nat → Int64} (ha : a + 5 ≤ Ln) (hLn : Ln < 2 ^ 31) (hkc : kc + 1 ≤ 601024) (hks : ks + 6 ≤ 7293034) (Post : (Nat → Nat → Int32) → (Nat → Nat → Int64) → Prop) {Ew : qE} (hW : qSpW l y_lw_event b_lw_event 7 (some .int) hh_event 10 1 6 [.ref 0, .int (xs (a + 1)), .int (xs (a + 2)), .int (xs (a + 3)), .int (xs (a + 4)), .ref 76] 77 (fm I L) Ew) (hM : ∀ v n f, Ew v n f → ∃ (k9 : Int32) (I1 : Nat → Nat → Int32) (L1 : Nat → Nat → Int64) (b9 : Int32) (I2 : Nat → Nat → Int32) (L2 : Nat → Nat → Int64), some (.int k9) = v ∧ 77 = n ∧ fm I1 L1 = f ∧ qSp l y_md_event b_md_event 6 (some .int) false 2 0 0 [.ref 47, .int (xs (a + 1)), .int (xs (a + 2)), .int (xs (a + 3)), .int (xs (a + 4))] 77 (fm I1 L1) (qD (some (.int b9)) 77 (fm I2 L2)) ∧ I2 47 0 = k9 ∧ (k9 = 0 → L2 76 0 = Int32.toInt64 b9) ∧ Post I2 L2) (kk : ∀ I2 L2, Post I2 L2 → qR (qKL l b Ln xs) E X 1255 (lwV a) [] 77 (kc + 1) (ks + 6) (fm I2 L2)) : qR (qKL l b Ln xs) E X 503 (lwV a) [] 77 kc ks (fm I L) := by
  refine qr_aload_n (pc := 503) d_lw_law_503 rfl rfl ?_
  refine qr_aload_n (pc := 504) d_lw_law_504 rfl rfl ?_
  refine qr_iload (pc := 505) d_lw_law_505 rfl ?_
  refine qr_iconst (v := 1) (pc := 507) d_lw_law_507 (by decide) ?_
  refine qr_iadd (pc := 508) d_lw_law_508 ?_
  refine qR_st (st' := [.int (nI (a + 1)), .ref 77, .ref 0]) rfl (by rw [nI_1] <;> rfl) rfl ?_
  refine qr_sldN (j := (a + 1)) (fun _ _ _ _ h => h) (pc := 509) d_lw_law_509 (by omega) hLn ?_
  refine qr_aload_n (pc := 510) d_lw_law_510 rfl rfl ?_
  refine qr_iload (pc := 511) d_lw_law_511 rfl ?_
  refine qr_iconst (v := 2) (pc := 513) d_lw_law_513 (by decide) ?_
  refine qr_iadd (pc := 514) d_lw_law_514 ?_
  refine qR_st (st' := [.int (nI (a + 2)), .ref 77, .int (xs (a + 1)), .ref 0]) rfl (by rw [nI_p2] <;> rfl) rfl ?_
  refine qr_sldN (j := (a + 2)) (fun _ _ _ _ h => h) (pc := 515) d_lw_law_515 (by omega) hLn ?_
  refine qr_aload_n (pc := 516) d_lw_law_516 rfl rfl ?_
  refine qr_iload (pc := 517) d_lw_law_517 rfl ?_
  refine qr_iconst (v := 3) (pc := 519) d_lw_law_519 (by decide) ?_
  refine qr_iadd (pc := 520) d_lw_law_520 ?_
  refine qR_st (st' := [.int (nI (a + 3)), .ref 77, .int (xs (a + 2)), .int (xs (a + 1)), .ref 0]) rfl (by rw [nI_p3] <;> rfl) rfl ?_
  refine qr_sldN (j := (a + 3)) (fun _ _ _ _ h => h) (pc := 521) d_lw_law_521 (by omega) hLn ?_
  refine qr_aload_n (pc := 522) d_lw_law_522 rfl rfl ?_
  refine qr_iload (pc := 523) d_lw_law_523 rfl ?_
  refine qr_iconst (v := 4) (pc := 525) d_lw_law_525 (by decide) ?_
  refine qr_iadd (pc := 526) d_lw_law_526 ?_
  refine qR_st (st' := [.int (nI (a + 4)), .ref 77, .int (xs (a + 3)), .int (xs (a + 2)), .int (xs (a + 1)), .ref 0]) rfl (by rw [nI_p4] <;> rfl) rfl ?_
  refine qr_sldN (j := (a + 4)) (fun _ _ _ _ h => h) (pc := 527) d_lw_law_527 (by omega) hLn ?_
  refine qr_aload_n (pc := 528) d_lw_law_528 rfl rfl ?_
  refine qr_callSW (hh := hh_event) (na := 6) (As := [.ref 0, .int (xs (a + 1)), .int (xs (a + 2)), .int (xs (a + 3)), .int (xs (a + 4)), .ref 76]) (pc := 529) d_lw_law_529 lk_lw_106 ii_lw cw_event ⟨by decide, by decide⟩ (by decide +kernel) sm_lw_event hW rfl rfl (Nat.le_of_ble_eq_true rfl) (Nat.le_of_ble_eq_true rfl) (Nat.le_of_ble_eq_true rfl) hkc hks (fun v n9 f9 hE => ?_)
  obtain ⟨k9, I1, L1, b9, I2, L2, rfl, rfl, rfl, hm, hth, hout, hpost⟩ := hM _ _ _ hE
  refine qr_istore (lv' := [(5, .int k9), (0, .ref 77), (1, .ref 0), (2, .ref 47), (3, .ref 76), (4, .int (nI a))]) (pc := 532) d_lw_law_532 (Nat.le_of_ble_eq_true rfl) rfl ?_
  refine qr_aload_n (pc := 534) d_lw_law_534 rfl rfl ?_
  refine qr_aload_n (pc := 535) d_lw_law_535 rfl rfl ?_
  refine qr_iload (pc := 536) d_lw_law_536 rfl ?_
  refine qr_iconst (v := 1) (pc := 538) d_lw_law_538 (by decide) ?_
  refine qr_iadd (pc := 539) d_lw_law_539 ?_
  refine qR_st (st' := [.int (nI (a + 1)), .ref 77, .ref 47]) rfl (by rw [nI_1] <;> rfl) rfl ?_
  refine qr_sldN (j := (a + 1)) (fun _ _ _ _ h => h) (pc := 540) d_lw_law_540 (by omega) hLn ?_
  refine qr_aload_n (pc := 541) d_lw_law_541 rfl rfl ?_
  refine qr_iload (pc := 542) d_lw_law_542 rfl ?_
  refine qr_iconst (v := 2) (pc := 544) d_lw_law_544 (by decide) ?_
  refine qr_iadd (pc := 545) d_lw_law_545 ?_
  refine qR_st (st' := [.int (nI (a + 2)), .ref 77, .int (xs (a + 1)), .ref 47]) rfl (by rw [nI_p2] <;> rfl) rfl ?_
  refine qr_sldN (j := (a + 2)) (fun _ _ _ _ h => h) (pc := 546) d_lw_law_546 (by omega) hLn ?_
  refine qr_aload_n (pc := 547) d_lw_law_547 rfl rfl ?_
  refine qr_iload (pc := 548) d_lw_law_548 rfl ?_
  refine qr_iconst (v := 3) (pc := 550) d_lw_law_550 (by decide) ?_
  refine qr_iadd (pc := 551) d_lw_law_551 ?_
  refine qR_st (st' := [.int (nI (a + 3)), .ref 77, .int (xs (a + 2)), .int (xs (a + 1)), .ref 47]) rfl (by rw [nI_p3] <;> rfl) rfl ?_
  refine qr_sldN (j := (a + 3)) (fun _ _ _ _ h => h) (pc := 552) d_lw_law_552 (by omega) hLn ?_
  refine qr_aload_n (pc := 553) d_lw_law_553 rfl rfl ?_
  refine qr_iload (pc := 554) d_lw_law_554 rfl ?_
  refine qr_iconst (v := 4) (pc := 556) d_lw_law_556 (by decide) ?_
  refine qr_iadd (pc := 557) d_lw_law_557 ?_
  refine qR_st (st' := [.int (nI (a + 4)), .ref 77, .int (xs (a + 3)), .int (xs (a + 2)), .int (xs (a + 1)), .ref 47]) rfl (by rw [nI_p4] <;> rfl) rfl ?_
  refine qr_sldN (j := (a + 4)) (fun _ _ _ _ h => h) (pc := 558) d_lw_law_558 (by omega) hLn ?_
  refine qr_callV (q := 47) (As := [.int (xs (a + 1)), .int (xs (a + 2)), .int (xs (a + 3)), .int (xs (a + 4))]) (pc := 559) d_lw_law_559 lk_lw_109 im_md_event se_md_event rfl (by decide) (by decide) (c_47 _ _) hm rfl rfl (Nat.le_of_ble_eq_true rfl) (Nat.le_of_ble_eq_true rfl) (Nat.le_of_ble_eq_true rfl) (by show kc + 1 + 0 ≤ 601024; omega) (by show ks + 6 + 0 ≤ 7293034; omega) (fun h => nomatch h) (fun v n9 f9 hE9 => ?_)
  obtain ⟨rfl, rfl, rfl⟩ := hE9
  refine qr_istore (lv' := [(6, .int b9), (5, .int k9), (0, .ref 77), (1, .ref 0), (2, .ref 47), (3, .ref 76), (4, .int (nI a))]) (pc := 562) d_lw_law_562 (Nat.le_of_ble_eq_true rfl) rfl ?_
  refine qr_aload_n (pc := 564) d_lw_law_564 rfl rfl ?_
  refine qr_callV (q := 47) (As := []) (pc := 565) d_lw_law_565 lk_lw_83 im_md_thrown se_md_thrown rfl (by decide) (by decide) (c_47 _ _) (s_md_thrown _ false _ _) rfl rfl (Nat.le_of_ble_eq_true rfl) (Nat.le_of_ble_eq_true rfl) (Nat.le_of_ble_eq_true rfl) (by show kc + 1 + 0 + 0 ≤ 601024; omega) (by show ks + 6 + 0 + 0 ≤ 7293034; omega) (fun h => nomatch h) (fun v n9 f9 hE9 => ?_)
  obtain ⟨rfl, rfl, rfl⟩ := hE9
  refine qr_iload (pc := 568) d_lw_law_568 rfl ?_
  refine qr_icmp_eq (tgt := 575) (pc := 570) d_lw_law_570 (by decide) (fun _ => ?_) (fun h => absurd hth h)
  refine qr_iload (pc := 575) d_lw_law_575 rfl ?_
  refine qr_if_ne (tgt := 592) (pc := 577) d_lw_law_577 (by decide) (fun _ => ?_) (fun hk9 => ?_)
  · skip
    refine qr_goto (tgt := 1255) (pc := 592) d_lw_law_592 (by decide) ?_
    refine qR_sub (lv' := lwV a) [2, 3, 4, 5, 6] rfl ?_
    exact kk _ _ hpost
  · have ho := hout hk9
    refine qr_aload_n (pc := 580) d_lw_law_580 rfl rfl ?_
    refine qr_iconst (v := 0) (pc := 581) d_lw_law_581 (by decide) ?_
    refine qr_laldN (j := 0) (pc := 582) d_lw_law_582 (by decide) (by decide) (c_76 _ _) (by decide) (by decide) ?_
    refine qr_iload (pc := 583) d_lw_law_583 rfl ?_
    refine qr_i2l (pc := 585) d_lw_law_585 ?_
    refine qr_lcmp (pc := 586) d_lw_law_586 ?_
    refine qr_if_eq (tgt := 592) (pc := 587) d_lw_law_587 (by decide) (fun _ => ?_) (fun h => absurd ((lgc_eq _ _).mpr ho) h)
    refine qr_goto (tgt := 1255) (pc := 592) d_lw_law_592 (by decide) ?_
    refine qR_sub (lv' := lwV a) [2, 3, 4, 5, 6] rfl ?_
    exact kk _ _ hpost
set_option maxRecDepth 10000 in
theorem lc_tick {l : Launch} {b Ln : Nat} {xs : Nat → Int32} {E : qE} {X : qXC} {a kc ks : Nat} {I : Nat → Nat → Int32} {L : Nat → Nat → Int64} (ha : a + 5 ≤ Ln) (hLn : Ln < 2 ^ 31) (hkc : kc + 1 ≤ 601024) (hks : ks + 6 ≤ 7293034) (Post : (Nat → Nat → Int32) → (Nat → Nat → Int64) → Prop) {Ew : qE} (hW : qSpW l y_lw_tick b_lw_tick 4 (some .int) hh_tick 10 1 6 [.ref 0, .int (xs (a + 1)), .ref 76] 77 (fm I L) Ew) (hM : ∀ v n f, Ew v n f → ∃ (k9 : Int32) (I1 : Nat → Nat → Int32) (L1 : Nat → Nat → Int64) (b9 : Int32) (I2 : Nat → Nat → Int32) (L2 : Nat → Nat → Int64), some (.int k9) = v ∧ 77 = n ∧ fm I1 L1 = f ∧ qSp l y_md_tick b_md_tick 4 (some .int) false 3 0 0 [.ref 47, .int (xs (a + 1))] 77 (fm I1 L1) (qD (some (.int b9)) 77 (fm I2 L2)) ∧ I2 47 0 = k9 ∧ (k9 = 0 → L2 76 0 = Int32.toInt64 b9) ∧ Post I2 L2) (kk : ∀ I2 L2, Post I2 L2 → qR (qKL l b Ln xs) E X 1255 (lwV a) [] 77 (kc + 1) (ks + 6) (fm I2 L2)) : qR (qKL l b Ln xs) E X 595 (lwV a) [] 77 kc ks (fm I L) := by
  refine qr_aload_n (pc := 595) d_lw_law_595 rfl rfl ?_
  refine qr_aload_n (pc := 596) d_lw_law_596 rfl rfl ?_
  refine qr_iload (pc := 597) d_lw_law_597 rfl ?_
  refine qr_iconst (v := 1) (pc := 599) d_lw_law_599 (by decide) ?_
  refine qr_iadd (pc := 600) d_lw_law_600 ?_
  refine qR_st (st' := [.int (nI (a + 1)), .ref 77, .ref 0]) rfl (by rw [nI_1] <;> rfl) rfl ?_
  refine qr_sldN (j := (a + 1)) (fun _ _ _ _ h => h) (pc := 601) d_lw_law_601 (by omega) hLn ?_
  refine qr_aload_n (pc := 602) d_lw_law_602 rfl rfl ?_
  refine qr_callSW (hh := hh_tick) (na := 3) (As := [.ref 0, .int (xs (a + 1)), .ref 76]) (pc := 603) d_lw_law_603 lk_lw_110 ii_lw cw_tick ⟨by decide, by decide⟩ (by decide +kernel) sm_lw_tick hW rfl rfl (Nat.le_of_ble_eq_true rfl) (Nat.le_of_ble_eq_true rfl) (Nat.le_of_ble_eq_true rfl) hkc hks (fun v n9 f9 hE => ?_)
  obtain ⟨k9, I1, L1, b9, I2, L2, rfl, rfl, rfl, hm, hth, hout, hpost⟩ := hM _ _ _ hE
  refine qr_istore (lv' := [(5, .int k9), (0, .ref 77), (1, .ref 0), (2, .ref 47), (3, .ref 76), (4, .int (nI a))]) (pc := 606) d_lw_law_606 (Nat.le_of_ble_eq_true rfl) rfl ?_
  refine qr_aload_n (pc := 608) d_lw_law_608 rfl rfl ?_
  refine qr_aload_n (pc := 609) d_lw_law_609 rfl rfl ?_
  refine qr_iload (pc := 610) d_lw_law_610 rfl ?_
  refine qr_iconst (v := 1) (pc := 612) d_lw_law_612 (by decide) ?_
  refine qr_iadd (pc := 613) d_lw_law_613 ?_
  refine qR_st (st' := [.int (nI (a + 1)), .ref 77, .ref 47]) rfl (by rw [nI_1] <;> rfl) rfl ?_
  refine qr_sldN (j := (a + 1)) (fun _ _ _ _ h => h) (pc := 614) d_lw_law_614 (by omega) hLn ?_
  refine qr_callV (q := 47) (As := [.int (xs (a + 1))]) (pc := 615) d_lw_law_615 lk_lw_112 im_md_tick se_md_tick rfl (by decide) (by decide) (c_47 _ _) hm rfl rfl (Nat.le_of_ble_eq_true rfl) (Nat.le_of_ble_eq_true rfl) (Nat.le_of_ble_eq_true rfl) (by show kc + 1 + 0 ≤ 601024; omega) (by show ks + 6 + 0 ≤ 7293034; omega) (fun h => nomatch h) (fun v n9 f9 hE9 => ?_)
  obtain ⟨rfl, rfl, rfl⟩ := hE9
  refine qr_istore (lv' := [(6, .int b9), (5, .int k9), (0, .ref 77), (1, .ref 0), (2, .ref 47), (3, .ref 76), (4, .int (nI a))]) (pc := 618) d_lw_law_618 (Nat.le_of_ble_eq_true rfl) rfl ?_
  refine qr_aload_n (pc := 620) d_lw_law_620 rfl rfl ?_
  refine qr_callV (q := 47) (As := []) (pc := 621) d_lw_law_621 lk_lw_83 im_md_thrown se_md_thrown rfl (by decide) (by decide) (c_47 _ _) (s_md_thrown _ false _ _) rfl rfl (Nat.le_of_ble_eq_true rfl) (Nat.le_of_ble_eq_true rfl) (Nat.le_of_ble_eq_true rfl) (by show kc + 1 + 0 + 0 ≤ 601024; omega) (by show ks + 6 + 0 + 0 ≤ 7293034; omega) (fun h => nomatch h) (fun v n9 f9 hE9 => ?_)
  obtain ⟨rfl, rfl, rfl⟩ := hE9
  refine qr_iload (pc := 624) d_lw_law_624 rfl ?_
  refine qr_icmp_eq (tgt := 631) (pc := 626) d_lw_law_626 (by decide) (fun _ => ?_) (fun h => absurd hth h)
  refine qr_iload (pc := 631) d_lw_law_631 rfl ?_
  refine qr_if_ne (tgt := 648) (pc := 633) d_lw_law_633 (by decide) (fun _ => ?_) (fun hk9 => ?_)
  · skip
    refine qr_goto (tgt := 1255) (pc := 648) d_lw_law_648 (by decide) ?_
    refine qR_sub (lv' := lwV a) [2, 3, 4, 5, 6] rfl ?_
    exact kk _ _ hpost
  · have ho := hout hk9
    refine qr_aload_n (pc := 636) d_lw_law_636 rfl rfl ?_
    refine qr_iconst (v := 0) (pc := 637) d_lw_law_637 (by decide) ?_
    refine qr_laldN (j := 0) (pc := 638) d_lw_law_638 (by decide) (by decide) (c_76 _ _) (by decide) (by decide) ?_
    refine qr_iload (pc := 639) d_lw_law_639 rfl ?_
    refine qr_i2l (pc := 641) d_lw_law_641 ?_
    refine qr_lcmp (pc := 642) d_lw_law_642 ?_
    refine qr_if_eq (tgt := 648) (pc := 643) d_lw_law_643 (by decide) (fun _ => ?_) (fun h => absurd ((lgc_eq _ _).mpr ho) h)
    refine qr_goto (tgt := 1255) (pc := 648) d_lw_law_648 (by decide) ?_
    refine qR_sub (lv' := lwV a) [2, 3, 4, 5, 6] rfl ?_
    exact kk _ _ hpost
set_option maxRecDepth 10000 in
theorem lc_run {l : Launch} {b Ln : Nat} {xs : Nat → Int32} {E : qE} {X : qXC} {a kc ks : Nat} {I : Nat → Nat → Int32} {L : Nat → Nat → Int64} (ha : a + 5 ≤ Ln) (hLn : Ln < 2 ^ 31) (hkc : kc + 1 ≤ 601024) (hks : ks + 6 ≤ 7293034) (Post : (Nat → Nat → Int32) → (Nat → Nat → Int64) → Prop) {r r2 : Int32} {I1 I2 : Nat → Nat → Int32} {L1 L2 : Nat → Nat → Int64} (hW : qSp l y_bf_run b_bf_run 4 (some .int) false 9 0 0 [.ref 0] 77 (fm I L) (qD (some (.int r)) 77 (fm I1 L1))) (hM : qSp l y_md_run b_md_run 9 (some .int) false 6 0 0 [.ref 47] 77 (fm I1 L1) (qD (some (.int r2)) 77 (fm I2 L2))) (hr : r = r2) (hp : Post I2 L2) (kk : ∀ I2 L2, Post I2 L2 → qR (qKL l b Ln xs) E X 1255 (lwV a) [] 77 kc ks (fm I2 L2)) : qR (qKL l b Ln xs) E X 651 (lwV a) [] 77 kc ks (fm I L) := by
  refine qr_aload_n (pc := 651) d_lw_law_651 rfl rfl ?_
  refine qr_callV (q := 0) (As := []) (pc := 652) d_lw_law_652 lk_lw_113 im_bf_run se_bf_run rfl (by decide) (by decide) (c_0 _ _) hW rfl rfl (Nat.le_of_ble_eq_true rfl) (Nat.le_of_ble_eq_true rfl) (Nat.le_of_ble_eq_true rfl) (by show kc + 0 ≤ 601024; omega) (by show ks + 0 ≤ 7293034; omega) (fun h => nomatch h) (fun v n9 f9 hE => ?_)
  obtain ⟨rfl, rfl, rfl⟩ := hE
  refine qr_aload_n (pc := 655) d_lw_law_655 rfl rfl ?_
  refine qr_callV (q := 47) (As := []) (pc := 656) d_lw_law_656 lk_lw_116 im_md_run se_md_run rfl (by decide) (by decide) (c_47 _ _) hM rfl rfl (Nat.le_of_ble_eq_true rfl) (Nat.le_of_ble_eq_true rfl) (Nat.le_of_ble_eq_true rfl) (by show kc + 0 + 0 ≤ 601024; omega) (by show ks + 0 + 0 ≤ 7293034; omega) (fun h => nomatch h) (fun v n9 f9 hE => ?_)
  obtain ⟨rfl, rfl, rfl⟩ := hE
  refine qr_icmp_eq (tgt := 1255) (pc := 659) d_lw_law_659 (by decide) (fun _ => ?_) (fun h => absurd hr h)
  exact kk _ _ hp
set_option maxRecDepth 10000 in
theorem lc_pay {l : Launch} {b Ln : Nat} {xs : Nat → Int32} {E : qE} {X : qXC} {a kc ks : Nat} {I : Nat → Nat → Int32} {L : Nat → Nat → Int64} (ha : a + 5 ≤ Ln) (hLn : Ln < 2 ^ 31) (hkc : kc + 1 ≤ 601024) (hks : ks + 6 ≤ 7293034) (Post : (Nat → Nat → Int32) → (Nat → Nat → Int64) → Prop) {Ew : qE} (hW : qSpW l y_lw_pay b_lw_pay 6 (some .int) hh_pay 10 1 6 [.ref 0, .int (xs (a + 1)), .long (lwJ (xs (a + 2)) (xs (a + 3))), .ref 76] 77 (fm I L) Ew) (hM : ∀ v n f, Ew v n f → ∃ (k9 : Int32) (I1 : Nat → Nat → Int32) (L1 : Nat → Nat → Int64) (b9 : Int64) (I2 : Nat → Nat → Int32) (L2 : Nat → Nat → Int64), some (.int k9) = v ∧ 77 = n ∧ fm I1 L1 = f ∧ qSp l y_md_pay b_md_pay 6 (some .long) false 4 0 0 [.ref 47, .int (xs (a + 1)), .long (lwJ (xs (a + 2)) (xs (a + 3)))] 77 (fm I1 L1) (qD (some (.long b9)) 77 (fm I2 L2)) ∧ I2 47 0 = k9 ∧ (k9 = 0 → L2 76 0 = b9) ∧ Post I2 L2) (kk : ∀ I2 L2, Post I2 L2 → qR (qKL l b Ln xs) E X 1255 (lwV a) [] 77 (kc + 1) (ks + 6) (fm I2 L2)) : qR (qKL l b Ln xs) E X 664 (lwV a) [] 77 kc ks (fm I L) := by
  refine qr_aload_n (pc := 664) d_lw_law_664 rfl rfl ?_
  refine qr_aload_n (pc := 665) d_lw_law_665 rfl rfl ?_
  refine qr_iload (pc := 666) d_lw_law_666 rfl ?_
  refine qr_iconst (v := 1) (pc := 668) d_lw_law_668 (by decide) ?_
  refine qr_iadd (pc := 669) d_lw_law_669 ?_
  refine qR_st (st' := [.int (nI (a + 1)), .ref 77, .ref 0]) rfl (by rw [nI_1] <;> rfl) rfl ?_
  refine qr_sldN (j := (a + 1)) (fun _ _ _ _ h => h) (pc := 670) d_lw_law_670 (by omega) hLn ?_
  refine qr_aload_n (pc := 671) d_lw_law_671 rfl rfl ?_
  refine qr_iload (pc := 672) d_lw_law_672 rfl ?_
  refine qr_iconst (v := 2) (pc := 674) d_lw_law_674 (by decide) ?_
  refine qr_iadd (pc := 675) d_lw_law_675 ?_
  refine qR_st (st' := [.int (nI (a + 2)), .ref 77, .int (xs (a + 1)), .ref 0]) rfl (by rw [nI_p2] <;> rfl) rfl ?_
  refine qr_sldN (j := (a + 2)) (fun _ _ _ _ h => h) (pc := 676) d_lw_law_676 (by omega) hLn ?_
  refine qr_i2l (pc := 677) d_lw_law_677 ?_
  refine qr_bipush (v := 32) (pc := 678) d_lw_law_678 (by decide) ?_
  refine qr_lshl (pc := 680) d_lw_law_680 ?_
  refine qr_aload_n (pc := 681) d_lw_law_681 rfl rfl ?_
  refine qr_iload (pc := 682) d_lw_law_682 rfl ?_
  refine qr_iconst (v := 3) (pc := 684) d_lw_law_684 (by decide) ?_
  refine qr_iadd (pc := 685) d_lw_law_685 ?_
  refine qR_st (st' := [.int (nI (a + 3)), .ref 77, .long ((Int32.toInt64 (xs (a + 2))) <<< ((Int32.toInt64 32) &&& 63)), .int (xs (a + 1)), .ref 0]) rfl (by rw [nI_p3] <;> rfl) rfl ?_
  refine qr_sldN (j := (a + 3)) (fun _ _ _ _ h => h) (pc := 686) d_lw_law_686 (by omega) hLn ?_
  refine qr_i2l (pc := 687) d_lw_law_687 ?_
  refine qr_ldc2 (v := 4294967295) (pc := 688) d_lw_law_688 kl_lw_75 ?_
  refine qr_land (pc := 691) d_lw_law_691 ?_
  refine qr_lor (pc := 692) d_lw_law_692 ?_
  refine qR_st (st' := [.long (lwJ (xs (a + 2)) (xs (a + 3))), .int (xs (a + 1)), .ref 0]) rfl rfl rfl ?_
  refine qr_aload_n (pc := 693) d_lw_law_693 rfl rfl ?_
  refine qr_callSW (hh := hh_pay) (na := 4) (As := [.ref 0, .int (xs (a + 1)), .long (lwJ (xs (a + 2)) (xs (a + 3))), .ref 76]) (pc := 694) d_lw_law_694 lk_lw_117 ii_lw cw_pay ⟨by decide, by decide⟩ (by decide +kernel) sm_lw_pay hW rfl rfl (Nat.le_of_ble_eq_true rfl) (Nat.le_of_ble_eq_true rfl) (Nat.le_of_ble_eq_true rfl) hkc hks (fun v n9 f9 hE => ?_)
  obtain ⟨k9, I1, L1, b9, I2, L2, rfl, rfl, rfl, hm, hth, hout, hpost⟩ := hM _ _ _ hE
  refine qr_istore (lv' := [(5, .int k9), (0, .ref 77), (1, .ref 0), (2, .ref 47), (3, .ref 76), (4, .int (nI a))]) (pc := 697) d_lw_law_697 (Nat.le_of_ble_eq_true rfl) rfl ?_
  refine qr_aload_n (pc := 699) d_lw_law_699 rfl rfl ?_
  refine qr_aload_n (pc := 700) d_lw_law_700 rfl rfl ?_
  refine qr_iload (pc := 701) d_lw_law_701 rfl ?_
  refine qr_iconst (v := 1) (pc := 703) d_lw_law_703 (by decide) ?_
  refine qr_iadd (pc := 704) d_lw_law_704 ?_
  refine qR_st (st' := [.int (nI (a + 1)), .ref 77, .ref 47]) rfl (by rw [nI_1] <;> rfl) rfl ?_
  refine qr_sldN (j := (a + 1)) (fun _ _ _ _ h => h) (pc := 705) d_lw_law_705 (by omega) hLn ?_
  refine qr_aload_n (pc := 706) d_lw_law_706 rfl rfl ?_
  refine qr_iload (pc := 707) d_lw_law_707 rfl ?_
  refine qr_iconst (v := 2) (pc := 709) d_lw_law_709 (by decide) ?_
  refine qr_iadd (pc := 710) d_lw_law_710 ?_
  refine qR_st (st' := [.int (nI (a + 2)), .ref 77, .int (xs (a + 1)), .ref 47]) rfl (by rw [nI_p2] <;> rfl) rfl ?_
  refine qr_sldN (j := (a + 2)) (fun _ _ _ _ h => h) (pc := 711) d_lw_law_711 (by omega) hLn ?_
  refine qr_i2l (pc := 712) d_lw_law_712 ?_
  refine qr_bipush (v := 32) (pc := 713) d_lw_law_713 (by decide) ?_
  refine qr_lshl (pc := 715) d_lw_law_715 ?_
  refine qr_aload_n (pc := 716) d_lw_law_716 rfl rfl ?_
  refine qr_iload (pc := 717) d_lw_law_717 rfl ?_
  refine qr_iconst (v := 3) (pc := 719) d_lw_law_719 (by decide) ?_
  refine qr_iadd (pc := 720) d_lw_law_720 ?_
  refine qR_st (st' := [.int (nI (a + 3)), .ref 77, .long ((Int32.toInt64 (xs (a + 2))) <<< ((Int32.toInt64 32) &&& 63)), .int (xs (a + 1)), .ref 47]) rfl (by rw [nI_p3] <;> rfl) rfl ?_
  refine qr_sldN (j := (a + 3)) (fun _ _ _ _ h => h) (pc := 721) d_lw_law_721 (by omega) hLn ?_
  refine qr_i2l (pc := 722) d_lw_law_722 ?_
  refine qr_ldc2 (v := 4294967295) (pc := 723) d_lw_law_723 kl_lw_75 ?_
  refine qr_land (pc := 726) d_lw_law_726 ?_
  refine qr_lor (pc := 727) d_lw_law_727 ?_
  refine qR_st (st' := [.long (lwJ (xs (a + 2)) (xs (a + 3))), .int (xs (a + 1)), .ref 47]) rfl rfl rfl ?_
  refine qr_callV (q := 47) (As := [.int (xs (a + 1)), .long (lwJ (xs (a + 2)) (xs (a + 3)))]) (pc := 728) d_lw_law_728 lk_lw_120 im_md_pay se_md_pay rfl (by decide) (by decide) (c_47 _ _) hm rfl rfl (Nat.le_of_ble_eq_true rfl) (Nat.le_of_ble_eq_true rfl) (Nat.le_of_ble_eq_true rfl) (by show kc + 1 + 0 ≤ 601024; omega) (by show ks + 6 + 0 ≤ 7293034; omega) (fun h => nomatch h) (fun v n9 f9 hE9 => ?_)
  obtain ⟨rfl, rfl, rfl⟩ := hE9
  refine qr_lstore (lv' := [(6, .long b9), (5, .int k9), (0, .ref 77), (1, .ref 0), (2, .ref 47), (3, .ref 76), (4, .int (nI a))]) (pc := 731) d_lw_law_731 (Nat.le_of_ble_eq_true rfl) rfl ?_
  refine qr_aload_n (pc := 733) d_lw_law_733 rfl rfl ?_
  refine qr_callV (q := 47) (As := []) (pc := 734) d_lw_law_734 lk_lw_83 im_md_thrown se_md_thrown rfl (by decide) (by decide) (c_47 _ _) (s_md_thrown _ false _ _) rfl rfl (Nat.le_of_ble_eq_true rfl) (Nat.le_of_ble_eq_true rfl) (Nat.le_of_ble_eq_true rfl) (by show kc + 1 + 0 + 0 ≤ 601024; omega) (by show ks + 6 + 0 + 0 ≤ 7293034; omega) (fun h => nomatch h) (fun v n9 f9 hE9 => ?_)
  obtain ⟨rfl, rfl, rfl⟩ := hE9
  refine qr_iload (pc := 737) d_lw_law_737 rfl ?_
  refine qr_icmp_eq (tgt := 744) (pc := 739) d_lw_law_739 (by decide) (fun _ => ?_) (fun h => absurd hth h)
  refine qr_iload (pc := 744) d_lw_law_744 rfl ?_
  refine qr_if_ne (tgt := 760) (pc := 746) d_lw_law_746 (by decide) (fun _ => ?_) (fun hk9 => ?_)
  · skip
    refine qr_goto (tgt := 1255) (pc := 760) d_lw_law_760 (by decide) ?_
    refine qR_sub (lv' := lwV a) [2, 3, 4, 5, 6] rfl ?_
    exact kk _ _ hpost
  · have ho := hout hk9
    refine qr_aload_n (pc := 749) d_lw_law_749 rfl rfl ?_
    refine qr_iconst (v := 0) (pc := 750) d_lw_law_750 (by decide) ?_
    refine qr_laldN (j := 0) (pc := 751) d_lw_law_751 (by decide) (by decide) (c_76 _ _) (by decide) (by decide) ?_
    refine qr_lload (pc := 752) d_lw_law_752 rfl ?_
    refine qr_lcmp (pc := 754) d_lw_law_754 ?_
    refine qr_if_eq (tgt := 760) (pc := 755) d_lw_law_755 (by decide) (fun _ => ?_) (fun h => absurd ((lgc_eq _ _).mpr ho) h)
    refine qr_goto (tgt := 1255) (pc := 760) d_lw_law_760 (by decide) ?_
    refine qR_sub (lv' := lwV a) [2, 3, 4, 5, 6] rfl ?_
    exact kk _ _ hpost
set_option maxRecDepth 10000 in
theorem lc_plan {l : Launch} {b Ln : Nat} {xs : Nat → Int32} {E : qE} {X : qXC} {a kc ks : Nat} {I : Nat → Nat → Int32} {L : Nat → Nat → Int64} (ha : a + 5 ≤ Ln) (hLn : Ln < 2 ^ 31) (hkc : kc + 1 ≤ 601024) (hks : ks + 6 ≤ 7293034) (Post : (Nat → Nat → Int32) → (Nat → Nat → Int64) → Prop) {Ew : qE} (hW : qSpW l y_lw_plan b_lw_plan 7 (some .int) hh_plan 10 1 6 [.ref 0, .int (xs (a + 1)), .long (lwJ (xs (a + 2)) (xs (a + 3))), .int (xs (a + 4)), .ref 76] 77 (fm I L) Ew) (hM : ∀ v n f, Ew v n f → ∃ (k9 : Int32) (I1 : Nat → Nat → Int32) (L1 : Nat → Nat → Int64) (b9 : Int32) (I2 : Nat → Nat → Int32) (L2 : Nat → Nat → Int64), some (.int k9) = v ∧ 77 = n ∧ fm I1 L1 = f ∧ qSp l y_md_plan b_md_plan 5 (some .int) false 2 0 0 [.ref 47, .int (xs (a + 1)), .long (lwJ (xs (a + 2)) (xs (a + 3))), .int (xs (a + 4))] 77 (fm I1 L1) (qD (some (.int b9)) 77 (fm I2 L2)) ∧ I2 47 0 = k9 ∧ (k9 = 0 → L2 76 0 = Int32.toInt64 b9) ∧ Post I2 L2) (kk : ∀ I2 L2, Post I2 L2 → qR (qKL l b Ln xs) E X 1255 (lwV a) [] 77 (kc + 1) (ks + 6) (fm I2 L2)) : qR (qKL l b Ln xs) E X 763 (lwV a) [] 77 kc ks (fm I L) := by
  refine qr_aload_n (pc := 763) d_lw_law_763 rfl rfl ?_
  refine qr_aload_n (pc := 764) d_lw_law_764 rfl rfl ?_
  refine qr_iload (pc := 765) d_lw_law_765 rfl ?_
  refine qr_iconst (v := 1) (pc := 767) d_lw_law_767 (by decide) ?_
  refine qr_iadd (pc := 768) d_lw_law_768 ?_
  refine qR_st (st' := [.int (nI (a + 1)), .ref 77, .ref 0]) rfl (by rw [nI_1] <;> rfl) rfl ?_
  refine qr_sldN (j := (a + 1)) (fun _ _ _ _ h => h) (pc := 769) d_lw_law_769 (by omega) hLn ?_
  refine qr_aload_n (pc := 770) d_lw_law_770 rfl rfl ?_
  refine qr_iload (pc := 771) d_lw_law_771 rfl ?_
  refine qr_iconst (v := 2) (pc := 773) d_lw_law_773 (by decide) ?_
  refine qr_iadd (pc := 774) d_lw_law_774 ?_
  refine qR_st (st' := [.int (nI (a + 2)), .ref 77, .int (xs (a + 1)), .ref 0]) rfl (by rw [nI_p2] <;> rfl) rfl ?_
  refine qr_sldN (j := (a + 2)) (fun _ _ _ _ h => h) (pc := 775) d_lw_law_775 (by omega) hLn ?_
  refine qr_i2l (pc := 776) d_lw_law_776 ?_
  refine qr_bipush (v := 32) (pc := 777) d_lw_law_777 (by decide) ?_
  refine qr_lshl (pc := 779) d_lw_law_779 ?_
  refine qr_aload_n (pc := 780) d_lw_law_780 rfl rfl ?_
  refine qr_iload (pc := 781) d_lw_law_781 rfl ?_
  refine qr_iconst (v := 3) (pc := 783) d_lw_law_783 (by decide) ?_
  refine qr_iadd (pc := 784) d_lw_law_784 ?_
  refine qR_st (st' := [.int (nI (a + 3)), .ref 77, .long ((Int32.toInt64 (xs (a + 2))) <<< ((Int32.toInt64 32) &&& 63)), .int (xs (a + 1)), .ref 0]) rfl (by rw [nI_p3] <;> rfl) rfl ?_
  refine qr_sldN (j := (a + 3)) (fun _ _ _ _ h => h) (pc := 785) d_lw_law_785 (by omega) hLn ?_
  refine qr_i2l (pc := 786) d_lw_law_786 ?_
  refine qr_ldc2 (v := 4294967295) (pc := 787) d_lw_law_787 kl_lw_75 ?_
  refine qr_land (pc := 790) d_lw_law_790 ?_
  refine qr_lor (pc := 791) d_lw_law_791 ?_
  refine qR_st (st' := [.long (lwJ (xs (a + 2)) (xs (a + 3))), .int (xs (a + 1)), .ref 0]) rfl rfl rfl ?_
  refine qr_aload_n (pc := 792) d_lw_law_792 rfl rfl ?_
  refine qr_iload (pc := 793) d_lw_law_793 rfl ?_
  refine qr_iconst (v := 4) (pc := 795) d_lw_law_795 (by decide) ?_
  refine qr_iadd (pc := 796) d_lw_law_796 ?_
  refine qR_st (st' := [.int (nI (a + 4)), .ref 77, .long (lwJ (xs (a + 2)) (xs (a + 3))), .int (xs (a + 1)), .ref 0]) rfl (by rw [nI_p4] <;> rfl) rfl ?_
  refine qr_sldN (j := (a + 4)) (fun _ _ _ _ h => h) (pc := 797) d_lw_law_797 (by omega) hLn ?_
  refine qr_aload_n (pc := 798) d_lw_law_798 rfl rfl ?_
  refine qr_callSW (hh := hh_plan) (na := 5) (As := [.ref 0, .int (xs (a + 1)), .long (lwJ (xs (a + 2)) (xs (a + 3))), .int (xs (a + 4)), .ref 76]) (pc := 799) d_lw_law_799 lk_lw_121 ii_lw cw_plan ⟨by decide, by decide⟩ (by decide +kernel) sm_lw_plan hW rfl rfl (Nat.le_of_ble_eq_true rfl) (Nat.le_of_ble_eq_true rfl) (Nat.le_of_ble_eq_true rfl) hkc hks (fun v n9 f9 hE => ?_)
  obtain ⟨k9, I1, L1, b9, I2, L2, rfl, rfl, rfl, hm, hth, hout, hpost⟩ := hM _ _ _ hE
  refine qr_istore (lv' := [(5, .int k9), (0, .ref 77), (1, .ref 0), (2, .ref 47), (3, .ref 76), (4, .int (nI a))]) (pc := 802) d_lw_law_802 (Nat.le_of_ble_eq_true rfl) rfl ?_
  refine qr_aload_n (pc := 804) d_lw_law_804 rfl rfl ?_
  refine qr_aload_n (pc := 805) d_lw_law_805 rfl rfl ?_
  refine qr_iload (pc := 806) d_lw_law_806 rfl ?_
  refine qr_iconst (v := 1) (pc := 808) d_lw_law_808 (by decide) ?_
  refine qr_iadd (pc := 809) d_lw_law_809 ?_
  refine qR_st (st' := [.int (nI (a + 1)), .ref 77, .ref 47]) rfl (by rw [nI_1] <;> rfl) rfl ?_
  refine qr_sldN (j := (a + 1)) (fun _ _ _ _ h => h) (pc := 810) d_lw_law_810 (by omega) hLn ?_
  refine qr_aload_n (pc := 811) d_lw_law_811 rfl rfl ?_
  refine qr_iload (pc := 812) d_lw_law_812 rfl ?_
  refine qr_iconst (v := 2) (pc := 814) d_lw_law_814 (by decide) ?_
  refine qr_iadd (pc := 815) d_lw_law_815 ?_
  refine qR_st (st' := [.int (nI (a + 2)), .ref 77, .int (xs (a + 1)), .ref 47]) rfl (by rw [nI_p2] <;> rfl) rfl ?_
  refine qr_sldN (j := (a + 2)) (fun _ _ _ _ h => h) (pc := 816) d_lw_law_816 (by omega) hLn ?_
  refine qr_i2l (pc := 817) d_lw_law_817 ?_
  refine qr_bipush (v := 32) (pc := 818) d_lw_law_818 (by decide) ?_
  refine qr_lshl (pc := 820) d_lw_law_820 ?_
  refine qr_aload_n (pc := 821) d_lw_law_821 rfl rfl ?_
  refine qr_iload (pc := 822) d_lw_law_822 rfl ?_
  refine qr_iconst (v := 3) (pc := 824) d_lw_law_824 (by decide) ?_
  refine qr_iadd (pc := 825) d_lw_law_825 ?_
  refine qR_st (st' := [.int (nI (a + 3)), .ref 77, .long ((Int32.toInt64 (xs (a + 2))) <<< ((Int32.toInt64 32) &&& 63)), .int (xs (a + 1)), .ref 47]) rfl (by rw [nI_p3] <;> rfl) rfl ?_
  refine qr_sldN (j := (a + 3)) (fun _ _ _ _ h => h) (pc := 826) d_lw_law_826 (by omega) hLn ?_
  refine qr_i2l (pc := 827) d_lw_law_827 ?_
  refine qr_ldc2 (v := 4294967295) (pc := 828) d_lw_law_828 kl_lw_75 ?_
  refine qr_land (pc := 831) d_lw_law_831 ?_
  refine qr_lor (pc := 832) d_lw_law_832 ?_
  refine qR_st (st' := [.long (lwJ (xs (a + 2)) (xs (a + 3))), .int (xs (a + 1)), .ref 47]) rfl rfl rfl ?_
  refine qr_aload_n (pc := 833) d_lw_law_833 rfl rfl ?_
  refine qr_iload (pc := 834) d_lw_law_834 rfl ?_
  refine qr_iconst (v := 4) (pc := 836) d_lw_law_836 (by decide) ?_
  refine qr_iadd (pc := 837) d_lw_law_837 ?_
  refine qR_st (st' := [.int (nI (a + 4)), .ref 77, .long (lwJ (xs (a + 2)) (xs (a + 3))), .int (xs (a + 1)), .ref 47]) rfl (by rw [nI_p4] <;> rfl) rfl ?_
  refine qr_sldN (j := (a + 4)) (fun _ _ _ _ h => h) (pc := 838) d_lw_law_838 (by omega) hLn ?_
  refine qr_callV (q := 47) (As := [.int (xs (a + 1)), .long (lwJ (xs (a + 2)) (xs (a + 3))), .int (xs (a + 4))]) (pc := 839) d_lw_law_839 lk_lw_124 im_md_plan se_md_plan rfl (by decide) (by decide) (c_47 _ _) hm rfl rfl (Nat.le_of_ble_eq_true rfl) (Nat.le_of_ble_eq_true rfl) (Nat.le_of_ble_eq_true rfl) (by show kc + 1 + 0 ≤ 601024; omega) (by show ks + 6 + 0 ≤ 7293034; omega) (fun h => nomatch h) (fun v n9 f9 hE9 => ?_)
  obtain ⟨rfl, rfl, rfl⟩ := hE9
  refine qr_istore (lv' := [(6, .int b9), (5, .int k9), (0, .ref 77), (1, .ref 0), (2, .ref 47), (3, .ref 76), (4, .int (nI a))]) (pc := 842) d_lw_law_842 (Nat.le_of_ble_eq_true rfl) rfl ?_
  refine qr_aload_n (pc := 844) d_lw_law_844 rfl rfl ?_
  refine qr_callV (q := 47) (As := []) (pc := 845) d_lw_law_845 lk_lw_83 im_md_thrown se_md_thrown rfl (by decide) (by decide) (c_47 _ _) (s_md_thrown _ false _ _) rfl rfl (Nat.le_of_ble_eq_true rfl) (Nat.le_of_ble_eq_true rfl) (Nat.le_of_ble_eq_true rfl) (by show kc + 1 + 0 + 0 ≤ 601024; omega) (by show ks + 6 + 0 + 0 ≤ 7293034; omega) (fun h => nomatch h) (fun v n9 f9 hE9 => ?_)
  obtain ⟨rfl, rfl, rfl⟩ := hE9
  refine qr_iload (pc := 848) d_lw_law_848 rfl ?_
  refine qr_icmp_eq (tgt := 855) (pc := 850) d_lw_law_850 (by decide) (fun _ => ?_) (fun h => absurd hth h)
  refine qr_iload (pc := 855) d_lw_law_855 rfl ?_
  refine qr_if_ne (tgt := 872) (pc := 857) d_lw_law_857 (by decide) (fun _ => ?_) (fun hk9 => ?_)
  · skip
    refine qr_goto (tgt := 1255) (pc := 872) d_lw_law_872 (by decide) ?_
    refine qR_sub (lv' := lwV a) [2, 3, 4, 5, 6] rfl ?_
    exact kk _ _ hpost
  · have ho := hout hk9
    refine qr_aload_n (pc := 860) d_lw_law_860 rfl rfl ?_
    refine qr_iconst (v := 0) (pc := 861) d_lw_law_861 (by decide) ?_
    refine qr_laldN (j := 0) (pc := 862) d_lw_law_862 (by decide) (by decide) (c_76 _ _) (by decide) (by decide) ?_
    refine qr_iload (pc := 863) d_lw_law_863 rfl ?_
    refine qr_i2l (pc := 865) d_lw_law_865 ?_
    refine qr_lcmp (pc := 866) d_lw_law_866 ?_
    refine qr_if_eq (tgt := 872) (pc := 867) d_lw_law_867 (by decide) (fun _ => ?_) (fun h => absurd ((lgc_eq _ _).mpr ho) h)
    refine qr_goto (tgt := 1255) (pc := 872) d_lw_law_872 (by decide) ?_
    refine qR_sub (lv' := lwV a) [2, 3, 4, 5, 6] rfl ?_
    exact kk _ _ hpost
set_option maxRecDepth 10000 in
theorem lc_charge {l : Launch} {b Ln : Nat} {xs : Nat → Int32} {E : qE} {X : qXC} {a kc ks : Nat} {I : Nat → Nat → Int32} {L : Nat → Nat → Int64} (ha : a + 5 ≤ Ln) (hLn : Ln < 2 ^ 31) (hkc : kc + 1 ≤ 601024) (hks : ks + 6 ≤ 7293034) (Post : (Nat → Nat → Int32) → (Nat → Nat → Int64) → Prop) {Ew : qE} (hW : qSpW l y_lw_charge b_lw_charge 5 (some .int) hh_charge 10 1 6 [.ref 0, .int (xs (a + 1)), .int (xs (a + 2)), .ref 76] 77 (fm I L) Ew) (hM : ∀ v n f, Ew v n f → ∃ (k9 : Int32) (I1 : Nat → Nat → Int32) (L1 : Nat → Nat → Int64) (b9 : Int64) (I2 : Nat → Nat → Int32) (L2 : Nat → Nat → Int64), some (.int k9) = v ∧ 77 = n ∧ fm I1 L1 = f ∧ qSp l y_md_charge b_md_charge 3 (some .long) false 5 0 0 [.ref 47, .int (xs (a + 1)), .int (xs (a + 2))] 77 (fm I1 L1) (qD (some (.long b9)) 77 (fm I2 L2)) ∧ I2 47 0 = k9 ∧ (k9 = 0 → L2 76 0 = b9) ∧ Post I2 L2) (kk : ∀ I2 L2, Post I2 L2 → qR (qKL l b Ln xs) E X 1255 (lwV a) [] 77 (kc + 1) (ks + 6) (fm I2 L2)) : qR (qKL l b Ln xs) E X 875 (lwV a) [] 77 kc ks (fm I L) := by
  refine qr_aload_n (pc := 875) d_lw_law_875 rfl rfl ?_
  refine qr_aload_n (pc := 876) d_lw_law_876 rfl rfl ?_
  refine qr_iload (pc := 877) d_lw_law_877 rfl ?_
  refine qr_iconst (v := 1) (pc := 879) d_lw_law_879 (by decide) ?_
  refine qr_iadd (pc := 880) d_lw_law_880 ?_
  refine qR_st (st' := [.int (nI (a + 1)), .ref 77, .ref 0]) rfl (by rw [nI_1] <;> rfl) rfl ?_
  refine qr_sldN (j := (a + 1)) (fun _ _ _ _ h => h) (pc := 881) d_lw_law_881 (by omega) hLn ?_
  refine qr_aload_n (pc := 882) d_lw_law_882 rfl rfl ?_
  refine qr_iload (pc := 883) d_lw_law_883 rfl ?_
  refine qr_iconst (v := 2) (pc := 885) d_lw_law_885 (by decide) ?_
  refine qr_iadd (pc := 886) d_lw_law_886 ?_
  refine qR_st (st' := [.int (nI (a + 2)), .ref 77, .int (xs (a + 1)), .ref 0]) rfl (by rw [nI_p2] <;> rfl) rfl ?_
  refine qr_sldN (j := (a + 2)) (fun _ _ _ _ h => h) (pc := 887) d_lw_law_887 (by omega) hLn ?_
  refine qr_aload_n (pc := 888) d_lw_law_888 rfl rfl ?_
  refine qr_callSW (hh := hh_charge) (na := 4) (As := [.ref 0, .int (xs (a + 1)), .int (xs (a + 2)), .ref 76]) (pc := 889) d_lw_law_889 lk_lw_125 ii_lw cw_charge ⟨by decide, by decide⟩ (by decide +kernel) sm_lw_charge hW rfl rfl (Nat.le_of_ble_eq_true rfl) (Nat.le_of_ble_eq_true rfl) (Nat.le_of_ble_eq_true rfl) hkc hks (fun v n9 f9 hE => ?_)
  obtain ⟨k9, I1, L1, b9, I2, L2, rfl, rfl, rfl, hm, hth, hout, hpost⟩ := hM _ _ _ hE
  refine qr_istore (lv' := [(5, .int k9), (0, .ref 77), (1, .ref 0), (2, .ref 47), (3, .ref 76), (4, .int (nI a))]) (pc := 892) d_lw_law_892 (Nat.le_of_ble_eq_true rfl) rfl ?_
  refine qr_aload_n (pc := 894) d_lw_law_894 rfl rfl ?_
  refine qr_aload_n (pc := 895) d_lw_law_895 rfl rfl ?_
  refine qr_iload (pc := 896) d_lw_law_896 rfl ?_
  refine qr_iconst (v := 1) (pc := 898) d_lw_law_898 (by decide) ?_
  refine qr_iadd (pc := 899) d_lw_law_899 ?_
  refine qR_st (st' := [.int (nI (a + 1)), .ref 77, .ref 47]) rfl (by rw [nI_1] <;> rfl) rfl ?_
  refine qr_sldN (j := (a + 1)) (fun _ _ _ _ h => h) (pc := 900) d_lw_law_900 (by omega) hLn ?_
  refine qr_aload_n (pc := 901) d_lw_law_901 rfl rfl ?_
  refine qr_iload (pc := 902) d_lw_law_902 rfl ?_
  refine qr_iconst (v := 2) (pc := 904) d_lw_law_904 (by decide) ?_
  refine qr_iadd (pc := 905) d_lw_law_905 ?_
  refine qR_st (st' := [.int (nI (a + 2)), .ref 77, .int (xs (a + 1)), .ref 47]) rfl (by rw [nI_p2] <;> rfl) rfl ?_
  refine qr_sldN (j := (a + 2)) (fun _ _ _ _ h => h) (pc := 906) d_lw_law_906 (by omega) hLn ?_
  refine qr_callV (q := 47) (As := [.int (xs (a + 1)), .int (xs (a + 2))]) (pc := 907) d_lw_law_907 lk_lw_127 im_md_charge se_md_charge rfl (by decide) (by decide) (c_47 _ _) hm rfl rfl (Nat.le_of_ble_eq_true rfl) (Nat.le_of_ble_eq_true rfl) (Nat.le_of_ble_eq_true rfl) (by show kc + 1 + 0 ≤ 601024; omega) (by show ks + 6 + 0 ≤ 7293034; omega) (fun h => nomatch h) (fun v n9 f9 hE9 => ?_)
  obtain ⟨rfl, rfl, rfl⟩ := hE9
  refine qr_lstore (lv' := [(6, .long b9), (5, .int k9), (0, .ref 77), (1, .ref 0), (2, .ref 47), (3, .ref 76), (4, .int (nI a))]) (pc := 910) d_lw_law_910 (Nat.le_of_ble_eq_true rfl) rfl ?_
  refine qr_aload_n (pc := 912) d_lw_law_912 rfl rfl ?_
  refine qr_callV (q := 47) (As := []) (pc := 913) d_lw_law_913 lk_lw_83 im_md_thrown se_md_thrown rfl (by decide) (by decide) (c_47 _ _) (s_md_thrown _ false _ _) rfl rfl (Nat.le_of_ble_eq_true rfl) (Nat.le_of_ble_eq_true rfl) (Nat.le_of_ble_eq_true rfl) (by show kc + 1 + 0 + 0 ≤ 601024; omega) (by show ks + 6 + 0 + 0 ≤ 7293034; omega) (fun h => nomatch h) (fun v n9 f9 hE9 => ?_)
  obtain ⟨rfl, rfl, rfl⟩ := hE9
  refine qr_iload (pc := 916) d_lw_law_916 rfl ?_
  refine qr_icmp_eq (tgt := 923) (pc := 918) d_lw_law_918 (by decide) (fun _ => ?_) (fun h => absurd hth h)
  refine qr_iload (pc := 923) d_lw_law_923 rfl ?_
  refine qr_if_ne (tgt := 939) (pc := 925) d_lw_law_925 (by decide) (fun _ => ?_) (fun hk9 => ?_)
  · skip
    refine qr_goto (tgt := 1255) (pc := 939) d_lw_law_939 (by decide) ?_
    refine qR_sub (lv' := lwV a) [2, 3, 4, 5, 6] rfl ?_
    exact kk _ _ hpost
  · have ho := hout hk9
    refine qr_aload_n (pc := 928) d_lw_law_928 rfl rfl ?_
    refine qr_iconst (v := 0) (pc := 929) d_lw_law_929 (by decide) ?_
    refine qr_laldN (j := 0) (pc := 930) d_lw_law_930 (by decide) (by decide) (c_76 _ _) (by decide) (by decide) ?_
    refine qr_lload (pc := 931) d_lw_law_931 rfl ?_
    refine qr_lcmp (pc := 933) d_lw_law_933 ?_
    refine qr_if_eq (tgt := 939) (pc := 934) d_lw_law_934 (by decide) (fun _ => ?_) (fun h => absurd ((lgc_eq _ _).mpr ho) h)
    refine qr_goto (tgt := 1255) (pc := 939) d_lw_law_939 (by decide) ?_
    refine qR_sub (lv' := lwV a) [2, 3, 4, 5, 6] rfl ?_
    exact kk _ _ hpost
set_option maxRecDepth 10000 in
theorem lc_invoice {l : Launch} {b Ln : Nat} {xs : Nat → Int32} {E : qE} {X : qXC} {a kc ks : Nat} {I : Nat → Nat → Int32} {L : Nat → Nat → Int64} (ha : a + 5 ≤ Ln) (hLn : Ln < 2 ^ 31) (hkc : kc + 1 ≤ 601024) (hks : ks + 6 ≤ 7293034) (Post : (Nat → Nat → Int32) → (Nat → Nat → Int64) → Prop) {Ew : qE} (hW : qSpW l y_lw_invoice b_lw_invoice 5 (some .int) hh_invoice 10 1 6 [.ref 0, .int (xs (a + 1)), .int (xs (a + 2)), .ref 76] 77 (fm I L) Ew) (hM : ∀ v n f, Ew v n f → ∃ (k9 : Int32) (I1 : Nat → Nat → Int32) (L1 : Nat → Nat → Int64) (b9 : Int64) (I2 : Nat → Nat → Int32) (L2 : Nat → Nat → Int64), some (.int k9) = v ∧ 77 = n ∧ fm I1 L1 = f ∧ qSp l y_md_invoice b_md_invoice 3 (some .long) false 2 0 0 [.ref 47, .int (xs (a + 1)), .int (xs (a + 2))] 77 (fm I1 L1) (qD (some (.long b9)) 77 (fm I2 L2)) ∧ I2 47 0 = k9 ∧ (k9 = 0 → L2 76 0 = b9) ∧ Post I2 L2) (kk : ∀ I2 L2, Post I2 L2 → qR (qKL l b Ln xs) E X 1255 (lwV a) [] 77 (kc + 1) (ks + 6) (fm I2 L2)) : qR (qKL l b Ln xs) E X 942 (lwV a) [] 77 kc ks (fm I L) := by
  refine qr_aload_n (pc := 942) d_lw_law_942 rfl rfl ?_
  refine qr_aload_n (pc := 943) d_lw_law_943 rfl rfl ?_
  refine qr_iload (pc := 944) d_lw_law_944 rfl ?_
  refine qr_iconst (v := 1) (pc := 946) d_lw_law_946 (by decide) ?_
  refine qr_iadd (pc := 947) d_lw_law_947 ?_
  refine qR_st (st' := [.int (nI (a + 1)), .ref 77, .ref 0]) rfl (by rw [nI_1] <;> rfl) rfl ?_
  refine qr_sldN (j := (a + 1)) (fun _ _ _ _ h => h) (pc := 948) d_lw_law_948 (by omega) hLn ?_
  refine qr_aload_n (pc := 949) d_lw_law_949 rfl rfl ?_
  refine qr_iload (pc := 950) d_lw_law_950 rfl ?_
  refine qr_iconst (v := 2) (pc := 952) d_lw_law_952 (by decide) ?_
  refine qr_iadd (pc := 953) d_lw_law_953 ?_
  refine qR_st (st' := [.int (nI (a + 2)), .ref 77, .int (xs (a + 1)), .ref 0]) rfl (by rw [nI_p2] <;> rfl) rfl ?_
  refine qr_sldN (j := (a + 2)) (fun _ _ _ _ h => h) (pc := 954) d_lw_law_954 (by omega) hLn ?_
  refine qr_aload_n (pc := 955) d_lw_law_955 rfl rfl ?_
  refine qr_callSW (hh := hh_invoice) (na := 4) (As := [.ref 0, .int (xs (a + 1)), .int (xs (a + 2)), .ref 76]) (pc := 956) d_lw_law_956 lk_lw_128 ii_lw cw_invoice ⟨by decide, by decide⟩ (by decide +kernel) sm_lw_invoice hW rfl rfl (Nat.le_of_ble_eq_true rfl) (Nat.le_of_ble_eq_true rfl) (Nat.le_of_ble_eq_true rfl) hkc hks (fun v n9 f9 hE => ?_)
  obtain ⟨k9, I1, L1, b9, I2, L2, rfl, rfl, rfl, hm, hth, hout, hpost⟩ := hM _ _ _ hE
  refine qr_istore (lv' := [(5, .int k9), (0, .ref 77), (1, .ref 0), (2, .ref 47), (3, .ref 76), (4, .int (nI a))]) (pc := 959) d_lw_law_959 (Nat.le_of_ble_eq_true rfl) rfl ?_
  refine qr_aload_n (pc := 961) d_lw_law_961 rfl rfl ?_
  refine qr_aload_n (pc := 962) d_lw_law_962 rfl rfl ?_
  refine qr_iload (pc := 963) d_lw_law_963 rfl ?_
  refine qr_iconst (v := 1) (pc := 965) d_lw_law_965 (by decide) ?_
  refine qr_iadd (pc := 966) d_lw_law_966 ?_
  refine qR_st (st' := [.int (nI (a + 1)), .ref 77, .ref 47]) rfl (by rw [nI_1] <;> rfl) rfl ?_
  refine qr_sldN (j := (a + 1)) (fun _ _ _ _ h => h) (pc := 967) d_lw_law_967 (by omega) hLn ?_
  refine qr_aload_n (pc := 968) d_lw_law_968 rfl rfl ?_
  refine qr_iload (pc := 969) d_lw_law_969 rfl ?_
  refine qr_iconst (v := 2) (pc := 971) d_lw_law_971 (by decide) ?_
  refine qr_iadd (pc := 972) d_lw_law_972 ?_
  refine qR_st (st' := [.int (nI (a + 2)), .ref 77, .int (xs (a + 1)), .ref 47]) rfl (by rw [nI_p2] <;> rfl) rfl ?_
  refine qr_sldN (j := (a + 2)) (fun _ _ _ _ h => h) (pc := 973) d_lw_law_973 (by omega) hLn ?_
  refine qr_callV (q := 47) (As := [.int (xs (a + 1)), .int (xs (a + 2))]) (pc := 974) d_lw_law_974 lk_lw_130 im_md_invoice se_md_invoice rfl (by decide) (by decide) (c_47 _ _) hm rfl rfl (Nat.le_of_ble_eq_true rfl) (Nat.le_of_ble_eq_true rfl) (Nat.le_of_ble_eq_true rfl) (by show kc + 1 + 0 ≤ 601024; omega) (by show ks + 6 + 0 ≤ 7293034; omega) (fun h => nomatch h) (fun v n9 f9 hE9 => ?_)
  obtain ⟨rfl, rfl, rfl⟩ := hE9
  refine qr_lstore (lv' := [(6, .long b9), (5, .int k9), (0, .ref 77), (1, .ref 0), (2, .ref 47), (3, .ref 76), (4, .int (nI a))]) (pc := 977) d_lw_law_977 (Nat.le_of_ble_eq_true rfl) rfl ?_
  refine qr_aload_n (pc := 979) d_lw_law_979 rfl rfl ?_
  refine qr_callV (q := 47) (As := []) (pc := 980) d_lw_law_980 lk_lw_83 im_md_thrown se_md_thrown rfl (by decide) (by decide) (c_47 _ _) (s_md_thrown _ false _ _) rfl rfl (Nat.le_of_ble_eq_true rfl) (Nat.le_of_ble_eq_true rfl) (Nat.le_of_ble_eq_true rfl) (by show kc + 1 + 0 + 0 ≤ 601024; omega) (by show ks + 6 + 0 + 0 ≤ 7293034; omega) (fun h => nomatch h) (fun v n9 f9 hE9 => ?_)
  obtain ⟨rfl, rfl, rfl⟩ := hE9
  refine qr_iload (pc := 983) d_lw_law_983 rfl ?_
  refine qr_icmp_eq (tgt := 990) (pc := 985) d_lw_law_985 (by decide) (fun _ => ?_) (fun h => absurd hth h)
  refine qr_iload (pc := 990) d_lw_law_990 rfl ?_
  refine qr_if_ne (tgt := 1006) (pc := 992) d_lw_law_992 (by decide) (fun _ => ?_) (fun hk9 => ?_)
  · skip
    refine qr_goto (tgt := 1255) (pc := 1006) d_lw_law_1006 (by decide) ?_
    refine qR_sub (lv' := lwV a) [2, 3, 4, 5, 6] rfl ?_
    exact kk _ _ hpost
  · have ho := hout hk9
    refine qr_aload_n (pc := 995) d_lw_law_995 rfl rfl ?_
    refine qr_iconst (v := 0) (pc := 996) d_lw_law_996 (by decide) ?_
    refine qr_laldN (j := 0) (pc := 997) d_lw_law_997 (by decide) (by decide) (c_76 _ _) (by decide) (by decide) ?_
    refine qr_lload (pc := 998) d_lw_law_998 rfl ?_
    refine qr_lcmp (pc := 1000) d_lw_law_1000 ?_
    refine qr_if_eq (tgt := 1006) (pc := 1001) d_lw_law_1001 (by decide) (fun _ => ?_) (fun h => absurd ((lgc_eq _ _).mpr ho) h)
    refine qr_goto (tgt := 1255) (pc := 1006) d_lw_law_1006 (by decide) ?_
    refine qR_sub (lv' := lwV a) [2, 3, 4, 5, 6] rfl ?_
    exact kk _ _ hpost
set_option maxRecDepth 10000 in
theorem lc_told {l : Launch} {b Ln : Nat} {xs : Nat → Int32} {E : qE} {X : qXC} {a kc ks : Nat} {I : Nat → Nat → Int32} {L : Nat → Nat → Int64} (ha : a + 5 ≤ Ln) (hLn : Ln < 2 ^ 31) (hkc : kc + 1 ≤ 601024) (hks : ks + 6 ≤ 7293034) (Post : (Nat → Nat → Int32) → (Nat → Nat → Int64) → Prop) {Ew : qE} (hW : qSpW l y_lw_told b_lw_told 5 (some .int) hh_told 10 1 6 [.ref 0, .int (xs (a + 1)), .int (xs (a + 2)), .ref 76] 77 (fm I L) Ew) (hM : ∀ v n f, Ew v n f → ∃ (k9 : Int32) (I1 : Nat → Nat → Int32) (L1 : Nat → Nat → Int64) (b9 : Int64) (I2 : Nat → Nat → Int32) (L2 : Nat → Nat → Int64), some (.int k9) = v ∧ 77 = n ∧ fm I1 L1 = f ∧ qSp l y_md_told b_md_told 6 (some .long) false 2 0 0 [.ref 47, .int (xs (a + 1)), .int (xs (a + 2))] 77 (fm I1 L1) (qD (some (.long b9)) 77 (fm I2 L2)) ∧ I2 47 0 = k9 ∧ (k9 = 0 → L2 76 0 = b9) ∧ Post I2 L2) (kk : ∀ I2 L2, Post I2 L2 → qR (qKL l b Ln xs) E X 1255 (lwV a) [] 77 (kc + 1) (ks + 6) (fm I2 L2)) : qR (qKL l b Ln xs) E X 1009 (lwV a) [] 77 kc ks (fm I L) := by
  refine qr_aload_n (pc := 1009) d_lw_law_1009 rfl rfl ?_
  refine qr_aload_n (pc := 1010) d_lw_law_1010 rfl rfl ?_
  refine qr_iload (pc := 1011) d_lw_law_1011 rfl ?_
  refine qr_iconst (v := 1) (pc := 1013) d_lw_law_1013 (by decide) ?_
  refine qr_iadd (pc := 1014) d_lw_law_1014 ?_
  refine qR_st (st' := [.int (nI (a + 1)), .ref 77, .ref 0]) rfl (by rw [nI_1] <;> rfl) rfl ?_
  refine qr_sldN (j := (a + 1)) (fun _ _ _ _ h => h) (pc := 1015) d_lw_law_1015 (by omega) hLn ?_
  refine qr_aload_n (pc := 1016) d_lw_law_1016 rfl rfl ?_
  refine qr_iload (pc := 1017) d_lw_law_1017 rfl ?_
  refine qr_iconst (v := 2) (pc := 1019) d_lw_law_1019 (by decide) ?_
  refine qr_iadd (pc := 1020) d_lw_law_1020 ?_
  refine qR_st (st' := [.int (nI (a + 2)), .ref 77, .int (xs (a + 1)), .ref 0]) rfl (by rw [nI_p2] <;> rfl) rfl ?_
  refine qr_sldN (j := (a + 2)) (fun _ _ _ _ h => h) (pc := 1021) d_lw_law_1021 (by omega) hLn ?_
  refine qr_aload_n (pc := 1022) d_lw_law_1022 rfl rfl ?_
  refine qr_callSW (hh := hh_told) (na := 4) (As := [.ref 0, .int (xs (a + 1)), .int (xs (a + 2)), .ref 76]) (pc := 1023) d_lw_law_1023 lk_lw_131 ii_lw cw_told ⟨by decide, by decide⟩ (by decide +kernel) sm_lw_told hW rfl rfl (Nat.le_of_ble_eq_true rfl) (Nat.le_of_ble_eq_true rfl) (Nat.le_of_ble_eq_true rfl) hkc hks (fun v n9 f9 hE => ?_)
  obtain ⟨k9, I1, L1, b9, I2, L2, rfl, rfl, rfl, hm, hth, hout, hpost⟩ := hM _ _ _ hE
  refine qr_istore (lv' := [(5, .int k9), (0, .ref 77), (1, .ref 0), (2, .ref 47), (3, .ref 76), (4, .int (nI a))]) (pc := 1026) d_lw_law_1026 (Nat.le_of_ble_eq_true rfl) rfl ?_
  refine qr_aload_n (pc := 1028) d_lw_law_1028 rfl rfl ?_
  refine qr_aload_n (pc := 1029) d_lw_law_1029 rfl rfl ?_
  refine qr_iload (pc := 1030) d_lw_law_1030 rfl ?_
  refine qr_iconst (v := 1) (pc := 1032) d_lw_law_1032 (by decide) ?_
  refine qr_iadd (pc := 1033) d_lw_law_1033 ?_
  refine qR_st (st' := [.int (nI (a + 1)), .ref 77, .ref 47]) rfl (by rw [nI_1] <;> rfl) rfl ?_
  refine qr_sldN (j := (a + 1)) (fun _ _ _ _ h => h) (pc := 1034) d_lw_law_1034 (by omega) hLn ?_
  refine qr_aload_n (pc := 1035) d_lw_law_1035 rfl rfl ?_
  refine qr_iload (pc := 1036) d_lw_law_1036 rfl ?_
  refine qr_iconst (v := 2) (pc := 1038) d_lw_law_1038 (by decide) ?_
  refine qr_iadd (pc := 1039) d_lw_law_1039 ?_
  refine qR_st (st' := [.int (nI (a + 2)), .ref 77, .int (xs (a + 1)), .ref 47]) rfl (by rw [nI_p2] <;> rfl) rfl ?_
  refine qr_sldN (j := (a + 2)) (fun _ _ _ _ h => h) (pc := 1040) d_lw_law_1040 (by omega) hLn ?_
  refine qr_callV (q := 47) (As := [.int (xs (a + 1)), .int (xs (a + 2))]) (pc := 1041) d_lw_law_1041 lk_lw_133 im_md_told se_md_told rfl (by decide) (by decide) (c_47 _ _) hm rfl rfl (Nat.le_of_ble_eq_true rfl) (Nat.le_of_ble_eq_true rfl) (Nat.le_of_ble_eq_true rfl) (by show kc + 1 + 0 ≤ 601024; omega) (by show ks + 6 + 0 ≤ 7293034; omega) (fun h => nomatch h) (fun v n9 f9 hE9 => ?_)
  obtain ⟨rfl, rfl, rfl⟩ := hE9
  refine qr_lstore (lv' := [(6, .long b9), (5, .int k9), (0, .ref 77), (1, .ref 0), (2, .ref 47), (3, .ref 76), (4, .int (nI a))]) (pc := 1044) d_lw_law_1044 (Nat.le_of_ble_eq_true rfl) rfl ?_
  refine qr_aload_n (pc := 1046) d_lw_law_1046 rfl rfl ?_
  refine qr_callV (q := 47) (As := []) (pc := 1047) d_lw_law_1047 lk_lw_83 im_md_thrown se_md_thrown rfl (by decide) (by decide) (c_47 _ _) (s_md_thrown _ false _ _) rfl rfl (Nat.le_of_ble_eq_true rfl) (Nat.le_of_ble_eq_true rfl) (Nat.le_of_ble_eq_true rfl) (by show kc + 1 + 0 + 0 ≤ 601024; omega) (by show ks + 6 + 0 + 0 ≤ 7293034; omega) (fun h => nomatch h) (fun v n9 f9 hE9 => ?_)
  obtain ⟨rfl, rfl, rfl⟩ := hE9
  refine qr_iload (pc := 1050) d_lw_law_1050 rfl ?_
  refine qr_icmp_eq (tgt := 1057) (pc := 1052) d_lw_law_1052 (by decide) (fun _ => ?_) (fun h => absurd hth h)
  refine qr_iload (pc := 1057) d_lw_law_1057 rfl ?_
  refine qr_if_ne (tgt := 1073) (pc := 1059) d_lw_law_1059 (by decide) (fun _ => ?_) (fun hk9 => ?_)
  · skip
    refine qr_goto (tgt := 1255) (pc := 1073) d_lw_law_1073 (by decide) ?_
    refine qR_sub (lv' := lwV a) [2, 3, 4, 5, 6] rfl ?_
    exact kk _ _ hpost
  · have ho := hout hk9
    refine qr_aload_n (pc := 1062) d_lw_law_1062 rfl rfl ?_
    refine qr_iconst (v := 0) (pc := 1063) d_lw_law_1063 (by decide) ?_
    refine qr_laldN (j := 0) (pc := 1064) d_lw_law_1064 (by decide) (by decide) (c_76 _ _) (by decide) (by decide) ?_
    refine qr_lload (pc := 1065) d_lw_law_1065 rfl ?_
    refine qr_lcmp (pc := 1067) d_lw_law_1067 ?_
    refine qr_if_eq (tgt := 1073) (pc := 1068) d_lw_law_1068 (by decide) (fun _ => ?_) (fun h => absurd ((lgc_eq _ _).mpr ho) h)
    refine qr_goto (tgt := 1255) (pc := 1073) d_lw_law_1073 (by decide) ?_
    refine qR_sub (lv' := lwV a) [2, 3, 4, 5, 6] rfl ?_
    exact kk _ _ hpost
set_option maxRecDepth 10000 in
theorem lc_books {l : Launch} {b Ln : Nat} {xs : Nat → Int32} {E : qE} {X : qXC} {a kc ks : Nat} {I : Nat → Nat → Int32} {L : Nat → Nat → Int64} (ha : a + 5 ≤ Ln) (hLn : Ln < 2 ^ 31) (hkc : kc + 1 ≤ 601024) (hks : ks + 6 ≤ 7293034) (Post : (Nat → Nat → Int32) → (Nat → Nat → Int64) → Prop) {Ew : qE} (hW : qSpW l y_lw_books b_lw_books 4 (some .int) hh_books 10 1 6 [.ref 0, .int (xs (a + 1)), .ref 76] 77 (fm I L) Ew) (hM : ∀ v n f, Ew v n f → ∃ (k9 : Int32) (I1 : Nat → Nat → Int32) (L1 : Nat → Nat → Int64) (b9 : Int64) (I2 : Nat → Nat → Int32) (L2 : Nat → Nat → Int64), some (.int k9) = v ∧ 77 = n ∧ fm I1 L1 = f ∧ qSp l y_md_books b_md_books 5 (some .long) false 2 0 0 [.ref 47, .int (xs (a + 1))] 77 (fm I1 L1) (qD (some (.long b9)) 77 (fm I2 L2)) ∧ I2 47 0 = k9 ∧ (k9 = 0 → L2 76 0 = b9) ∧ Post I2 L2) (kk : ∀ I2 L2, Post I2 L2 → qR (qKL l b Ln xs) E X 1255 (lwV a) [] 77 (kc + 1) (ks + 6) (fm I2 L2)) : qR (qKL l b Ln xs) E X 1076 (lwV a) [] 77 kc ks (fm I L) := by
  refine qr_aload_n (pc := 1076) d_lw_law_1076 rfl rfl ?_
  refine qr_aload_n (pc := 1077) d_lw_law_1077 rfl rfl ?_
  refine qr_iload (pc := 1078) d_lw_law_1078 rfl ?_
  refine qr_iconst (v := 1) (pc := 1080) d_lw_law_1080 (by decide) ?_
  refine qr_iadd (pc := 1081) d_lw_law_1081 ?_
  refine qR_st (st' := [.int (nI (a + 1)), .ref 77, .ref 0]) rfl (by rw [nI_1] <;> rfl) rfl ?_
  refine qr_sldN (j := (a + 1)) (fun _ _ _ _ h => h) (pc := 1082) d_lw_law_1082 (by omega) hLn ?_
  refine qr_aload_n (pc := 1083) d_lw_law_1083 rfl rfl ?_
  refine qr_callSW (hh := hh_books) (na := 3) (As := [.ref 0, .int (xs (a + 1)), .ref 76]) (pc := 1084) d_lw_law_1084 lk_lw_134 ii_lw cw_books ⟨by decide, by decide⟩ (by decide +kernel) sm_lw_books hW rfl rfl (Nat.le_of_ble_eq_true rfl) (Nat.le_of_ble_eq_true rfl) (Nat.le_of_ble_eq_true rfl) hkc hks (fun v n9 f9 hE => ?_)
  obtain ⟨k9, I1, L1, b9, I2, L2, rfl, rfl, rfl, hm, hth, hout, hpost⟩ := hM _ _ _ hE
  refine qr_istore (lv' := [(5, .int k9), (0, .ref 77), (1, .ref 0), (2, .ref 47), (3, .ref 76), (4, .int (nI a))]) (pc := 1087) d_lw_law_1087 (Nat.le_of_ble_eq_true rfl) rfl ?_
  refine qr_aload_n (pc := 1089) d_lw_law_1089 rfl rfl ?_
  refine qr_aload_n (pc := 1090) d_lw_law_1090 rfl rfl ?_
  refine qr_iload (pc := 1091) d_lw_law_1091 rfl ?_
  refine qr_iconst (v := 1) (pc := 1093) d_lw_law_1093 (by decide) ?_
  refine qr_iadd (pc := 1094) d_lw_law_1094 ?_
  refine qR_st (st' := [.int (nI (a + 1)), .ref 77, .ref 47]) rfl (by rw [nI_1] <;> rfl) rfl ?_
  refine qr_sldN (j := (a + 1)) (fun _ _ _ _ h => h) (pc := 1095) d_lw_law_1095 (by omega) hLn ?_
  refine qr_callV (q := 47) (As := [.int (xs (a + 1))]) (pc := 1096) d_lw_law_1096 lk_lw_136 im_md_books se_md_books rfl (by decide) (by decide) (c_47 _ _) hm rfl rfl (Nat.le_of_ble_eq_true rfl) (Nat.le_of_ble_eq_true rfl) (Nat.le_of_ble_eq_true rfl) (by show kc + 1 + 0 ≤ 601024; omega) (by show ks + 6 + 0 ≤ 7293034; omega) (fun h => nomatch h) (fun v n9 f9 hE9 => ?_)
  obtain ⟨rfl, rfl, rfl⟩ := hE9
  refine qr_lstore (lv' := [(6, .long b9), (5, .int k9), (0, .ref 77), (1, .ref 0), (2, .ref 47), (3, .ref 76), (4, .int (nI a))]) (pc := 1099) d_lw_law_1099 (Nat.le_of_ble_eq_true rfl) rfl ?_
  refine qr_aload_n (pc := 1101) d_lw_law_1101 rfl rfl ?_
  refine qr_callV (q := 47) (As := []) (pc := 1102) d_lw_law_1102 lk_lw_83 im_md_thrown se_md_thrown rfl (by decide) (by decide) (c_47 _ _) (s_md_thrown _ false _ _) rfl rfl (Nat.le_of_ble_eq_true rfl) (Nat.le_of_ble_eq_true rfl) (Nat.le_of_ble_eq_true rfl) (by show kc + 1 + 0 + 0 ≤ 601024; omega) (by show ks + 6 + 0 + 0 ≤ 7293034; omega) (fun h => nomatch h) (fun v n9 f9 hE9 => ?_)
  obtain ⟨rfl, rfl, rfl⟩ := hE9
  refine qr_iload (pc := 1105) d_lw_law_1105 rfl ?_
  refine qr_icmp_eq (tgt := 1112) (pc := 1107) d_lw_law_1107 (by decide) (fun _ => ?_) (fun h => absurd hth h)
  refine qr_iload (pc := 1112) d_lw_law_1112 rfl ?_
  refine qr_if_ne (tgt := 1128) (pc := 1114) d_lw_law_1114 (by decide) (fun _ => ?_) (fun hk9 => ?_)
  · skip
    refine qr_goto (tgt := 1255) (pc := 1128) d_lw_law_1128 (by decide) ?_
    refine qR_sub (lv' := lwV a) [2, 3, 4, 5, 6] rfl ?_
    exact kk _ _ hpost
  · have ho := hout hk9
    refine qr_aload_n (pc := 1117) d_lw_law_1117 rfl rfl ?_
    refine qr_iconst (v := 0) (pc := 1118) d_lw_law_1118 (by decide) ?_
    refine qr_laldN (j := 0) (pc := 1119) d_lw_law_1119 (by decide) (by decide) (c_76 _ _) (by decide) (by decide) ?_
    refine qr_lload (pc := 1120) d_lw_law_1120 rfl ?_
    refine qr_lcmp (pc := 1122) d_lw_law_1122 ?_
    refine qr_if_eq (tgt := 1128) (pc := 1123) d_lw_law_1123 (by decide) (fun _ => ?_) (fun h => absurd ((lgc_eq _ _).mpr ho) h)
    refine qr_goto (tgt := 1255) (pc := 1128) d_lw_law_1128 (by decide) ?_
    refine qR_sub (lv' := lwV a) [2, 3, 4, 5, 6] rfl ?_
    exact kk _ _ hpost
set_option maxRecDepth 10000 in
theorem lc_date {l : Launch} {b Ln : Nat} {xs : Nat → Int32} {E : qE} {X : qXC} {a kc ks : Nat} {I : Nat → Nat → Int32} {L : Nat → Nat → Int64} (ha : a + 5 ≤ Ln) (hLn : Ln < 2 ^ 31) (hkc : kc + 1 ≤ 601024) (hks : ks + 6 ≤ 7293034) (Post : (Nat → Nat → Int32) → (Nat → Nat → Int64) → Prop) {Ew : qE} (hW : qSpW l y_lw_date b_lw_date 5 (some .int) hh_date 10 1 6 [.ref 0, .int (xs (a + 1)), .int (xs (a + 2)), .ref 76] 77 (fm I L) Ew) (hM : ∀ v n f, Ew v n f → ∃ (k9 : Int32) (I1 : Nat → Nat → Int32) (L1 : Nat → Nat → Int64) (b9 : Int32) (I2 : Nat → Nat → Int32) (L2 : Nat → Nat → Int64), some (.int k9) = v ∧ 77 = n ∧ fm I1 L1 = f ∧ qSp l y_md_date b_md_date 5 (some .int) false 3 0 0 [.ref 47, .int (xs (a + 1)), .int (xs (a + 2))] 77 (fm I1 L1) (qD (some (.int b9)) 77 (fm I2 L2)) ∧ I2 47 0 = k9 ∧ (k9 = 0 → L2 76 0 = Int32.toInt64 b9) ∧ Post I2 L2) (kk : ∀ I2 L2, Post I2 L2 → qR (qKL l b Ln xs) E X 1255 (lwV a) [] 77 (kc + 1) (ks + 6) (fm I2 L2)) : qR (qKL l b Ln xs) E X 1131 (lwV a) [] 77 kc ks (fm I L) := by
  refine qr_aload_n (pc := 1131) d_lw_law_1131 rfl rfl ?_
  refine qr_aload_n (pc := 1132) d_lw_law_1132 rfl rfl ?_
  refine qr_iload (pc := 1133) d_lw_law_1133 rfl ?_
  refine qr_iconst (v := 1) (pc := 1135) d_lw_law_1135 (by decide) ?_
  refine qr_iadd (pc := 1136) d_lw_law_1136 ?_
  refine qR_st (st' := [.int (nI (a + 1)), .ref 77, .ref 0]) rfl (by rw [nI_1] <;> rfl) rfl ?_
  refine qr_sldN (j := (a + 1)) (fun _ _ _ _ h => h) (pc := 1137) d_lw_law_1137 (by omega) hLn ?_
  refine qr_aload_n (pc := 1138) d_lw_law_1138 rfl rfl ?_
  refine qr_iload (pc := 1139) d_lw_law_1139 rfl ?_
  refine qr_iconst (v := 2) (pc := 1141) d_lw_law_1141 (by decide) ?_
  refine qr_iadd (pc := 1142) d_lw_law_1142 ?_
  refine qR_st (st' := [.int (nI (a + 2)), .ref 77, .int (xs (a + 1)), .ref 0]) rfl (by rw [nI_p2] <;> rfl) rfl ?_
  refine qr_sldN (j := (a + 2)) (fun _ _ _ _ h => h) (pc := 1143) d_lw_law_1143 (by omega) hLn ?_
  refine qr_aload_n (pc := 1144) d_lw_law_1144 rfl rfl ?_
  refine qr_callSW (hh := hh_date) (na := 4) (As := [.ref 0, .int (xs (a + 1)), .int (xs (a + 2)), .ref 76]) (pc := 1145) d_lw_law_1145 lk_lw_137 ii_lw cw_date ⟨by decide, by decide⟩ (by decide +kernel) sm_lw_date hW rfl rfl (Nat.le_of_ble_eq_true rfl) (Nat.le_of_ble_eq_true rfl) (Nat.le_of_ble_eq_true rfl) hkc hks (fun v n9 f9 hE => ?_)
  obtain ⟨k9, I1, L1, b9, I2, L2, rfl, rfl, rfl, hm, hth, hout, hpost⟩ := hM _ _ _ hE
  refine qr_istore (lv' := [(5, .int k9), (0, .ref 77), (1, .ref 0), (2, .ref 47), (3, .ref 76), (4, .int (nI a))]) (pc := 1148) d_lw_law_1148 (Nat.le_of_ble_eq_true rfl) rfl ?_
  refine qr_aload_n (pc := 1150) d_lw_law_1150 rfl rfl ?_
  refine qr_aload_n (pc := 1151) d_lw_law_1151 rfl rfl ?_
  refine qr_iload (pc := 1152) d_lw_law_1152 rfl ?_
  refine qr_iconst (v := 1) (pc := 1154) d_lw_law_1154 (by decide) ?_
  refine qr_iadd (pc := 1155) d_lw_law_1155 ?_
  refine qR_st (st' := [.int (nI (a + 1)), .ref 77, .ref 47]) rfl (by rw [nI_1] <;> rfl) rfl ?_
  refine qr_sldN (j := (a + 1)) (fun _ _ _ _ h => h) (pc := 1156) d_lw_law_1156 (by omega) hLn ?_
  refine qr_aload_n (pc := 1157) d_lw_law_1157 rfl rfl ?_
  refine qr_iload (pc := 1158) d_lw_law_1158 rfl ?_
  refine qr_iconst (v := 2) (pc := 1160) d_lw_law_1160 (by decide) ?_
  refine qr_iadd (pc := 1161) d_lw_law_1161 ?_
  refine qR_st (st' := [.int (nI (a + 2)), .ref 77, .int (xs (a + 1)), .ref 47]) rfl (by rw [nI_p2] <;> rfl) rfl ?_
  refine qr_sldN (j := (a + 2)) (fun _ _ _ _ h => h) (pc := 1162) d_lw_law_1162 (by omega) hLn ?_
  refine qr_callV (q := 47) (As := [.int (xs (a + 1)), .int (xs (a + 2))]) (pc := 1163) d_lw_law_1163 lk_lw_139 im_md_date se_md_date rfl (by decide) (by decide) (c_47 _ _) hm rfl rfl (Nat.le_of_ble_eq_true rfl) (Nat.le_of_ble_eq_true rfl) (Nat.le_of_ble_eq_true rfl) (by show kc + 1 + 0 ≤ 601024; omega) (by show ks + 6 + 0 ≤ 7293034; omega) (fun h => nomatch h) (fun v n9 f9 hE9 => ?_)
  obtain ⟨rfl, rfl, rfl⟩ := hE9
  refine qr_istore (lv' := [(6, .int b9), (5, .int k9), (0, .ref 77), (1, .ref 0), (2, .ref 47), (3, .ref 76), (4, .int (nI a))]) (pc := 1166) d_lw_law_1166 (Nat.le_of_ble_eq_true rfl) rfl ?_
  refine qr_aload_n (pc := 1168) d_lw_law_1168 rfl rfl ?_
  refine qr_callV (q := 47) (As := []) (pc := 1169) d_lw_law_1169 lk_lw_83 im_md_thrown se_md_thrown rfl (by decide) (by decide) (c_47 _ _) (s_md_thrown _ false _ _) rfl rfl (Nat.le_of_ble_eq_true rfl) (Nat.le_of_ble_eq_true rfl) (Nat.le_of_ble_eq_true rfl) (by show kc + 1 + 0 + 0 ≤ 601024; omega) (by show ks + 6 + 0 + 0 ≤ 7293034; omega) (fun h => nomatch h) (fun v n9 f9 hE9 => ?_)
  obtain ⟨rfl, rfl, rfl⟩ := hE9
  refine qr_iload (pc := 1172) d_lw_law_1172 rfl ?_
  refine qr_icmp_eq (tgt := 1179) (pc := 1174) d_lw_law_1174 (by decide) (fun _ => ?_) (fun h => absurd hth h)
  refine qr_iload (pc := 1179) d_lw_law_1179 rfl ?_
  refine qr_if_ne (tgt := 1196) (pc := 1181) d_lw_law_1181 (by decide) (fun _ => ?_) (fun hk9 => ?_)
  · skip
    refine qr_goto (tgt := 1255) (pc := 1196) d_lw_law_1196 (by decide) ?_
    refine qR_sub (lv' := lwV a) [2, 3, 4, 5, 6] rfl ?_
    exact kk _ _ hpost
  · have ho := hout hk9
    refine qr_aload_n (pc := 1184) d_lw_law_1184 rfl rfl ?_
    refine qr_iconst (v := 0) (pc := 1185) d_lw_law_1185 (by decide) ?_
    refine qr_laldN (j := 0) (pc := 1186) d_lw_law_1186 (by decide) (by decide) (c_76 _ _) (by decide) (by decide) ?_
    refine qr_iload (pc := 1187) d_lw_law_1187 rfl ?_
    refine qr_i2l (pc := 1189) d_lw_law_1189 ?_
    refine qr_lcmp (pc := 1190) d_lw_law_1190 ?_
    refine qr_if_eq (tgt := 1196) (pc := 1191) d_lw_law_1191 (by decide) (fun _ => ?_) (fun h => absurd ((lgc_eq _ _).mpr ho) h)
    refine qr_goto (tgt := 1255) (pc := 1196) d_lw_law_1196 (by decide) ?_
    refine qR_sub (lv' := lwV a) [2, 3, 4, 5, 6] rfl ?_
    exact kk _ _ hpost
set_option maxRecDepth 10000 in
theorem lc_count {l : Launch} {b Ln : Nat} {xs : Nat → Int32} {E : qE} {X : qXC} {a kc ks : Nat} {I : Nat → Nat → Int32} {L : Nat → Nat → Int64} (ha : a + 5 ≤ Ln) (hLn : Ln < 2 ^ 31) (hkc : kc + 1 ≤ 601024) (hks : ks + 6 ≤ 7293034) (Post : (Nat → Nat → Int32) → (Nat → Nat → Int64) → Prop) {Ew : qE} (hW : qSpW l y_lw_count b_lw_count 4 (some .int) hh_count 10 1 6 [.ref 0, .int (xs (a + 1)), .ref 76] 77 (fm I L) Ew) (hM : ∀ v n f, Ew v n f → ∃ (k9 : Int32) (I1 : Nat → Nat → Int32) (L1 : Nat → Nat → Int64) (b9 : Int32) (I2 : Nat → Nat → Int32) (L2 : Nat → Nat → Int64), some (.int k9) = v ∧ 77 = n ∧ fm I1 L1 = f ∧ qSp l y_md_count b_md_count 2 (some .int) false 2 0 0 [.ref 47, .int (xs (a + 1))] 77 (fm I1 L1) (qD (some (.int b9)) 77 (fm I2 L2)) ∧ I2 47 0 = k9 ∧ (k9 = 0 → L2 76 0 = Int32.toInt64 b9) ∧ Post I2 L2) (kk : ∀ I2 L2, Post I2 L2 → qR (qKL l b Ln xs) E X 1255 (lwV a) [] 77 (kc + 1) (ks + 6) (fm I2 L2)) : qR (qKL l b Ln xs) E X 1199 (lwV a) [] 77 kc ks (fm I L) := by
  refine qr_aload_n (pc := 1199) d_lw_law_1199 rfl rfl ?_
  refine qr_aload_n (pc := 1200) d_lw_law_1200 rfl rfl ?_
  refine qr_iload (pc := 1201) d_lw_law_1201 rfl ?_
  refine qr_iconst (v := 1) (pc := 1203) d_lw_law_1203 (by decide) ?_
  refine qr_iadd (pc := 1204) d_lw_law_1204 ?_
  refine qR_st (st' := [.int (nI (a + 1)), .ref 77, .ref 0]) rfl (by rw [nI_1] <;> rfl) rfl ?_
  refine qr_sldN (j := (a + 1)) (fun _ _ _ _ h => h) (pc := 1205) d_lw_law_1205 (by omega) hLn ?_
  refine qr_aload_n (pc := 1206) d_lw_law_1206 rfl rfl ?_
  refine qr_callSW (hh := hh_count) (na := 3) (As := [.ref 0, .int (xs (a + 1)), .ref 76]) (pc := 1207) d_lw_law_1207 lk_lw_140 ii_lw cw_count ⟨by decide, by decide⟩ (by decide +kernel) sm_lw_count hW rfl rfl (Nat.le_of_ble_eq_true rfl) (Nat.le_of_ble_eq_true rfl) (Nat.le_of_ble_eq_true rfl) hkc hks (fun v n9 f9 hE => ?_)
  obtain ⟨k9, I1, L1, b9, I2, L2, rfl, rfl, rfl, hm, hth, hout, hpost⟩ := hM _ _ _ hE
  refine qr_istore (lv' := [(5, .int k9), (0, .ref 77), (1, .ref 0), (2, .ref 47), (3, .ref 76), (4, .int (nI a))]) (pc := 1210) d_lw_law_1210 (Nat.le_of_ble_eq_true rfl) rfl ?_
  refine qr_aload_n (pc := 1212) d_lw_law_1212 rfl rfl ?_
  refine qr_aload_n (pc := 1213) d_lw_law_1213 rfl rfl ?_
  refine qr_iload (pc := 1214) d_lw_law_1214 rfl ?_
  refine qr_iconst (v := 1) (pc := 1216) d_lw_law_1216 (by decide) ?_
  refine qr_iadd (pc := 1217) d_lw_law_1217 ?_
  refine qR_st (st' := [.int (nI (a + 1)), .ref 77, .ref 47]) rfl (by rw [nI_1] <;> rfl) rfl ?_
  refine qr_sldN (j := (a + 1)) (fun _ _ _ _ h => h) (pc := 1218) d_lw_law_1218 (by omega) hLn ?_
  refine qr_callV (q := 47) (As := [.int (xs (a + 1))]) (pc := 1219) d_lw_law_1219 lk_lw_142 im_md_count se_md_count rfl (by decide) (by decide) (c_47 _ _) hm rfl rfl (Nat.le_of_ble_eq_true rfl) (Nat.le_of_ble_eq_true rfl) (Nat.le_of_ble_eq_true rfl) (by show kc + 1 + 0 ≤ 601024; omega) (by show ks + 6 + 0 ≤ 7293034; omega) (fun h => nomatch h) (fun v n9 f9 hE9 => ?_)
  obtain ⟨rfl, rfl, rfl⟩ := hE9
  refine qr_istore (lv' := [(6, .int b9), (5, .int k9), (0, .ref 77), (1, .ref 0), (2, .ref 47), (3, .ref 76), (4, .int (nI a))]) (pc := 1222) d_lw_law_1222 (Nat.le_of_ble_eq_true rfl) rfl ?_
  refine qr_aload_n (pc := 1224) d_lw_law_1224 rfl rfl ?_
  refine qr_callV (q := 47) (As := []) (pc := 1225) d_lw_law_1225 lk_lw_83 im_md_thrown se_md_thrown rfl (by decide) (by decide) (c_47 _ _) (s_md_thrown _ false _ _) rfl rfl (Nat.le_of_ble_eq_true rfl) (Nat.le_of_ble_eq_true rfl) (Nat.le_of_ble_eq_true rfl) (by show kc + 1 + 0 + 0 ≤ 601024; omega) (by show ks + 6 + 0 + 0 ≤ 7293034; omega) (fun h => nomatch h) (fun v n9 f9 hE9 => ?_)
  obtain ⟨rfl, rfl, rfl⟩ := hE9
  refine qr_iload (pc := 1228) d_lw_law_1228 rfl ?_
  refine qr_icmp_eq (tgt := 1235) (pc := 1230) d_lw_law_1230 (by decide) (fun _ => ?_) (fun h => absurd hth h)
  refine qr_iload (pc := 1235) d_lw_law_1235 rfl ?_
  refine qr_if_ne (tgt := 1252) (pc := 1237) d_lw_law_1237 (by decide) (fun _ => ?_) (fun hk9 => ?_)
  · skip
    refine qr_goto (tgt := 1255) (pc := 1252) d_lw_law_1252 (by decide) ?_
    refine qR_sub (lv' := lwV a) [2, 3, 4, 5, 6] rfl ?_
    exact kk _ _ hpost
  · have ho := hout hk9
    refine qr_aload_n (pc := 1240) d_lw_law_1240 rfl rfl ?_
    refine qr_iconst (v := 0) (pc := 1241) d_lw_law_1241 (by decide) ?_
    refine qr_laldN (j := 0) (pc := 1242) d_lw_law_1242 (by decide) (by decide) (c_76 _ _) (by decide) (by decide) ?_
    refine qr_iload (pc := 1243) d_lw_law_1243 rfl ?_
    refine qr_i2l (pc := 1245) d_lw_law_1245 ?_
    refine qr_lcmp (pc := 1246) d_lw_law_1246 ?_
    refine qr_if_eq (tgt := 1252) (pc := 1247) d_lw_law_1247 (by decide) (fun _ => ?_) (fun h => absurd ((lgc_eq _ _).mpr ho) h)
    refine qr_goto (tgt := 1255) (pc := 1252) d_lw_law_1252 (by decide) ?_
    refine qR_sub (lv' := lwV a) [2, 3, 4, 5, 6] rfl ?_
    exact kk _ _ hpost
