/-! String constants: rows, and contracts of the JDK's methods on them -/
def y_js_length : MethodName := ⟨"java/lang/String", "length", "()I"⟩
theorem co_js_length : Cond.code y_js_length b_js_length 1 (some .int) ∈ qg := q_t3 54 rfl rfl
theorem im_js_length : Cond.instanceMethod y_js_length ∈ qg := q_t3 52 rfl rfl
theorem se_js_length : Cond.selects y_js_length.cls y_js_length y_js_length ∈ qg := q_t3 53 rfl rfl
def y_js_coder : MethodName := ⟨"java/lang/String", "coder", "()B"⟩
theorem co_js_coder : Cond.code y_js_coder b_js_coder 1 (some .byte) ∈ qg := q_t3 58 rfl rfl
theorem im_js_coder : Cond.instanceMethod y_js_coder ∈ qg := q_t3 56 rfl rfl
theorem se_js_coder : Cond.selects y_js_coder.cls y_js_coder y_js_coder ∈ qg := q_t3 57 rfl rfl
def y_js_charAt : MethodName := ⟨"java/lang/String", "charAt", "(I)C"⟩
theorem co_js_charAt : Cond.code y_js_charAt b_js_charAt 2 (some .char) ∈ qg := q_t3 64 rfl rfl
theorem im_js_charAt : Cond.instanceMethod y_js_charAt ∈ qg := q_t3 62 rfl rfl
theorem se_js_charAt : Cond.selects y_js_charAt.cls y_js_charAt y_js_charAt ∈ qg := q_t3 63 rfl rfl
def y_js_isLatin1 : MethodName := ⟨"java/lang/String", "isLatin1", "()Z"⟩
theorem co_js_isLatin1 : Cond.code y_js_isLatin1 b_js_isLatin1 1 (some .boolean) ∈ qg := q_t3 68 rfl rfl
theorem im_js_isLatin1 : Cond.instanceMethod y_js_isLatin1 ∈ qg := q_t3 66 rfl rfl
theorem se_js_isLatin1 : Cond.selects y_js_isLatin1.cls y_js_isLatin1 y_js_isLatin1 ∈ qg := q_t3 67 rfl rfl
def y_j1_charAt : MethodName := ⟨"java/lang/StringLatin1", "charAt", "([BI)C"⟩
theorem co_j1_charAt : Cond.code y_j1_charAt b_j1_charAt 2 (some .char) ∈ qg := q_t3 71 rfl rfl
theorem sm_j1_charAt : Cond.static y_j1_charAt ∈ qg := q_t3 70 rfl rfl
def y_js_checkIndex : MethodName := ⟨"java/lang/String", "checkIndex", "(II)V"⟩
theorem co_js_checkIndex : Cond.code y_js_checkIndex b_js_checkIndex 2 none ∈ qg := q_t3 74 rfl rfl
theorem sm_js_checkIndex : Cond.static y_js_checkIndex ∈ qg := q_t3 73 rfl rfl
def y_jp_checkIndex : MethodName := ⟨"jdk/internal/util/Preconditions", "checkIndex", "(IILjava/util/function/BiFunction;)I"⟩
theorem co_jp_checkIndex : Cond.code y_jp_checkIndex b_jp_checkIndex 3 (some .int) ∈ qg := q_t3 79 rfl rfl
theorem sm_jp_checkIndex : Cond.static y_jp_checkIndex ∈ qg := q_t3 78 rfl rfl
theorem ii_js : Cond.initialized "java/lang/String" ∈ qg := q_t1 15 rfl rfl
theorem ii_j1 : Cond.initialized "java/lang/StringLatin1" ∈ qg := q_t1 16 rfl rfl
theorem ii_jp : Cond.initialized "jdk/internal/util/Preconditions" ∈ qg := q_t1 17 rfl rfl
theorem lk_tr_115 : qLk "BillForge$TariffReader" 115 y_js_length b_js_length 1 (some .int) 0 := ⟨q_t3 51 rfl rfl, ii_js, co_js_length, by decide, by decide, by decide +kernel⟩
theorem lk_js_335 : qLk "java/lang/String" 335 y_js_coder b_js_coder 1 (some .byte) 0 := ⟨q_t3 55 rfl rfl, ii_js, co_js_coder, by decide, by decide, by decide +kernel⟩
theorem lk_tr_119 : qLk "BillForge$TariffReader" 119 y_js_charAt b_js_charAt 2 (some .char) 1 := ⟨q_t3 61 rfl rfl, ii_js, co_js_charAt, by decide, by decide, by decide +kernel⟩
theorem lk_js_492 : qLk "java/lang/String" 492 y_js_isLatin1 b_js_isLatin1 1 (some .boolean) 0 := ⟨q_t3 65 rfl rfl, ii_js, co_js_isLatin1, by decide, by decide, by decide +kernel⟩
theorem lk_js_495 : qLk "java/lang/String" 495 y_j1_charAt b_j1_charAt 2 (some .char) 2 := ⟨q_t3 69 rfl rfl, ii_j1, co_j1_charAt, by decide, by decide, by decide +kernel⟩
theorem lk_j1_9 : qLk "java/lang/StringLatin1" 9 y_js_checkIndex b_js_checkIndex 2 none 2 := ⟨q_t3 72 rfl rfl, ii_js, co_js_checkIndex, by decide, by decide, by decide +kernel⟩
theorem lk_js_1059 : qLk "java/lang/String" 1059 y_jp_checkIndex b_jp_checkIndex 3 (some .int) 3 := ⟨q_t3 77 rfl rfl, ii_jp, co_jp_checkIndex, by decide, by decide, by decide +kernel⟩
theorem fl_js_38 : Cond.fieldLink "java/lang/String" 38 "java/lang/String" "COMPACT_STRINGS" "Z" ∈ qg := q_t3 59 rfl rfl
theorem fl_js_9 : Cond.fieldLink "java/lang/String" 9 "java/lang/String" "value" "[B" ∈ qg := q_t6 0 rfl rfl
theorem fl_js_15 : Cond.fieldLink "java/lang/String" 15 "java/lang/String" "coder" "B" ∈ qg := q_t6 1 rfl rfl
theorem fl_js_1053 : Cond.fieldLink "java/lang/String" 1053 "jdk/internal/util/Preconditions" "SIOOBE_FORMATTER" "Ljava/util/function/BiFunction;" ∈ qg := q_t3 75 rfl rfl
theorem qa_ge {z : Nat} {ex : Nat → Nat} {k : Nat} (h : 77 ≤ k) : qa z ex k = ex k := if_neg (by omega)
section JS
variable {K : qK} {E E' : qE} {X : qXC} {pc : Nat} {lv : List (Nat × Value)} {st stk : List Value} {n kc ks : Nat} {f : Nat → va_E} {i idx : Nat}
theorem qr_ldcS {q : Nat × String} (hd : decode (kcc K) pc = .ok (.ldc q.1, 2)) (hown : kown K = qStrO) (hi : qStr[i]? = some q) (k : qR K E X (pc + 2) lv (.ref (78 + i) :: st) n kc ks f) : qR K E X pc lv st n kc ks f := by
  intro p e R s m args below meth c H locs ls Q z ex D D3 C hP hS hl hE
  have h9 := k p e R s m args below meth c H locs ls Q z ex D D3 C hP hS hl hE
  have h8 : (Value.ref (78 + i) :: st).map (qv z ex) = .ref (ex (78 + i)) :: st.map (qv z ex) := by
    show Value.ref (qa z ex (78 + i)) :: _ = _
    rw [qa_ge (by omega)]
  rw [h8] at h9
  exact va_ldcS C.1 C.2.1 (by rw [← hown]; exact C.2.2.2.1) (C.2.2.2.2.2.2.2.1.2.2.2.2.2.2.1 i q hi) hd h9
theorem qr_gsC (hd : decode (kcc K) pc = .ok (.getstatic idx, 3)) (hl9 : Cond.fieldLink (kown K) idx "java/lang/String" "COMPACT_STRINGS" "Z" ∈ qg) (k : qR K E X (pc + 3) lv (.int 1 :: st) n kc ks f) : qR K E X pc lv st n kc ks f := by
  intro p e R s m args below meth c H locs ls Q z ex D D3 C hP hS hl hE
  exact va_gets C.1 C.2.1 (C.2.2.2.2.2.2.2.1.2.2.2.2.2.2.2.2.1) hS C.2.2.2.1 (C.2.2.2.2.1 _ hl9) (fun x h => h) hd (k p e R s m args below meth c H locs ls Q z ex D D3 C hP hS hl hE)
theorem qr_gsF (hd : decode (kcc K) pc = .ok (.getstatic idx, 3)) (hl9 : Cond.fieldLink (kown K) idx "jdk/internal/util/Preconditions" "SIOOBE_FORMATTER" "Ljava/util/function/BiFunction;" ∈ qg) (k : ∀ v, (v = .null ∨ v = .ref 90) → qR K E X (pc + 3) lv (v :: st) n kc ks f) : qR K E X pc lv st n kc ks f := by
  intro p e R s m args below meth c H locs ls Q z ex D D3 C hP hS hl hE
  rcases C.2.2.2.2.2.2.2.1.2.2.2.2.2.2.2.2.2 with h | h
  · exact va_gets C.1 C.2.1 h hS C.2.2.2.1 (C.2.2.2.2.1 _ hl9) (fun x h => h) hd (k .null (Or.inl rfl) p e R s m args below meth c H locs ls Q z ex D D3 C hP hS hl hE)
  · have h9 := k (.ref 90) (Or.inr rfl) p e R s m args below meth c H locs ls Q z ex D D3 C hP hS hl hE
    have h8 : (Value.ref 90 :: st).map (qv z ex) = .ref (ex 90) :: st.map (qv z ex) := by
      show Value.ref (qa z ex 90) :: _ = _
      rw [qa_ge (by omega)]
    rw [h8] at h9
    exact va_gets C.1 C.2.1 h hS C.2.2.2.1 (C.2.2.2.2.1 _ hl9) (fun x h => h) hd h9
theorem qr_getV (hi : i < 6) (hd : decode (kcc K) pc = .ok (.getfield idx, 3)) (hl9 : Cond.fieldLink (kown K) idx "java/lang/String" "value" "[B" ∈ qg) (k : qR K E X (pc + 3) lv (.ref (84 + i) :: st) n kc ks f) : qR K E X pc lv (.ref (78 + i) :: st) n kc ks f := by
  intro p e R s m args below meth c H locs ls Q z ex D D3 C hP hS hl hE
  have h9 := k p e R s m args below meth c H locs ls Q z ex D D3 C hP hS hl hE
  have h8 : (Value.ref (84 + i) :: st).map (qv z ex) = .ref (ex (84 + i)) :: st.map (qv z ex) := by
    show Value.ref (qa z ex (84 + i)) :: _ = _
    rw [qa_ge (by omega)]
  rw [h8] at h9
  show W _ _ _ _ _ _ _ _ _ _ _ _ _ _ _ (F0 m pc ls (.ref (qa z ex (78 + i)) :: st.map (qv z ex)))
  rw [qa_ge (by omega)]
  exact vk_getf C.1 C.2.1 (C.2.2.2.2.2.2.2.1.2.2.2.2.2.2.2.1.1 i hi).2.2.1 hS C.2.2.2.1 (C.2.2.2.2.1 _ hl9) (fun x h => h) hd h9
theorem qr_getC (hi : i < 6) (hd : decode (kcc K) pc = .ok (.getfield idx, 3)) (hl9 : Cond.fieldLink (kown K) idx "java/lang/String" "coder" "B" ∈ qg) (k : qR K E X (pc + 3) lv (.int 0 :: st) n kc ks f) : qR K E X pc lv (.ref (78 + i) :: st) n kc ks f := by
  intro p e R s m args below meth c H locs ls Q z ex D D3 C hP hS hl hE
  show W _ _ _ _ _ _ _ _ _ _ _ _ _ _ _ (F0 m pc ls (.ref (qa z ex (78 + i)) :: st.map (qv z ex)))
  rw [qa_ge (by omega)]
  exact vk_getf C.1 C.2.1 (C.2.2.2.2.2.2.2.1.2.2.2.2.2.2.2.1.1 i hi).2.1 hS C.2.2.2.1 (C.2.2.2.2.1 _ hl9) (fun x h => h) hd (k p e R s m args below meth c H locs ls Q z ex D D3 C hP hS hl hE)
theorem qr_alenS (hi : i < 6) (hd : decode (kcc K) pc = .ok (.arraylength, 1)) (k : qR K E X (pc + 1) lv (.int (nI (qLenS.getD i 0)) :: st) n kc ks f) : qR K E X pc lv (.ref (84 + i) :: st) n kc ks f := by
  intro p e R s m args below meth c H locs ls Q z ex D D3 C hP hS hl hE
  show W _ _ _ _ _ _ _ _ _ _ _ _ _ _ _ (F0 m pc ls (.ref (qa z ex (84 + i)) :: st.map (qv z ex)))
  rw [qa_ge (by omega)]
  exact va_tlen C.1 C.2.1 (C.2.2.2.2.2.2.2.1.2.2.2.2.2.2.2.1.1 i hi).2.2.2 hS rfl hd (k p e R s m args below meth c H locs ls Q z ex D D3 C hP hS hl hE)
theorem qr_baldS {j : Nat} (hi : i < 6) (hj : j < qLenS.getD i 0) (hlen : qLenS.getD i 0 < 2 ^ 31) (hd : decode (kcc K) pc = .ok (.baload, 1)) (k : qR K E X (pc + 1) lv (.int ((qBytS.getD i []).getD j 0) :: st) n kc ks f) : qR K E X pc lv (.int (nI j) :: .ref (84 + i) :: st) n kc ks f := by
  intro p e R s m args below meth c H locs ls Q z ex D D3 C hP hS hl hE
  show W _ _ _ _ _ _ _ _ _ _ _ _ _ _ _ (F0 m pc ls (.int (nI j) :: .ref (qa z ex (84 + i)) :: st.map (qv z ex)))
  rw [qa_ge (by omega)]
  exact va_tb C.1 C.2.1 (C.2.2.2.2.2.2.2.1.2.2.2.2.2.2.2.1.1 i hi).2.2.2 hS (vp_in_nI hj hlen) (by rw [nI_clamp (Nat.lt_trans hj hlen)]; rfl) hd (k p e R s m args below meth c H locs ls Q z ex D D3 C hP hS hl hE)
theorem qr_callVS {y : MethodName} {cc : ByteArray} {nL : Nat} {ret : Option FieldType} {x : Bool} {d mc ms na : Nat} {As : List Value} (hi6 : i < 6) (hcl : y.cls = "java/lang/String") (hd : decode (kcc K) pc = .ok (.invokevirtual idx, 3)) (hL : qLk (kown K) idx y cc nL ret na) (hi : Cond.instanceMethod y ∈ qg) (hs : Cond.selects y.cls y y ∈ qg) 
    (hsp : qSp (kl K) y cc nL ret x d mc ms (.ref (78 + i) :: As) n f E') (hn : As.length = na) (hstk : stk = As.reverse ++ .ref (78 + i) :: st) (hrm : (st.map fun v => v.category).sum ≤ 8) (hdep : d + 1 ≤ kd K) (hloc : 19 + nL + 34 * d ≤ 34 * kd K) (hkc : kc + mc ≤ kmc K) (hks : ks + ms ≤ kms K) (hx : x = true → kx K = true ∧ n = kn K + kc ∧ (kc = 0 ∨ n ≤ 77))
    (k : ∀ (v : Option Value) (n' : Nat) (f' : Nat → va_E), E' v n' f' → qR K E X (pc + 3) lv (v.toList ++ st) n' (kc + mc) (ks + ms) f') : qR K E X pc lv stk n kc ks f := by
  intro p e R s m args below meth c H locs ls Q z ex D D3 C hP hS hl hE
  subst hstk
  intro T hT X9
  obtain ⟨l1, l2, l3, l4, l5, l6⟩ := hL
  have hR : R = qrm (kd K) (kmc K) (kms K) := C.2.2.2.2.2.2.2.2.1
  have hstk : (As.reverse ++ .ref (78 + i) :: st).map (qv z ex) = (As.map (qv z ex)).reverse ++ .ref (qa z ex (78 + i)) :: st.map (qv z ex) := by
    rw [List.map_append, List.map_reverse]
    rfl
  have hr := va_runV (l := kl K) (e := e) (below := below) (meth := meth) (locs := locs) (cells := kc) (slots := ks) (R := R) (H := H) (C := y.cls) (b := qa z ex (78 + i)) (As := As.map (qv z ex)) (rest := st.map (qv z ex)) (g := F0 m pc ls ((As.reverse ++ .ref (78 + i) :: st).map (qv z ex))) ⟨C.1, C.2.1, C.2.2.1, C.2.2.2.1, C.2.2.2.2.1⟩ (hsp z ex D D3) (cwV na C.2.2.2.2.1 (qg_all (fun w hw => by
      rcases List.mem_append.mp hw with h | h
      · rcases List.mem_cons.mp h with rfl | h
        · exact l1
        rcases List.mem_cons.mp h with rfl | h
        · exact hi
        rcases List.mem_cons.mp h with rfl | h
        · exact hs
        rcases List.mem_cons.mp h with rfl | h
        · exact l2
        cases h
      · rcases List.mem_cons.mp h with rfl | h
        · exact l3
        · exact h)) rfl rfl rfl ⟨rfl, l4, l5, l6⟩ (by rw [hR]; exact ⟨hdep, by show 8 + (nL + 11) + (34 * d + 12) ≤ 34 * kd K + 12; omega⟩))
    ⟨q_blind, by rw [qa_ge (by omega), hcl]; exact vk_recv (adK := fun i => ex (78 + i)) (i := i) (C.2.2.2.2.2.2.2.1.2.2.2.2.2.2.2.1) hi6 hS, q_pre C hP hS (fun h => q_size C hP hS hT X9 (hx h))⟩ rfl (by rw [List.length_map]; exact hn) hl.1 hstk (lv_room (by rw [q_cat]; exact hrm)) hd (by rw [hR]; exact ⟨hkc, hks⟩)
  refine q_cont hr hS (fun v n' f' H1 locs1 hE1 hP1 hS1 => ?_) T hT X9
  have h9 := k v n' f' hE1 p e R s m args below meth c H1 locs1 ls Q z ex D D3 C hP1 hS1 hl hE
  rw [List.map_append] at h9
  have h8 : (v.map (qv z ex)).toList = v.toList.map (qv z ex) := by cases v <;> rfl
  rw [h8]
  exact h9
end JS
set_option maxRecDepth 10000 in
theorem s_js_coder (l : Launch) (x : Bool) (n : Nat) (f : Nat → va_E) (i : Nat) (hi : i < 6) : qSp l y_js_coder b_js_coder 1 (some .byte) x 1 0 0 [.ref (78 + i)] n f (qD (some (.int 0)) n f) := by
  refine qSp_of (ini := false) (by decide +kernel) (fun h => nomatch h) (Nat.le_of_ble_eq_true rfl) ?_
  refine qr_gsC (pc := 0) d_js_coder_0 fl_js_38 ?_
  refine qr_if_eq (tgt := 13) (pc := 3) d_js_coder_3 (by decide) (fun h => absurd h (by decide)) (fun _ => ?_)
  refine qr_aload_n (pc := 6) d_js_coder_6 rfl rfl ?_
  refine qr_getC hi (pc := 7) d_js_coder_7 fl_js_15 ?_
  refine qr_goto (tgt := 14) (pc := 10) d_js_coder_10 (by decide) ?_
  exact qr_iret (pc := 14) d_js_coder_14 rfl rfl ⟨rfl, rfl, rfl⟩ (Nat.zero_le _) (Nat.zero_le _)
set_option maxRecDepth 10000 in
theorem s_js_isLatin1 (l : Launch) (x : Bool) (n : Nat) (f : Nat → va_E) (i : Nat) (hi : i < 6) : qSp l y_js_isLatin1 b_js_isLatin1 1 (some .boolean) x 1 0 0 [.ref (78 + i)] n f (qD (some (.int 1)) n f) := by
  refine qSp_of (ini := false) (by decide +kernel) (fun h => nomatch h) (Nat.le_of_ble_eq_true rfl) ?_
  refine qr_gsC (pc := 0) d_js_isLatin1_0 fl_js_38 ?_
  refine qr_if_eq (tgt := 17) (pc := 3) d_js_isLatin1_3 (by decide) (fun h => absurd h (by decide)) (fun _ => ?_)
  refine qr_aload_n (pc := 6) d_js_isLatin1_6 rfl rfl ?_
  refine qr_getC hi (pc := 7) d_js_isLatin1_7 fl_js_15 ?_
  refine qr_if_ne (tgt := 17) (pc := 10) d_js_isLatin1_10 (by decide) (fun h => absurd rfl h) (fun _ => ?_)
  refine qr_iconst (v := 1) (pc := 13) d_js_isLatin1_13 (by decide) ?_
  refine qr_goto (tgt := 18) (pc := 14) d_js_isLatin1_14 (by decide) ?_
  exact qr_iret (pc := 18) d_js_isLatin1_18 rfl rfl ⟨rfl, rfl, rfl⟩ (Nat.zero_le _) (Nat.zero_le _)
theorem lenS_ok : ∀ i, i < 6 → qLenS.getD i 0 = (qBytS.getD i []).length ∧ qLenS.getD i 0 < 2 ^ 20 ∧ nI (qLenS.getD i 0) >>> ((0 : Int32) &&& 31) = nI (qLenS.getD i 0) := by decide +kernel
theorem bytS_ok : ∀ i, i < 6 → ∀ j, j < qLenS.getD i 0 → (((qBytS.getD i []).getD j 0 &&& 255).toUInt32 % 65536).toInt32 = (qBytS.getD i []).getD j 0 ∧ narrow .char (.int ((qBytS.getD i []).getD j 0)) = .int ((qBytS.getD i []).getD j 0) := by decide +kernel
set_option maxRecDepth 10000 in
theorem s_js_length (l : Launch) (x : Bool) (n : Nat) (f : Nat → va_E) (i : Nat) (hi : i < 6) : qSp l y_js_length b_js_length 1 (some .int) x 2 0 0 [.ref (78 + i)] n f (qD (some (.int (nI (qLenS.getD i 0)))) n f) := by
  refine qSp_of (ini := false) (by decide +kernel) (fun h => nomatch h) (Nat.le_of_ble_eq_true rfl) ?_
  refine qr_aload_n (pc := 0) d_js_length_0 rfl rfl ?_
  refine qr_getV hi (pc := 1) d_js_length_1 fl_js_9 ?_
  refine qr_alenS hi (pc := 4) d_js_length_4 ?_
  refine qr_aload_n (pc := 5) d_js_length_5 rfl rfl ?_
  refine qr_callVS (i := i) (As := []) hi rfl (pc := 6) d_js_length_6 lk_js_335 im_js_coder se_js_coder (s_js_coder _ x _ _ i hi) rfl rfl (Nat.le_of_ble_eq_true rfl) (Nat.le_of_ble_eq_true rfl) (Nat.le_of_ble_eq_true rfl) (Nat.zero_le _) (Nat.zero_le _) (fun h => ⟨h, rfl, Or.inl rfl⟩) (fun v n9 f9 hE => ?_)
  obtain ⟨rfl, rfl, rfl⟩ := hE
  refine qr_ishr (pc := 9) d_js_length_9 ?_
  refine qR_st (st' := [.int (nI (qLenS.getD i 0))]) rfl (by rw [(lenS_ok i hi).2.2] <;> rfl) rfl ?_
  exact qr_iret (pc := 10) d_js_length_10 rfl rfl ⟨rfl, rfl, rfl⟩ (Nat.zero_le _) (Nat.zero_le _)
set_option maxRecDepth 10000 in
theorem s_jp_checkIndex (l : Launch) (x : Bool) (n : Nat) (f : Nat → va_E) (i len : Nat) (v : Value) (hv : v = .null ∨ v = .ref 90) (hi : i < len) (hlen : len < 2 ^ 31) : qSp l y_jp_checkIndex b_jp_checkIndex 3 (some .int) x 1 0 0 [.int (nI i), .int (nI len), v] n f (qD (some (.int (nI i))) n f) := by
  rcases hv with rfl | rfl
  · refine qSp_of (ini := false) (by decide +kernel) (fun h => nomatch h) (Nat.le_of_ble_eq_true rfl) ?_
    refine qr_iload_n (pc := 0) d_jp_checkIndex_0 rfl rfl ?_
    refine qr_if_lt (tgt := 9) (pc := 1) d_jp_checkIndex_1 (by decide) (fun h => absurd h (nI_pos (by omega))) (fun _ => ?_)
    refine qr_iload_n (pc := 4) d_jp_checkIndex_4 rfl rfl ?_
    refine qr_iload_n (pc := 5) d_jp_checkIndex_5 rfl rfl ?_
    refine qr_icmp_lt (tgt := 16) (pc := 6) d_jp_checkIndex_6 (by decide) (fun _ => ?_) (fun h => absurd (nI_lt hi hlen) h)
    refine qr_iload_n (pc := 16) d_jp_checkIndex_16 rfl rfl ?_
    exact qr_iret (pc := 17) d_jp_checkIndex_17 rfl rfl ⟨rfl, rfl, rfl⟩ (Nat.zero_le _) (Nat.zero_le _)
  · refine qSp_of (ini := false) (by decide +kernel) (fun h => nomatch h) (Nat.le_of_ble_eq_true rfl) ?_
    refine qr_iload_n (pc := 0) d_jp_checkIndex_0 rfl rfl ?_
    refine qr_if_lt (tgt := 9) (pc := 1) d_jp_checkIndex_1 (by decide) (fun h => absurd h (nI_pos (by omega))) (fun _ => ?_)
    refine qr_iload_n (pc := 4) d_jp_checkIndex_4 rfl rfl ?_
    refine qr_iload_n (pc := 5) d_jp_checkIndex_5 rfl rfl ?_
    refine qr_icmp_lt (tgt := 16) (pc := 6) d_jp_checkIndex_6 (by decide) (fun _ => ?_) (fun h => absurd (nI_lt hi hlen) h)
    refine qr_iload_n (pc := 16) d_jp_checkIndex_16 rfl rfl ?_
    exact qr_iret (pc := 17) d_jp_checkIndex_17 rfl rfl ⟨rfl, rfl, rfl⟩ (Nat.zero_le _) (Nat.zero_le _)
set_option maxRecDepth 10000 in
theorem s_js_checkIndex (l : Launch) (x : Bool) (n : Nat) (f : Nat → va_E) (i len : Nat) (hi : i < len) (hlen : len < 2 ^ 31) : qSp l y_js_checkIndex b_js_checkIndex 2 none x 2 0 0 [.int (nI i), .int (nI len)] n f (qD none n f) := by
  refine qSp_of (ini := false) (by decide +kernel) (fun h => nomatch h) (Nat.le_of_ble_eq_true rfl) ?_
  refine qr_iload_n (pc := 0) d_js_checkIndex_0 rfl rfl ?_
  refine qr_iload_n (pc := 1) d_js_checkIndex_1 rfl rfl ?_
  refine qr_gsF (pc := 2) d_js_checkIndex_2 fl_js_1053 (fun v hv => ?_)
  refine qr_callS (As := [.int (nI i), .int (nI len), v]) (pc := 5) d_js_checkIndex_5 lk_js_1059 sm_jp_checkIndex (s_jp_checkIndex _ x _ _ i len v hv hi hlen) rfl rfl (Nat.le_of_ble_eq_true rfl) (Nat.le_of_ble_eq_true rfl) (Nat.le_of_ble_eq_true rfl) (Nat.zero_le _) (Nat.zero_le _) (fun h => ⟨h, rfl, Or.inl rfl⟩) (fun v n9 f9 hE => ?_)
  obtain ⟨rfl, rfl, rfl⟩ := hE
  refine qr_pop (pc := 8) d_js_checkIndex_8 rfl ?_
  exact qr_vret (pc := 9) d_js_checkIndex_9 rfl ⟨rfl, rfl, rfl⟩ (Nat.zero_le _) (Nat.zero_le _)
set_option maxRecDepth 10000 in
theorem s_j1_charAt (l : Launch) (x : Bool) (n : Nat) (f : Nat → va_E) (i j : Nat) (hi : i < 6) (hj : j < qLenS.getD i 0) : qSp l y_j1_charAt b_j1_charAt 2 (some .char) x 3 0 0 [.ref (84 + i), .int (nI j)] n f (qD (some (.int ((qBytS.getD i []).getD j 0))) n f) := by
  refine qSp_of (ini := false) (by decide +kernel) (fun h => nomatch h) (Nat.le_of_ble_eq_true rfl) ?_
  have hl9 := (lenS_ok i hi).2.1
  refine qr_iload_n (pc := 0) d_j1_charAt_0 rfl rfl ?_
  refine qr_aload_n (pc := 1) d_j1_charAt_1 rfl rfl ?_
  refine qr_alenS hi (pc := 2) d_j1_charAt_2 ?_
  refine qr_callS (As := [.int (nI j), .int (nI (qLenS.getD i 0))]) (pc := 3) d_j1_charAt_3 lk_j1_9 sm_js_checkIndex (s_js_checkIndex _ x _ _ j (qLenS.getD i 0) hj (by omega)) rfl rfl (Nat.le_of_ble_eq_true rfl) (Nat.le_of_ble_eq_true rfl) (Nat.le_of_ble_eq_true rfl) (Nat.zero_le _) (Nat.zero_le _) (fun h => ⟨h, rfl, Or.inl rfl⟩) (fun v n9 f9 hE => ?_)
  obtain ⟨rfl, rfl, rfl⟩ := hE
  refine qr_aload_n (pc := 6) d_j1_charAt_6 rfl rfl ?_
  refine qr_iload_n (pc := 7) d_j1_charAt_7 rfl rfl ?_
  refine qr_baldS hi hj (by omega) (pc := 8) d_j1_charAt_8 ?_
  refine qr_sipush (v := 255) (pc := 9) d_j1_charAt_9 (by decide) ?_
  refine qr_iand (pc := 12) d_j1_charAt_12 ?_
  refine qr_i2c (pc := 13) d_j1_charAt_13 ?_
  refine qR_st (st' := [.int ((qBytS.getD i []).getD j 0)]) rfl (congrArg (fun t => [Value.int t]) (bytS_ok i hi j hj).1) rfl ?_
  exact qr_iret (pc := 14) d_j1_charAt_14 rfl (bytS_ok i hi j hj).2 ⟨rfl, rfl, rfl⟩ (Nat.zero_le _) (Nat.zero_le _)
set_option maxRecDepth 10000 in
theorem s_js_charAt (l : Launch) (x : Bool) (n : Nat) (f : Nat → va_E) (i j : Nat) (hi : i < 6) (hj : j < qLenS.getD i 0) : qSp l y_js_charAt b_js_charAt 2 (some .char) x 4 0 0 [.ref (78 + i), .int (nI j)] n f (qD (some (.int ((qBytS.getD i []).getD j 0))) n f) := by
  refine qSp_of (ini := false) (by decide +kernel) (fun h => nomatch h) (Nat.le_of_ble_eq_true rfl) ?_
  refine qr_aload_n (pc := 0) d_js_charAt_0 rfl rfl ?_
  refine qr_callVS (i := i) (As := []) hi rfl (pc := 1) d_js_charAt_1 lk_js_492 im_js_isLatin1 se_js_isLatin1 (s_js_isLatin1 _ x _ _ i hi) rfl rfl (Nat.le_of_ble_eq_true rfl) (Nat.le_of_ble_eq_true rfl) (Nat.le_of_ble_eq_true rfl) (Nat.zero_le _) (Nat.zero_le _) (fun h => ⟨h, rfl, Or.inl rfl⟩) (fun v n9 f9 hE => ?_)
  obtain ⟨rfl, rfl, rfl⟩ := hE
  refine qr_if_eq (tgt := 16) (pc := 4) d_js_charAt_4 (by decide) (fun h => absurd h (by decide)) (fun _ => ?_)
  refine qr_aload_n (pc := 7) d_js_charAt_7 rfl rfl ?_
  refine qr_getV hi (pc := 8) d_js_charAt_8 fl_js_9 ?_
  refine qr_iload_n (pc := 11) d_js_charAt_11 rfl rfl ?_
  refine qr_callS (As := [.ref (84 + i), .int (nI j)]) (pc := 12) d_js_charAt_12 lk_js_495 sm_j1_charAt (s_j1_charAt _ x _ _ i j hi hj) rfl rfl (Nat.le_of_ble_eq_true rfl) (Nat.le_of_ble_eq_true rfl) (Nat.le_of_ble_eq_true rfl) (Nat.zero_le _) (Nat.zero_le _) (fun h => ⟨h, rfl, Or.inl rfl⟩) (fun v n9 f9 hE => ?_)
  obtain ⟨rfl, rfl, rfl⟩ := hE
  exact qr_iret (pc := 15) d_js_charAt_15 rfl (bytS_ok i hi j hj).2 ⟨rfl, rfl, rfl⟩ (Nat.zero_le _) (Nat.zero_le _)
