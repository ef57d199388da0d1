/-! calls of static methods and constructors, across the nest too; new cells -/
section QD
variable {K : qK} {E E' : qE} {X : qXC} {pc : Nat} {lv : List (Nat × Value)} {st stk : List Value} {n kc ks : Nat} {f f' : Nat → va_E}
variable {y : MethodName} {cc : ByteArray} {nL : Nat} {ret : Option FieldType} {x : Bool} {d mc ms na idx q : Nat} {As : List Value}
/-- what links a call across the nest -/
def qLn (own : String) (idx : Nat) (y : MethodName) (host : String) (cc : ByteArray) (nL : Nat) (ret : Option FieldType) (na : Nat) : Prop :=
  Cond.methodLinkNest own idx y host ∈ qNg ∧ Cond.initialized y.cls ∈ qg ∧ Cond.code y cc nL ret ∈ qg ∧ y.cls ≠ "java/lang/invoke/MethodHandle" ∧ y.cls ≠ "java/lang/invoke/VarHandle" ∧ (parseMethodDescriptor y.desc).map (fun d => d.parameters.length) = some na
theorem qr_callS (hd : decode (kcc K) pc = .ok (.invokestatic idx, 3)) (hL : qLk (kown K) idx y cc nL ret na) (hst : Cond.static y ∈ qg)
    (hsp : qSp (kl K) y cc nL ret x d mc ms (As) n f E') (hn : As.length = na) (hstk : stk = As.reverse ++ st) (hrm : (st.map fun v => v.category).sum ≤ 8) (hdep : d + 1 ≤ kd K) (hloc : 19 + nL + 34 * d ≤ 34 * kd K) (hkc : kc + mc ≤ kmc K) (hks : ks + ms ≤ kms K) (hx : x = true → kx K = true ∧ n = kn K + kc ∧ (kc = 0 ∨ n ≤ 77))
    (k : ∀ (v : Option Value) (n' : Nat) (f' : Nat → va_E), E' v n' f' → qR K E X (pc + 3) lv (v.toList ++ st) n' (kc + mc) (ks + ms) f') : qR K E X pc lv stk n kc ks f := by
  intro p e R s m args below meth c H locs ls Q z ex D D3 C hP hS hl hE
  subst hstk
  intro T hT X9
  obtain ⟨l1, l2, l3, l4, l5, l6⟩ := hL
  have hR : R = qrm (kd K) (kmc K) (kms K) := C.2.2.2.2.2.2.2.2.1
  have hstk : (As.reverse ++ st).map (qv z ex) = (As.map (qv z ex)).reverse ++ st.map (qv z ex) := by
    rw [List.map_append, List.map_reverse]
    done
  have hr := va_runS (l := kl K) (e := e) (below := below) (meth := meth) (locs := locs) (cells := kc) (slots := ks) (R := R) (H := H) (As := As.map (qv z ex)) (rest := st.map (qv z ex)) (g := F0 m pc ls ((As.reverse ++ st).map (qv z ex))) ⟨C.1, C.2.1, C.2.2.1, C.2.2.2.1, C.2.2.2.2.1⟩ (hsp z ex D D3) ⟨callB_of na C.2.2.2.2.1 (qg_all (fun w hw => by
      rcases List.mem_cons.mp hw with rfl | h
      · exact l3
      · exact h)) rfl rfl rfl (C.2.2.2.2.1 _ l2) (C.2.2.2.2.1 _ l1) ⟨l4, l5, l6⟩ (by rw [hR]; exact ⟨hdep, by show 8 + (nL + 11) + (34 * d + 12) ≤ 34 * kd K + 12; omega⟩), C.2.2.2.2.1 _ hst⟩
    ⟨q_blind, q_pre C hP hS (fun h => q_size C hP hS hT X9 (hx h))⟩ rfl (by rw [List.length_map]; exact hn) hl.1 hstk (lv_room (by rw [q_cat]; exact hrm)) hd (by rw [hR]; exact ⟨hkc, hks⟩)
  refine q_cont hr hS (fun v n' f' H1 locs1 hE1 hP1 hS1 => ?_) T hT X9
  have h9 := k v n' f' hE1 p e R s m args below meth c H1 locs1 ls Q z ex D D3 C hP1 hS1 hl hE
  rw [List.map_append] at h9
  have h8 : (v.map (qv z ex)).toList = v.toList.map (qv z ex) := by cases v <;> rfl
  rw [h8]
  exact h9
theorem qr_callSN {host : String} (hd : decode (kcc K) pc = .ok (.invokestatic idx, 3)) (hL : qLn (kown K) idx y host cc nL ret na) (hst : Cond.static y ∈ qg)
    (hsp : qSp (kl K) y cc nL ret x d mc ms (As) n f E') (hn : As.length = na) (hstk : stk = As.reverse ++ st) (hrm : (st.map fun v => v.category).sum ≤ 8) (hdep : d + 1 ≤ kd K) (hloc : 19 + nL + 34 * d ≤ 34 * kd K) (hkc : kc + mc ≤ kmc K) (hks : ks + ms ≤ kms K) (hx : x = true → kx K = true ∧ n = kn K + kc ∧ (kc = 0 ∨ n ≤ 77))
    (k : ∀ (v : Option Value) (n' : Nat) (f' : Nat → va_E), E' v n' f' → qR K E X (pc + 3) lv (v.toList ++ st) n' (kc + mc) (ks + ms) f') : qR K E X pc lv stk n kc ks f := by
  intro p e R s m args below meth c H locs ls Q z ex D D3 C hP hS hl hE
  subst hstk
  intro T hT X9
  obtain ⟨l1, l2, l3, l4, l5, l6⟩ := hL
  have hR : R = qrm (kd K) (kmc K) (kms K) := C.2.2.2.2.2.2.2.2.1
  have hstk : (As.reverse ++ st).map (qv z ex) = (As.map (qv z ex)).reverse ++ st.map (qv z ex) := by
    rw [List.map_append, List.map_reverse]
    done
  have hr := va_runSN (l := kl K) (e := e) (below := below) (meth := meth) (locs := locs) (cells := kc) (slots := ks) (R := R) (H := H) (As := As.map (qv z ex)) (rest := st.map (qv z ex)) (g := F0 m pc ls ((As.reverse ++ st).map (qv z ex))) ⟨C.1, C.2.1, C.2.2.1, C.2.2.2.1, C.2.2.2.2.1⟩ (hsp z ex D D3) ⟨va_cnB na C.2.2.2.2.1 (qg_all (fun w hw => by
      rcases List.mem_cons.mp hw with rfl | h
      · exact l3
      · exact h)) rfl rfl rfl (C.2.2.2.2.2.2.2.1.2.1 _ l1) (C.2.2.2.2.1 _ l2) ⟨l4, l5, l6⟩ (by rw [hR]; exact ⟨hdep, by show 8 + (nL + 11) + (34 * d + 12) ≤ 34 * kd K + 12; omega⟩), C.2.2.2.2.1 _ hst, trivial⟩
    ⟨q_blind, q_pre C hP hS (fun h => q_size C hP hS hT X9 (hx h))⟩ rfl (by rw [List.length_map]; exact hn) hl.1 hstk (lv_room (by rw [q_cat]; exact hrm)) hd (by rw [hR]; exact ⟨hkc, hks⟩)
  refine q_cont hr hS (fun v n' f' H1 locs1 hE1 hP1 hS1 => ?_) T hT X9
  have h9 := k v n' f' hE1 p e R s m args below meth c H1 locs1 ls Q z ex D D3 C hP1 hS1 hl hE
  rw [List.map_append] at h9
  have h8 : (v.map (qv z ex)).toList = v.toList.map (qv z ex) := by cases v <;> rfl
  rw [h8]
  exact h9
theorem qr_callI (hd : decode (kcc K) pc = .ok (.invokespecial idx, 3)) (hL : qLk (kown K) idx y cc nL none na) (hi : Cond.instanceMethod y ∈ qg) (hnm : y.name = "<init>")
    (hsp : qSp (kl K) y cc nL none x d mc ms (.ref q :: As) n f E') (hn : As.length = na) (hstk : stk = As.reverse ++ .ref q :: st) (hrm : (st.map fun v => v.category).sum ≤ 8) (hdep : d + 1 ≤ kd K) (hloc : 19 + nL + 34 * d ≤ 34 * kd K) (hkc : kc + mc ≤ kmc K) (hks : ks + ms ≤ kms K) (hx : x = true → kx K = true ∧ n = kn K + kc ∧ (kc = 0 ∨ n ≤ 77))
    (k : ∀ (v : Option Value) (n' : Nat) (f' : Nat → va_E), E' v n' f' → qR K E X (pc + 3) lv (v.toList ++ st) n' (kc + mc) (ks + ms) f') : qR K E X pc lv stk n kc ks f := by
  intro p e R s m args below meth c H locs ls Q z ex D D3 C hP hS hl hE
  subst hstk
  intro T hT X9
  obtain ⟨l1, l2, l3, l4, l5, l6⟩ := hL
  have hR : R = qrm (kd K) (kmc K) (kms K) := C.2.2.2.2.2.2.2.2.1
  have hstk : (As.reverse ++ .ref q :: st).map (qv z ex) = (As.map (qv z ex)).reverse ++ .ref (qa z ex q) :: st.map (qv z ex) := by
    rw [List.map_append, List.map_reverse]
    rfl
  have hr := va_runI (l := kl K) (e := e) (below := below) (meth := meth) (locs := locs) (cells := kc) (slots := ks) (R := R) (H := H) (b := qa z ex q) (As := As.map (qv z ex)) (rest := st.map (qv z ex)) (g := F0 m pc ls ((As.reverse ++ .ref q :: st).map (qv z ex))) ⟨C.1, C.2.1, C.2.2.1, C.2.2.2.1, C.2.2.2.2.1⟩ (hsp z ex D D3) ⟨callB_of na C.2.2.2.2.1 (qg_all (fun w hw => by
      rcases List.mem_cons.mp hw with rfl | h
      · exact l3
      · exact h)) rfl rfl rfl (C.2.2.2.2.1 _ l2) (C.2.2.2.2.1 _ l1) ⟨l4, l5, l6⟩ (by rw [hR]; exact ⟨hdep, by show 8 + (nL + 11) + (34 * d + 12) ≤ 34 * kd K + 12; omega⟩), hnm, C.2.2.2.2.1 _ hi⟩
    ⟨q_blind, q_pre C hP hS (fun h => q_size C hP hS hT X9 (hx h))⟩ rfl (by rw [List.length_map]; exact hn) hl.1 hstk (lv_room (by rw [q_cat]; exact hrm)) hd (by rw [hR]; exact ⟨hkc, hks⟩)
  refine q_cont hr hS (fun v n' f' H1 locs1 hE1 hP1 hS1 => ?_) T hT X9
  have h9 := k v n' f' hE1 p e R s m args below meth c H1 locs1 ls Q z ex D D3 C hP1 hS1 hl hE
  rw [List.map_append] at h9
  have h8 : (v.map (qv z ex)).toList = v.toList.map (qv z ex) := by cases v <;> rfl
  rw [h8]
  exact h9
theorem qr_callIN {host : String} (hd : decode (kcc K) pc = .ok (.invokespecial idx, 3)) (hL : qLn (kown K) idx y host cc nL none na) (hi : Cond.instanceMethod y ∈ qg) (hnm : y.name = "<init>")
    (hsp : qSp (kl K) y cc nL none x d mc ms (.ref q :: As) n f E') (hn : As.length = na) (hstk : stk = As.reverse ++ .ref q :: st) (hrm : (st.map fun v => v.category).sum ≤ 8) (hdep : d + 1 ≤ kd K) (hloc : 19 + nL + 34 * d ≤ 34 * kd K) (hkc : kc + mc ≤ kmc K) (hks : ks + ms ≤ kms K) (hx : x = true → kx K = true ∧ n = kn K + kc ∧ (kc = 0 ∨ n ≤ 77))
    (k : ∀ (v : Option Value) (n' : Nat) (f' : Nat → va_E), E' v n' f' → qR K E X (pc + 3) lv (v.toList ++ st) n' (kc + mc) (ks + ms) f') : qR K E X pc lv stk n kc ks f := by
  intro p e R s m args below meth c H locs ls Q z ex D D3 C hP hS hl hE
  subst hstk
  intro T hT X9
  obtain ⟨l1, l2, l3, l4, l5, l6⟩ := hL
  have hR : R = qrm (kd K) (kmc K) (kms K) := C.2.2.2.2.2.2.2.2.1
  have hstk : (As.reverse ++ .ref q :: st).map (qv z ex) = (As.map (qv z ex)).reverse ++ .ref (qa z ex q) :: st.map (qv z ex) := by
    rw [List.map_append, List.map_reverse]
    rfl
  have hr := va_runIN (l := kl K) (e := e) (below := below) (meth := meth) (locs := locs) (cells := kc) (slots := ks) (R := R) (H := H) (b := qa z ex q) (As := As.map (qv z ex)) (rest := st.map (qv z ex)) (g := F0 m pc ls ((As.reverse ++ .ref q :: st).map (qv z ex))) ⟨C.1, C.2.1, C.2.2.1, C.2.2.2.1, C.2.2.2.2.1⟩ (hsp z ex D D3) ⟨va_cnB na C.2.2.2.2.1 (qg_all (fun w hw => by
      rcases List.mem_cons.mp hw with rfl | h
      · exact l3
      · exact h)) rfl rfl rfl (C.2.2.2.2.2.2.2.1.2.1 _ l1) (C.2.2.2.2.1 _ l2) ⟨l4, l5, l6⟩ (by rw [hR]; exact ⟨hdep, by show 8 + (nL + 11) + (34 * d + 12) ≤ 34 * kd K + 12; omega⟩), hnm, C.2.2.2.2.1 _ hi⟩
    ⟨q_blind, q_pre C hP hS (fun h => q_size C hP hS hT X9 (hx h))⟩ rfl (by rw [List.length_map]; exact hn) hl.1 hstk (lv_room (by rw [q_cat]; exact hrm)) hd (by rw [hR]; exact ⟨hkc, hks⟩)
  refine q_cont hr hS (fun v n' f' H1 locs1 hE1 hP1 hS1 => ?_) T hT X9
  have h9 := k v n' f' hE1 p e R s m args below meth c H1 locs1 ls Q z ex D D3 C hP1 hS1 hl hE
  rw [List.map_append] at h9
  have h8 : (v.map (qv z ex)).toList = v.toList.map (qv z ex) := by cases v <;> rfl
  rw [h8]
  exact h9
/-- a fresh object: all fields as they begin -/
theorem qr_new {ci N : Nat} {T9 : u_T} {Cn : String} {ty9 : Nat → FieldType} {fs : List Value} (hd : decode (kcc K) pc = .ok (.new idx, 3)) (hc : qC[ci]? = some (Cn, T9, N)) (hin : ∀ w ∈ u_ws Cn T9 N, w ∈ qg) (hty : ∀ k, k < N → parseFieldDescriptor (T9 k).2.2.1 = some (ty9 k)) (h1 : Cond.classLink (kown K) idx Cn ∈ qg) (h2 : Cond.instantiable Cn N ∈ qg) (h3 : Cond.initialized Cn ∈ qg)
    (hfs : ∀ j, j < N → defaultValue (ty9 j) = vp_V fs j) (hfr : ∀ v ∈ fs, ∀ z ex, qv z ex v = v) (hx : kx K = true ∧ n = kn K + kc) (hn5 : n < 77) (hkc : kc + 1 ≤ kmc K) (hks : ks + N ≤ kms K) (k : qR K E X (pc + 3) lv (.ref n :: st) (n + 1) (kc + 1) (ks + N) (va_up f n (.inr (ci, fs)))) : qR K E X pc lv st n kc ks f := by
  intro p e R s m args below meth c H locs ls Q z ex D D3 C hP hS hl hE
  intro T hT X9
  have hR : R = qrm (kd K) (kmc K) (kms K) := C.2.2.2.2.2.2.2.2.1
  have hsz := (q_size C hP hS hT X9 ⟨hx.1, hx.2, Or.inr (by omega)⟩).1
  have hKn := C.2.2.2.2.2.2.1.1 ci _ hc
  refine W.newcK (p := p) (l := kl K) (e := e) (R := R) (s := s) (m := m) (args := args) (below := below) (meth := meth) (c := c) (H := H) (locs := locs) (cells := kc) (slots := ks) (g := F0 m pc ls (st.map (qv z ex))) C.1 C.2.1 C.2.2.2.1 (C.2.2.2.2.1 _ h1) (C.2.2.2.2.1 _ h2) (C.2.2.2.2.1 _ h3) rfl hd (by rw [hR]; exact hkc) (by rw [hR]; exact hks) hKn.2.1 hsz (fun H1 kC hkC e1 z1 o1 => ?_) T hT X9
  have hfs2 : fs.map (qv z ex) = fs := by
    conv => rhs; rw [← List.map_id fs]
    exact List.map_congr_left (fun v hv => hfr v hv z ex)
  have hP1 : va_P D qC (qw z ex D3 (n + 1) (va_up f n (.inr (ci, fs)))) H1 := by
    rw [← qw_push hn5]
    refine (hP.kept (fun k x hx => o1 x.1 (by rw [← hsz]; exact (hP k x hx).lt))).app (fun k x hx => ?_)
    have hz : k < 1 := (List.getElem?_eq_some_iff.mp hx).1
    rw [show k = 0 by omega] at hx
    cases hx
    show va_at D qC (z + n, .inr (ci, fs.map (qv z ex))) H1
    rw [hfs2]
    exact ⟨_, hc, (u_born ty9 C.2.2.2.2.1 hin hKn hkC e1 hty).to hfs⟩
  have hS1 : va_S (qA z) s.heap H1 locs := ⟨Nat.le_trans hS.1 (by rw [z1, hsz]; omega), fun q h1 h2 => (o1 q (by have := hS.1; omega)).trans (hS.2.1 q h1 h2), hS.2.2⟩
  have h9 := k p e R s m args below meth c H1 locs ls Q z ex D D3 C hP1 hS1 hl hE
  have h8 : (Value.ref n :: st).map (qv z ex) = .ref (z + n) :: st.map (qv z ex) := by
    show Value.ref (qa z ex n) :: _ = _
    rw [qa_lt hn5]
  rw [h8] at h9
  exact h9
/-- a fresh array of numbers -/
theorem qr_newa {t len : Nat} {at9 : ArrayType} {ty9 : FieldType} {i : Int32} {a : vp_A} (hd : decode (kcc K) pc = .ok (.newarray at9, 2)) (hty : newarray.typeOf at9 = ty9) (ht : qT[t]? = some ty9) (h1 : Cond.arrayClass ty9 ∈ qg) (hi : ¬ i < 0) (hlen : i.toNatClampNeg = len) (hb9 : len * componentBytes ty9 ≤ 536870912) (hpr : ∀ Cn, ty9 ≠ .object Cn) (ha : ∀ cA : ClassId, vp_cell cA a = arrV cA len (fun _ => defaultValue ty9)) (har : ∀ z ex, qarr z ex a = a)
    (hx : kx K = true ∧ n = kn K + kc) (hn5 : n < 77) (hkc : kc + 1 ≤ kmc K) (hks : ks + len ≤ kms K) (k : qR K E X (pc + 2) lv (.ref n :: st) (n + 1) (kc + 1) (ks + len) (va_up f n (.inl (t, a)))) : qR K E X pc lv (.int i :: st) n kc ks f := by
  intro p e R s m args below meth c H locs ls Q z ex D D3 C hP hS hl hE
  intro T hT X9
  subst hty
  have hR : R = qrm (kd K) (kmc K) (kms K) := C.2.2.2.2.2.2.2.2.1
  have hsz := (q_size C hP hS hT X9 ⟨hx.1, hx.2, Or.inr (by omega)⟩).1
  refine va_newaK (p := p) (l := kl K) (e := e) (R := R) (s := s) (m := m) (args := args) (below := below) (meth := meth) (c := c) (H := H) (locs := locs) (cells := kc) (slots := ks) (g := F0 m pc ls (.int i :: st.map (qv z ex))) (rest := st.map (qv z ex)) C.1 C.2.1 (C.2.2.2.2.1 _ h1) rfl hd rfl hi hlen hb9 (by rw [hR]; exact hkc) (by rw [hR]; exact hks) hsz (fun H1 cA e1 z1 o1 hAr hNm => ?_) T hT X9
  have hcA : cA = D3 t := by
    have h2 := (C.2.2.2.2.2.2.1.2 t _ (qtys_at ht)).2
    have h3 : s.vm.findClass ("[" ++ (newarray.typeOf at9).toString) = some (D3 t) := by cases at9 <;> exact h2
    exact Option.some.inj (hNm.symm.trans h3)
  subst hcA
  have hP1 : va_P D qC (qw z ex D3 (n + 1) (va_up f n (.inl (t, a)))) H1 := by
    rw [← qw_push hn5]
    refine (hP.kept (fun k x hx => o1 x.1 (by rw [← hsz]; exact (hP k x hx).lt))).app (fun k x hx => ?_)
    have hz : k < 1 := (List.getElem?_eq_some_iff.mp hx).1
    rw [show k = 0 by omega] at hx
    cases hx
    show H1[z + n]? = some (vp_cell (D3 t) (qarr z ex a))
    rw [har, ha]
    exact e1
  have hS1 : va_S (qA z) s.heap H1 locs := ⟨Nat.le_trans hS.1 (by rw [z1, hsz]; omega), fun q h1 h2 => (o1 q (by have := hS.1; omega)).trans (hS.2.1 q h1 h2), hS.2.2⟩
  have h9 := k p e R s m args below meth c H1 locs ls Q z ex D D3 C hP1 hS1 hl hE
  have h8 : (Value.ref n :: st).map (qv z ex) = .ref (z + n) :: st.map (qv z ex) := by
    show Value.ref (qa z ex n) :: _ = _
    rw [qa_lt hn5]
  rw [h8] at h9
  exact h9
/-- a fresh array of references -/
theorem qr_anew {t len : Nat} {Cn : String} {i : Int32} (hd : decode (kcc K) pc = .ok (.anewarray idx, 3)) (ht : qT[t]? = some (.object Cn)) (h1 : Cond.classLink (kown K) idx Cn ∈ qg) (h2 : Cond.arrayOver (.object Cn) ∈ qAo) (hi : ¬ i < 0) (hlen : i.toNatClampNeg = len) (hb9 : len * 4 ≤ 536870912)
    (hx : kx K = true ∧ n = kn K + kc) (hn5 : n < 77) (hkc : kc + 1 ≤ kmc K) (hks : ks + len ≤ kms K) (k : qR K E X (pc + 3) lv (.ref n :: st) (n + 1) (kc + 1) (ks + len) (va_up f n (.inl (t, len, .inr (.inr (.inr (.inr (fun _ => none)))))))) : qR K E X pc lv (.int i :: st) n kc ks f := by
  intro p e R s m args below meth c H locs ls Q z ex D D3 C hP hS hl hE
  intro T hT X9
  subst hlen
  have hR : R = qrm (kd K) (kmc K) (kms K) := C.2.2.2.2.2.2.2.2.1
  have hsz := (q_size C hP hS hT X9 ⟨hx.1, hx.2, Or.inr (by omega)⟩).1
  refine W.anew (p := p) (l := kl K) (e := e) (R := R) (s := s) (m := m) (args := args) (below := below) (meth := meth) (c := c) (H := H) (locs := locs) (cells := kc) (slots := ks) (g := F0 m pc ls (.int i :: st.map (qv z ex))) (rest := st.map (qv z ex)) C.1 C.2.1 C.2.2.2.1 (C.2.2.2.2.1 _ h1) (va_AO.use (C.2.2.2.2.2.2.2.1.2.2.1 Cn h2)) rfl hd rfl hi hb9 (by rw [hR]; exact hkc) (by rw [hR]; exact hks) (fun cA kA comp f1 f2 f3 f4 => ?_) T hT X9
  have hcA : cA = D3 t := by
    obtain ⟨kA2, comp2, g1, g2, g3, g4⟩ := (C.2.2.2.2.2.2.1.2 t _ (qtys_at ht)).2
    exact Option.some.inj (f1.symm.trans g4)
  subst hcA
  generalize hH1 : H.push ({ cls := D3 t, slots := Array.replicate i.toNatClampNeg .null, vm := .none } : Cell) = H1
  have z1 : H1.size = H.size + 1 := by rw [← hH1, Array.size_push]
  have e1 : H1[H.size]? = some (arrV (D3 t) i.toNatClampNeg (fun _ => .null)) := by rw [← hH1, Array.getElem?_push_size, ← arrV_new]
  have o1 : ∀ q : Nat, q < H.size → H1[q]? = H[q]? := fun q hq => by rw [← hH1, Array.getElem?_push, if_neg (Nat.ne_of_lt hq)]
  have hP1 : va_P D qC (qw z ex D3 (n + 1) (va_up f n (.inl (t, i.toNatClampNeg, .inr (.inr (.inr (.inr (fun _ => none)))))))) H1 := by
    rw [← qw_push hn5]
    refine (hP.kept (fun k x hx => o1 x.1 ((hP k x hx).lt))).app (fun k x hx => ?_)
    have hz : k < 1 := (List.getElem?_eq_some_iff.mp hx).1
    rw [show k = 0 by omega] at hx
    cases hx
    show H1[z + n]? = some (vp_cell (D3 t) (i.toNatClampNeg, .inr (.inr (.inr (.inr (fun _ => none))))))
    rw [← hsz, vp_cell_q]
    exact e1
  have hS1 : va_S (qA z) s.heap H1 locs := ⟨Nat.le_trans hS.1 (by rw [z1]; omega), fun q h1 h2 => (o1 q (by have := hS.1; omega)).trans (hS.2.1 q h1 h2), hS.2.2⟩
  have h9 := k p e R s m args below meth c H1 locs ls Q z ex D D3 C hP1 hS1 hl hE
  have h8 : (Value.ref n :: st).map (qv z ex) = .ref (z + n) :: st.map (qv z ex) := by
    show Value.ref (qa z ex n) :: _ = _
    rw [qa_lt hn5]
  rw [h8] at h9
  rw [← hsz] at h9
  exact h9
/-- an object is laid into a row of its class -/
theorem qr_aast {q len t w ci N : Nat} {i : Int32} {Cn : String} {T9 : u_T} {fs : List Value} {g : Nat → Option Nat} (hd : decode (kcc K) pc = .ok (.aastore, 1)) (hq : q < n) (hq5 : q < 77) (hf : f q = .inl (t, len, .inr (.inr (.inr (.inr g))))) (ht : qT[t]? = some (.object Cn)) (hw : w < n) (hw5 : w < 77) (hfw : f w = .inr (ci, fs)) (hc : qC[ci]? = some (Cn, T9, N)) (hi : vp_in i len) (hf' : va_up f q (.inl (t, len, .inr (.inr (.inr (.inr (va_up g i.toNatClampNeg (some w))))))) = f') (k : qR K E X (pc + 1) lv st n kc ks f') : qR K E X pc lv (.ref w :: .int i :: .ref q :: st) n kc ks f := by
  intro p e R s m args below meth c H locs ls Q z ex D D3 C hP hS hl hE
  show W _ _ _ _ _ _ _ _ _ _ _ _ _ _ _ (F0 m pc ls (.ref (qa z ex w) :: .int i :: .ref (qa z ex q) :: st.map (qv z ex)))
  rw [qa_lt hq5, qa_lt hw5]
  refine va_astq (r := (Cn, T9, N)) C.1 C.2.1 C.2.2.2.2.2.2.1 hP (qw_D z ex D3 n f) hS q t w ci (qe_arr hq hq5 hf) (qtys_at ht) (qe_obj hw hw5 hfw) hc hi hd (fun H1 locs1 hP1 hD1 hS1 => ?_)
  have e1 : (Sum.inl (D3 t, len, .inr (.inr (.inr (.inr (va_up (fun j => (g j).map (qa z ex)) i.toNatClampNeg (some (z + w))))))) : va_E) = qe z ex D3 (.inl (t, len, .inr (.inr (.inr (.inr (va_up g i.toNatClampNeg (some w))))))) := by
    show (Sum.inl (D3 t, len, .inr (.inr (.inr (.inr (va_up (fun j => (g j).map (qa z ex)) i.toNatClampNeg (some (z + w))))))) : va_E) = .inl (D3 t, len, .inr (.inr (.inr (.inr fun j => (va_up g i.toNatClampNeg (some w) j).map (qa z ex)))))
    congr 7
    funext j
    by_cases hj : j = i.toNatClampNeg
    · simp [va_up, hj, qa_lt hw5]
    · simp [va_up, hj]
  have hP2 : va_P D qC ((qw z ex D3 n f).set q (z + q, .inl (D3 t, len, .inr (.inr (.inr (.inr (va_up (fun j => (g j).map (qa z ex)) i.toNatClampNeg (some (z + w))))))))) H1 := hP1
  rw [e1, qw_set, hf'] at hP2
  exact k p e R s m args below meth c H1 locs1 ls Q z ex D D3 C hP2 hS1 hl hE
end QD
