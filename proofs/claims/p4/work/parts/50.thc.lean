/-! methods with a table of handlers (the law's): contract, calls; the law's script -/
abbrev qTb (c : Code) : List (Nat × Nat × Nat × Nat) := c.exceptionTable.toList.map fun h => (h.startPc, h.endPc, h.handlerPc, h.catchType)
/-- a method with the table hh that returns -/
def qSpW (l : Launch) (y : MethodName) (cc : ByteArray) (nL : Nat) (ret : Option FieldType) (hh : List (Nat × Nat × Nat × Nat)) (d mc ms : Nat) (As : List Value) (n : Nat) (f : Nat → va_E) (E : qE) : Prop :=
  ∀ (z : Nat) (ex : Nat → Nat) (D : va_G) (D3 : Nat → ClassId), Met l y (Cond.codeWith y cc nL ret hh :: qg) (qrm d mc ms) (va_Pc (As.map (qv z ex)) (qW z ex D D3 false n f)) (qO z ex D D3 E) mc ms (qA z)
theorem qSpW_of {l : Launch} {y : MethodName} {cc : ByteArray} {nL : Nat} {ret : Option FieldType} {hh : List (Nat × Nat × Nat × Nat)} {d mc ms n : Nat} {As : List Value} {f : Nat → va_E} {E : qE} (hy : plainName y.cls = true) (hlen : (lg_sl As).length ≤ nL)
    (k : qR (l, y.cls, cc, nL, ret, false, false, d, mc, ms, n, fun _ _ _ c => qTb c = hh) E (fun _ _ _ => False) 0 (lv_args 0 As) [] n 0 0 f) : qSpW l y cc nL ret hh d mc ms As n f E := by
  intro z ex D D3
  refine va_MetW (cc := cc) (maxL := nL) (ret := ret) (hh := hh) hy rfl ?_
  intro p e s m args below meth c s₁ B hml hv
  obtain ⟨rfl, hP, hK, hx, hX⟩ := hv
  have hts := atoms_spec (ws := Cond.codeWith y cc nL ret hh :: qg) B.pre
  have hown : s.vm.findClass y.cls = some m.cls := findClass_of_methodNamed B.named
  have hl := lv_entry (As.map (qv z ex)) (n := nL) (by rw [q_sl]; exact hlen)
  rw [lg_entry_eq]
  generalize (lg_sl (As.map (qv z ex)) ++ List.replicate (nL - (lg_sl (As.map (qv z ex))).length) Slot.unset).toArray = ls at hl ⊢
  rw [q_args] at hl
  obtain ⟨m9, meth', c', e0, e1, e2, -, -, e3, -⟩ := Cond.codeWith_spec (hts _ List.mem_cons_self)
  cases B.named.symm.trans e0
  cases B.method.symm.trans e1
  have hcode : meth.code = some c := (Stand.of_body B).code
  cases hcode.symm.trans e2
  exact k p e _ s m _ below meth c s.heap [] ls _ z ex D D3 ⟨B.exec, B.bytes, hml, hown, fun w h => hts w (List.mem_cons_of_mem _ h), (fun h => nomatch h), hK, hX, rfl, hx, e3⟩ hP va_S.rf hl (q_ends B.exec B.bytes B.returns B.notSynchronized)
/-- the handler at hpc lays the exception aside and answers r -/
def qHd (cc : ByteArray) (nL hpc : Nat) (r : Int) : Prop :=
  (∃ j : Fin 4, decode cc hpc = .ok (.astore_n j, 1) ∧ (j : Nat) < nL ∧ decode cc (hpc + 1) = .ok (.iconst r, 1) ∧ decode cc (hpc + 1 + 1) = .ok (.ireturn, 1)) ∨
  ∃ j : Nat, decode cc hpc = .ok (.astore j, 2) ∧ j < nL ∧ decode cc (hpc + 2) = .ok (.iconst r, 1) ∧ decode cc (hpc + 2 + 1) = .ok (.ireturn, 1)
section TD
variable {K : qK} {E E' : qE} {X X' : qXC} {pc : Nat} {lv : List (Nat × Value)} {st stk : List Value} {n kc ks : Nat} {f f' : Nat → va_E}
variable {y : MethodName} {cc : ByteArray} {nL : Nat} {ret : Option FieldType} {d mc ms na idx q : Nat} {As : List Value}
/-- the call of a method that may throw, where all that it throws is caught here -/
theorem qr_callVT {ci N : Nat} {T9 : u_T} {fs : List Value} {hh : List (Nat × Nat × Nat × Nat)} (hK : ∀ z ex s c, kP K z ex s c → qTb c = hh) (hret : kret K = some .int) (hd : decode (kcc K) pc = .ok (.invokevirtual idx, 3)) (hL : qLk (kown K) idx y cc nL ret na) (hi : Cond.instanceMethod y ∈ qg) (hs : Cond.selects y.cls y y ∈ qg) (hc : qC[ci]? = some (y.cls, T9, N)) (hq : q < n) (hq5 : q < 77) (hf : f q = .inr (ci, fs))
    (hsp : qSp2 (kl K) y cc nL ret d mc ms (.ref q :: As) n f E' X') (hn : As.length = na) (hstk : stk = As.reverse ++ .ref q :: st) (hrm : (st.map fun v => v.category).sum ≤ 8) (hdep : d + 1 ≤ kd K) (hloc : 19 + nL + 34 * d ≤ 34 * kd K) (hkc : kc + mc ≤ kmc K) (hks : ks + ms ≤ kms K)
    (k : ∀ (v : Option Value) (n' : Nat) (f' : Nat → va_E), E' v n' f' → qR K E X (pc + 3) lv (v.toList ++ st) n' (kc + mc) (ks + ms) f')
    (kt : ∀ (En : String) (n' : Nat) (f' : Nat → va_E), X' En n' f' → ∃ (hpc : Nat) (r : Int), qRows (kown K) En pc hpc hh ∧ Cond.instantiable En 6 ∈ qg ∧ qHd (kcc K) (knL K) hpc r ∧ E (some (.int (Int32.ofInt r))) n' f') : qR K E X pc lv stk n kc ks f := by
  intro p e R s m args below meth c H locs ls Q z ex D D3 C hP hS hl hE
  subst hstk
  intro T hT X9
  obtain ⟨l1, l2, l3, l4, l5, l6⟩ := hL
  have hR : R = qrm (kd K) (kmc K) (kms K) := C.2.2.2.2.2.2.2.2.1
  have hw := C.2.2.2.2.1
  have hstk : (As.reverse ++ .ref q :: st).map (qv z ex) = (As.map (qv z ex)).reverse ++ .ref (z + q) :: st.map (qv z ex) := by
    rw [List.map_append, List.map_reverse, List.map_cons]
    show _ ++ Value.ref (qa z ex q) :: _ = _
    rw [qa_lt hq5]
  obtain ⟨mk, methM, hnamed, hmethM, hstM, habM⟩ := Cond.instanceMethod_spec (hw _ hi)
  obtain ⟨methM', cM, hmethM', hcM, -, hlM, -, -, -, hsigM⟩ := Cond.code_spec hnamed (hw _ l3)
  cases hmethM.symm.trans hmethM'
  obtain ⟨c2, r2, m2, q1, q2, q3, q4, kP9, hkP, hkPi⟩ := Cond.selects_spec (hw _ hs)
  obtain ⟨cellB, hcB, hoB, hclB⟩ := va_recv C.2.2.2.2.2.2.1 hP hc (qe_obj hq hq5 hf)
  cases hclB.symm.trans q1
  cases (State.methodFound?_of_named hnamed ⟨l4, l5⟩).symm.trans q2
  cases hnamed.symm.trans q3
  have hselP : selectMethod e.platform s.vm cellB.cls mk = .method mk := by rw [Launch.admits_selectMethod X9.admits]; exact q4
  have hlen : (As.map (qv z ex)).length = methM.sig.parameters.length := by
    rw [hsigM] at l6
    rw [List.length_map, hn]
    exact (Option.some.inj l6).symm
  obtain ⟨vm₁, X₁, hstep₁⟩ := X9.invokevirtual C.1 C.2.2.2.1 (hw _ l1) hnamed hmethM hstM hkP hkPi ⟨l4, l5⟩ (a := z + q) (cell := cellB) (by rw [hT]; exact hcB) (fun k h => by rw [h] at hoB; cases hoB) hselP hmethM habM hkP hkPi
    (g := F0 m pc ls ((As.reverse ++ .ref q :: st).map (qv z ex))) rfl (argsL := As.map (qv z ex)) (rest := st.map (qv z ex)) hlen hstk (by rw [C.2.1]; exact hd)
  have hinit : kP9.init = .initialized := Cond.initialized_spec (findClass_of_methodNamed hnamed) hkP (hw _ l2)
  obtain ⟨k1, hk1, he1⟩ := X₁.warmed.alike.2.2 _ _ hkP
  have hargs : (Value.ref (z + q) :: As.map (qv z ex)) = (.ref q :: As).map (qv z ex) := by
    rw [List.map_cons]
    show _ = Value.ref (qa z ex q) :: _
    rw [qa_lt hq5]
  obtain ⟨o, t, T', L, X', hL9, e1, e2, ⟨hq2, hz, hk⟩, hst⟩ := q_callFree X₁ (hsp z ex D D3) (g := F0 m pc ls (st.map (qv z ex))) (ig := .invokevirtual idx) (len := 3) (mk := mk) (a := (Value.ref (z + q) :: As.map (qv z ex)).toArray) (maxL := nL) rfl (hl.1.trans C.2.2.1.symm) (by rw [C.2.1]; exact hd) (lv_room (by rw [q_cat]; exact hrm)) (X₁.named hnamed) (by rw [X₁.warmed.alike.method?]; exact hmethM) hcM hlM hk1 (by rw [he1]; exact hinit) rfl rfl (by rw [hR]; exact hdep) (by rw [hR]; show 8 + (nL + 11) + (34 * d + 12) ≤ 34 * kd K + 12; omega) (by rw [hR]; exact hkc) (by rw [hR]; exact hks)
    (fun w hw9 => by
      rcases List.mem_cons.mp hw9 with rfl | h
      · exact word_at X₁.warmed (good_of_word (qg_good _ l3)) (hw _ l3)
      · exact word_at X₁.warmed (good_of_word (qg_good _ h)) (hw _ h)) (by
      rw [hargs]
      exact q_blind (x := false) _ _ _ _ (q_pre (x := false) C hP hS (fun h => nomatch h) (T.setVm vm₁) hT X₁.warmed))
  have hS1 : va_S (qA z) s.heap T'.heap (locs ++ L) := ⟨Nat.le_trans hS.1 (by rw [e1, ← hT]; exact hz), fun q h1 h2 => by
      rw [e1, hk q (by show q < T.heap.size; rw [hT]; exact Nat.lt_of_lt_of_le h1 hS.1) h2]
      show T.heap[q]? = _
      rw [hT]
      exact hS.2.1 q h1 h2, fun q hq => by
      rcases List.mem_append.mp hq with h | h
      · exact hS.2.2 q h
      · exact hL9 q h⟩
  rcases hq2 with ⟨v, n', f', rfl, hE1, hP1⟩ | ⟨a, En, n', f', rfl, hX1, hP1, ce, hce, hcs, hcf⟩
  · rcases hst with ⟨v2, hv2, hst⟩ | ⟨x2, hx2, -⟩
    · cases hv2
      have h9 := k v n' f' hE1 p e R s m args below meth c T'.heap (locs ++ L) ls Q z ex D D3 C (by rw [e1]; exact hP1) hS1 hl hE
      rw [List.map_append] at h9
      have h8 : (v.map (qv z ex)).toList = v.toList.map (qv z ex) := by cases v <;> rfl
      rw [← h8] at h9
      obtain ⟨t2, a1, b1⟩ := h9 T' rfl X'
      exact ⟨t2, hstep₁ _ fun acts => by rw [doInvoke_state]; exact hst.trans a1, b1⟩
    · cases hx2
  · rcases hst with ⟨v2, hv2, -⟩ | ⟨x2, hx2, hst⟩
    · cases hv2
    · cases hx2
      obtain ⟨hpc, r, h1, h2, h3, h4⟩ := kt En n' f' hX1
      obtain ⟨vm', X2, hcat⟩ := q_caught (z := z) (ex := ex) (own := kown K) (En := En) (g := F0 m pc ls (st.map (qv z ex))) (a := a) (cell := ce) (hpc := hpc) X' rfl C.2.2.2.1 hw C.2.2.2.2.2.2.2.1 (by rw [e1]; exact hce) hcs (by
        have h5 : (T.setVm vm₁).vm.findClass En = some ce.cls := hcf
        rw [X₁.warmed.alike.findClass] at h5
        exact h5) (hw _ h2) (by
        have h6 := hK z ex s c C.2.2.2.2.2.2.2.2.2.2
        show qRows _ _ _ _ (qTb c)
        rw [h6]
        exact h1)
      have hfin : W p (kl K) e R s m args below meth c T'.heap (locs ++ L) (kc + mc) (ks + ms) Q (F0 m hpc ls [.ref a]) := by
        have hl0 : lv_has ls (knL K) [] := ⟨hl.1, hl.2.1, fun q hq => by cases hq⟩
        rcases h3 with ⟨j, g1, g2, g3, g4⟩ | ⟨j, g1, g2, g3, g4⟩
        · refine lv_astore_n C.1 C.2.1 g1 rfl hl0 g2 rfl (fun ls' hl' => ?_)
          refine lv_iconst C.1 C.2.1 g3 rfl ?_
          exact hE.1 (some (.int (Int32.ofInt r))) n' (kc + mc) (ks + ms) f' T'.heap (locs ++ L) _ ls' h4 hkc hks (by rw [e1]; exact hP1) hS1 ⟨⟨.int, hret, rfl⟩, g4⟩
        · refine lv_astore C.1 C.2.1 g1 hl0 g2 rfl (fun ls' hl' => ?_)
          refine lv_iconst C.1 C.2.1 g3 rfl ?_
          exact hE.1 (some (.int (Int32.ofInt r))) n' (kc + mc) (ks + ms) f' T'.heap (locs ++ L) _ ls' h4 hkc hks (by rw [e1]; exact hP1) hS1 ⟨⟨.int, hret, rfl⟩, g4⟩
      obtain ⟨t2, a1, b1⟩ := hfin (T'.setVm vm') rfl X2
      exact ⟨t2, hstep₁ _ fun acts => by rw [doInvoke_state]; exact hst.trans (hcat _ a1), b1⟩
/-- the call of a static method with a table -/
theorem qr_callSW {hh : List (Nat × Nat × Nat × Nat)} (hd : decode (kcc K) pc = .ok (.invokestatic idx, 3)) (l1 : Cond.methodLink (kown K) idx y ∈ qg) (l2 : Cond.initialized y.cls ∈ qg) (l3 : Cond.codeWith y cc nL ret hh ∈ qg) (l4 : y.cls ≠ "java/lang/invoke/MethodHandle" ∧ y.cls ≠ "java/lang/invoke/VarHandle") (l6 : (parseMethodDescriptor y.desc).map (fun d => d.parameters.length) = some na) (hst : Cond.static y ∈ qg)
    (hsp : qSpW (kl K) y cc nL ret hh d mc ms As n f E') (hn : As.length = na) (hstk : stk = As.reverse ++ st) (hrm : (st.map fun v => v.category).sum ≤ 8) (hdep : d + 1 ≤ kd K) (hloc : 19 + nL + 34 * d ≤ 34 * kd K) (hkc : kc + mc ≤ kmc K) (hks : ks + ms ≤ kms K)
    (k : ∀ (v : Option Value) (n' : Nat) (f' : Nat → va_E), E' v n' f' → qR K E X (pc + 3) lv (v.toList ++ st) n' (kc + mc) (ks + ms) f') : qR K E X pc lv stk n kc ks f := by
  intro p e R s m args below meth c H locs ls Q z ex D D3 C hP hS hl hE
  subst hstk
  have hR : R = qrm (kd K) (kmc K) (kms K) := C.2.2.2.2.2.2.2.2.1
  have hw := C.2.2.2.2.1
  have hstk : (As.reverse ++ st).map (qv z ex) = (As.map (qv z ex)).reverse ++ st.map (qv z ex) := by
    rw [List.map_append, List.map_reverse]
  obtain ⟨mk, methM, cM, hnamed, hmethM, hcM, -, hlM, -, -, -, hsigM⟩ := Cond.codeWith_spec (hw _ l3)
  have hstat : methM.isStatic = true := Cond.static_spec hnamed hmethM (hw _ hst)
  obtain ⟨kP9, hkP, -⟩ := className_of_methodNamed hnamed
  have hinit : kP9.init = .initialized := Cond.initialized_spec (findClass_of_methodNamed hnamed) hkP (hw _ l2)
  have hlen : (As.map (qv z ex)).length = methM.sig.parameters.length := by
    rw [hsigM] at l6
    rw [List.length_map, hn]
    exact (Option.some.inj l6).symm
  have hB : Back (kl K) R p e below s args y 3 8 (PreOf R mc ms (va_Pc (As.map (qv z ex)) (qW z ex D D3 false n f))) (PostOf (qO z ex D D3 E') mc ms (qA z)) := va_backW (hh := hh) (bytes := cc) (maxL := nL) (ret := ret) (hsp z ex D D3) q_blind rfl rfl (by rw [hR]; exact hdep) (by rw [hR]; show 8 + (nL + 11) + (34 * d + 12) ≤ 34 * kd K + 12; omega)
    (fun w hw9 a' U hU => by
      rcases List.mem_cons.mp hw9 with rfl | h
      · exact word_at hU (good_of_word (qg_good _ l3)) (hw _ l3)
      · exact word_at hU (good_of_word (qg_good _ h)) (hw _ h)) List.mem_cons_self (fun a' U hU => word_at hU (good_of_word (qg_good _ l2)) (hw _ l2))
  have hr : va_Run p (kl K) e R s m args below meth c H locs kc ks mc ms (F0 m pc ls ((As.reverse ++ st).map (qv z ex))) (st.map (qv z ex)) (qO z ex D D3 E' (As.map (qv z ex)).toArray) (qA z) := by
    intro T hT X9
    obtain ⟨vm₁, X₁, hstep₁⟩ := X9.invokestatic C.1 C.2.2.2.1 (hw _ l1) hnamed hmethM hstat hkP hinit l4 (g := F0 m pc ls ((As.reverse ++ st).map (qv z ex))) rfl (argsL := As.map (qv z ex)) (rest := st.map (qv z ex)) hlen hstk (by rw [C.2.1]; exact hd)
    obtain ⟨v, ⟨U', l2', c2', s2'⟩, X', ⟨g', mk', t, L, e1, e2, hq, h1, hL, h2, h3⟩, hsteps⟩ := hB m meth c ⟨T.setVm vm₁, locs, kc, ks⟩ (F0 m pc ls (st.map (qv z ex))) (.invokestatic idx) mk (As.map (qv z ex)).toArray X₁ rfl (hl.1.trans C.2.2.1.symm) (by rw [C.2.1]; exact hd) (lv_room (by rw [q_cat]; exact hrm)) (X₁.named hnamed) ⟨by rw [hR]; exact hkc, by rw [hR]; exact hks, q_pre C hP hS (x := false) (fun h => nomatch h) (T.setVm vm₁) hT X₁.warmed⟩
    dsimp only [Pt.U, Pt.locs, Pt.cells, Pt.slots] at X' e1 e2 h1 h2 h3 hsteps
    subst h1; subst h2; subst h3
    exact ⟨v, (T.setVm vm₁).calling g' mk' (As.map (qv z ex)).toArray, t, U', L, hT, X', hL, e1, e2, hq, fun target h => hstep₁ _ fun acts => by rw [doInvoke_state]; exact hsteps.trans h⟩
  refine q_cont hr hS (fun v n' f' H1 locs1 hE1 hP1 hS1 => ?_)
  have h9 := k v n' f' hE1 p e R s m args below meth c H1 locs1 ls Q z ex D D3 C hP1 hS1 hl hE
  rw [List.map_append] at h9
  have h8 : (v.map (qv z ex)).toList = v.toList.map (qv z ex) := by cases v <;> rfl
  rw [h8]
  exact h9
/-- the script: the cell 77 is given -/
def qScr (b L : Nat) (xs : Nat → Int32) : Nat → (Nat → Nat) → State → Code → Prop := fun z ex s _ => ex 77 = b ∧ va_X b L xs s s.heap ∧ b < z
theorem qr_slen {b L : Nat} {xs : Nat → Int32} {v : Int32} (hK : ∀ z ex s c, kP K z ex s c → qScr b L xs z ex s c) (hd : decode (kcc K) pc = .ok (.arraylength, 1)) (hv : Int32.ofNat L = v) (k : qR K E X (pc + 1) lv (.int v :: st) n kc ks f) : qR K E X pc lv (.ref 77 :: st) n kc ks f := by
  intro p e R s m args below meth c H locs ls Q z ex D D3 C hP hS hl hE
  obtain ⟨h1, ⟨scr, g1, g2, g3, g4, g5⟩, h3⟩ := hK z ex s c C.2.2.2.2.2.2.2.2.2.2
  show W _ _ _ _ _ _ _ _ _ _ _ _ _ _ _ (F0 m pc ls (.ref (ex 77) :: st.map (qv z ex)))
  rw [h1]
  exact W.alen C.1 C.2.1 (by rw [hS.2.1 b (Array.getElem?_eq_some_iff.mp g1).1 (fun h => absurd h.1 (by omega))]; exact g1) g2 (by rw [g4]; exact hv) rfl rfl hd (k p e R s m args below meth c H locs ls Q z ex D D3 C hP hS hl hE)
theorem qr_sld {b L : Nat} {xs : Nat → Int32} {i : Int32} (hK : ∀ z ex s c, kP K z ex s c → qScr b L xs z ex s c) (hd : decode (kcc K) pc = .ok (.iaload, 1)) (hi : vp_in i L) (k : qR K E X (pc + 1) lv (.int (xs i.toNatClampNeg) :: st) n kc ks f) : qR K E X pc lv (.int i :: .ref 77 :: st) n kc ks f := by
  intro p e R s m args below meth c H locs ls Q z ex D D3 C hP hS hl hE
  obtain ⟨h1, ⟨scr, g1, g2, g3, g4, g5⟩, h3⟩ := hK z ex s c C.2.2.2.2.2.2.2.2.2.2
  have hlt : i.toNatClampNeg < L := Nat.not_le.mp fun q => hi (Or.inr q)
  show W _ _ _ _ _ _ _ _ _ _ _ _ _ _ _ (F0 m pc ls (.int i :: .ref (ex 77) :: st.map (qv z ex)))
  rw [h1]
  exact W.iald (v := .int (xs i.toNatClampNeg)) C.1 C.2.1 (by rw [hS.2.1 b (Array.getElem?_eq_some_iff.mp g1).1 (fun h => absurd h.1 (by omega))]; exact g1) g2 g3 (by rw [g4]; exact hi) (g5 _ hlt) rfl rfl hd (k p e R s m args below meth c H locs ls Q z ex D D3 C hP hS hl hE)
end TD
