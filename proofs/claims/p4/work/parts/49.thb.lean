/-! throws at the machine's level: the end of a method that throws, its contract -/
section TH
variable {p : Program} {l : Launch} {e : Env} {R : Room} {s : State} {m : MethodId} {args : Array Value} {below : List Frame} {meth : Method} {c : Code} {T : State} {locs : List Loc} {cells slots : Nat}
/-- a walk, begun anew where it stands -/
theorem st_rebase (X : Stand p l e R s m args below meth c T locs cells slots) {R' : Room} (hf : R'.frames ≤ R.frames) (hl : R'.locals ≤ R.locals) (hc : cells + R'.cells ≤ R.cells) (hs : slots + R'.slots ≤ R.slots) :
    Stand p l e R' (T.setFrames s.frames) m args below meth c T [] 0 0 := by
  obtain ⟨g₀, hfr⟩ := X.frames_eq
  have hcur : T.cur < T.threads.size := State.cur_lt_of_frames hfr
  have hF : (T.setFrames s.frames).frames = .invoking m args :: below := by rw [State.frames_setFrames _ hcur, X.frames]
  have hme : e.platform.stackLimits (T.setFrames s.frames).me = e.platform.stackLimits T.me := State.stackLimits_setFrames ..
  have hby : (T.setFrames s.frames).me.stackBytes = T.me.stackBytes := State.stackBytes_setFrames ..
  have hm' : (T.setFrames s.frames).vm.method? m = some meth := X.method'
  refine ⟨X.admits, X.cas, X.clock, hF, ?_, ?_, hm', X.code, X.here, X.tail, State.WarmedH.refl (T.setFrames s.frames), hme.symm, hby.symm, ?_⟩
  · have h0 := X.room
    have h1 := X.heapSize
    have h2 := X.used
    have h3 := X.book
    have h4 : (T.setFrames s.frames).localsInUse = s.localsInUse := by
      rw [State.localsInUse_invoking hF hm' X.code, State.localsInUse_invoking X.frames X.method X.code]
    simp only [State.hasRoom, Bool.and_eq_true, decide_eq_true_eq] at h0 ⊢
    obtain ⟨⟨⟨⟨a1, a2, a3, a4, a5, a6⟩, a7⟩, a8⟩, a9⟩ := h0
    rw [h4, hF, hme, hby, X.limits, X.bytes]
    rw [X.frames] at a2 a3
    refine ⟨⟨⟨⟨by omega, by omega, by omega, by omega, by omega, a6⟩, ?_⟩, ?_⟩, h3⟩
    · show T.heap.size + R'.cells ≤ _
      omega
    · show T.slotsUsed + R'.slots ≤ _
      omega
  · have hh := X.hears
    rcases below with _ | ⟨y, r⟩
    · simp only [State.hears, X.method] at hh
      simp only [State.hears, hm']
      exact hh
    · cases y <;> first | exact hh | (simp only [State.hears, State.code?_eq] at hh ⊢; rw [show (T.setFrames s.frames).vm = T.vm from rfl, X.warmed.alike.method?]; exact hh) | (simp only [State.hears, X.method] at hh; simp only [State.hears, hm']; exact hh)
  · obtain ⟨t, ht, -⟩ := State.frames_cons hF
    have h := (State.sameButNew.refl (T.setFrames s.frames) ht).setFrames T.frames (State.cur_lt_of_frames hF)
    obtain ⟨t2, ht2, -⟩ := State.frames_cons hfr
    have h2 : (T.setFrames s.frames).setFrames T.frames = T := by rw [State.setFrames_setFrames, State.setFrames_self ht2]
    rw [h2] at h
    exact h
/-- 'throw new En()' at a method's first instruction -/
def qTt (s : State) (below : List Frame) (En : String) : State → Prop := fun t => t.status = .running ∧ ∃ a, Ended t below (.threw a) ∧ s.WarmedH t.vm ∧ s.sameButNew ({ t with vm := s.vm } : State) [] 1 6 ∧ ∃ ce : Cell, t.heap[a]? = some ce ∧ ce.vm.isStatics = false ∧ s.vm.findClass En = some ce.cls
theorem q_throw0 {own En : String} {cc : ByteArray} {pc nL : Nat} {ls : Array Slot} {rest : List Value} (hx : p.tables.exec = Jvm.exec) (hb : c.code = cc) (hfl : l.flags = pinnedFlags ++ [noTraceFlag]) (hown : s.vm.findClass own = some m.cls) (hml : c.maxLocals = nL) (hls : ls.size = nL) (hno : c.exceptionTable.isEmpty = true) (hlocks : meth.locks = false)
    (hw : ∀ w, (w ∈ qg ∨ w ∈ qSpec ∨ w ∈ qFw) → w.before args s = true) (ht : qThrow own cc pc En) (hR1 : 6 ≤ R.frames) (hR2 : 216 ≤ R.locals) (hR3 : 1 ≤ R.cells) (hR4 : 6 ≤ R.slots) (hrest : (rest.map fun v => v.category).sum ≤ 8) :
    W p l e R s m args below meth c s.heap [] 0 0 (qTt s below En) (F0 m pc ls rest) := by
  obtain ⟨ik, ic, d1, d2, d3, d4, w1, w2, w3, w4⟩ := ht
  refine W.newc (n := 6) hx hb hown (hw _ (Or.inl w1)) (hw _ (w3 _ (List.mem_append_right _ (List.mem_of_getElem? (i := 1) rfl)))) (hw _ (Or.inl w2)) rfl d1 (by omega) (by omega) (fun cC kC f1 f2 f3 f4 => ?_)
  refine lv_dup hx hb d2 rfl ?_
  intro U hU X
  have htr : e.platform.stackTraces = false := Launch.traces_off hfl X.admits
  obtain ⟨V, st, hrun, hend, hWV, hsame, ce, hce, hoc⟩ := X.ctorThrow0 hx htr (own := own) (cls := En) (names := ["java/lang/RuntimeException", "java/lang/Exception"]) (ic := ic) hown w4 (by decide +kernel) (fun w h => hw _ (w3 w h)) (fun x hx => by cases hx) (a := s.heap.size) f1 f2 (by rw [hU]; simp) (Nat.le_refl _)
    (g := F0 m (pc + 3 + 1) ls (.ref s.heap.size :: .ref s.heap.size :: rest)) rfl (hls.trans hml.symm) rfl rfl (rest := rest) rfl (by rw [hb]; exact d3) (by rw [hb]; exact d4) (fun x hx => by
      rw [Array.isEmpty_iff] at hno
      rw [hno] at hx
      cases hx) (by simp only [List.length_cons, List.length_nil]; omega) (by
      have h0 : (F0 m (pc + 3 + 1) ls (.ref s.heap.size :: .ref s.heap.size :: rest)).monitorRoom = 0 := rfl
      rw [h0]
      simp only [List.map_cons, List.sum_cons, List.length_cons, List.length_nil]
      have : (Value.ref s.heap.size).category = 1 := rfl
      omega) hlocks
  exact ⟨V, st, hrun, s.heap.size, hend, hWV, hsame, ce, hce, by rw [hoc.vm]; rfl, hoc.cls⟩
end TH
/-- what a method that may throw gives -/
def qTh (st : State) (a : Nat) (En : String) (t : State) : Prop := ∃ ce : Cell, t.heap[a]? = some ce ∧ ce.vm.isStatics = false ∧ st.vm.findClass En = some ce.cls
def qO2 (z : Nat) (ex : Nat → Nat) (D : va_G) (D3 : Nat → ClassId) (E : qE) (X : qXC) : Array Value → State → Outcome → State → Prop := fun _ st oc t =>
  ((∃ (v : Option Value) (n : Nat) (f : Nat → va_E), oc = .returned (v.map (qv z ex)) ∧ E v n f ∧ va_P D qC (qw z ex D3 n f) t.heap) ∨
    ∃ (a : Nat) (En : String) (n : Nat) (f : Nat → va_E), oc = .threw a ∧ X En n f ∧ va_P D qC (qw z ex D3 n f) t.heap ∧ qTh st a En t) ∧ va_F (qA z) st t
def qFE (first t : State) (L : List Loc) (k n : Nat) : Prop := first.WarmedH t.vm ∧ first.sameButNew ({ t with vm := first.vm } : State) L k n
def qMet (l : Launch) (y : MethodName) (ws : List Cond) (rm : Room) (Pc : Array Value → State → Prop) (Qc : Array Value → State → Outcome → State → Prop) (mc ms : Nat) (free : Addr → Prop) : Prop :=
  MetFree l y (headSpec ws rm) Pc (fun _ _ _ _ _ => True) (fun a st o t => Qc a st o t ∧ ∃ L, qFE st t L mc ms ∧ ∀ q ∈ L, free q.base)
def qMQ (below : List Frame) (Qc : Array Value → State → Outcome → State → Prop) (a : Array Value) (s : State) (mc ms : Nat) (free : Addr → Prop) : State → Prop := fun t =>
  ∃ o, t.status = .running ∧ Ended t below o ∧ Qc a s o t ∧ ∃ L, qFE s t L mc ms ∧ ∀ q ∈ L, free q.base
theorem W_mono {p : Program} {l : Launch} {e : Env} {R : Room} {s : State} {m : MethodId} {args : Array Value} {below : List Frame} {meth : Method} {c : Code} {H : Heap} {locs : List Loc} {cells slots : Nat} {Q Q' : State → Prop} {g : JFrame} (h : ∀ t, Q t → Q' t)
    (k : W p l e R s m args below meth c H locs cells slots Q g) : W p l e R s m args below meth c H locs cells slots Q' g := fun T hT X => by
  obtain ⟨t, a, b⟩ := k T hT X
  exact ⟨t, a, h t b⟩
theorem qMet_of {l : Launch} {y : MethodName} {ws ws' : List Cond} {rm : Room} {Pc : Array Value → State → Prop} {Qc : Array Value → State → Outcome → State → Prop} {mc ms : Nat} {free : Addr → Prop} {cc : ByteArray} {maxL : Nat} {ret : Option FieldType}
    (hy : plainName y.cls = true) (hw : ws = Cond.code y cc maxL ret :: ws')
    (body : ∀ p e s m args below meth c s₁, BodyLoose p l y (headSpec ws rm) cc maxL ret e s m args below meth c s₁ → c.maxLocals = maxL → Pc args s →
      W p l e (headSpec ws rm).room s m args below meth c s.heap [] 0 0 (qMQ below Qc args s mc ms free) (entryFrame m args maxL)) : qMet l y ws rm Pc Qc mc ms free := by
  refine MetFree.of_bodyS (code := cc) (maxLocals := maxL) (ret := ret) hy ?_ ?_
  · intro args s m h hn
    obtain ⟨meth, c, h1, h2, h3, h4, h5, h6, -, -⟩ := Cond.code_spec hn (atoms_spec (ws := ws) h _ (by rw [hw]; exact List.mem_cons_self))
    exact ⟨meth, c, h1, h2, h3, h4, h5, h6⟩
  · intro p e s m args below meth c s₁ B hml hP _
    have hh0 : s₁.heap = s.heap := by rw [B.state]; rfl
    obtain ⟨t, a1, o, b1, b2, b3⟩ := body p e s m args below meth c s₁ B hml hP s₁ hh0 (Stand.of_body B)
    exact ⟨t, o, a1, b1, b2, ⟨b3.1, b3.2⟩⟩
/-- the two ends of a method that may throw -/
theorem q_ends2 {K : qK} {E : qE} {X : qXC} {p : Program} {e : Env} {R : Room} {s : State} {m : MethodId} {args : Array Value} {below : List Frame} {meth : Method} {c : Code} {z : Nat} {ex : Nat → Nat} {D : va_G} {D3 : Nat → ClassId}
    (C : qCx K p R s m args meth c z ex D D3) (hfl : (kl K).flags = pinnedFlags ++ [noTraceFlag]) (hr : meth.sig.returnType = kret K) (hlocks : meth.locks = false) (hno : c.exceptionTable.isEmpty = true) (hd : 6 ≤ kd K) :
    qEnd K E X p e R s m args below meth c (qMQ below (qO2 z ex D D3 E X) args s (kmc K) (kms K) (qA z)) z ex D D3 := by
  have h0 := q_ends (K := K) (E := E) (p := p) (e := e) (R := R) (s := s) (m := m) (args := args) (below := below) (meth := meth) (c := c) (z := z) (ex := ex) (D := D) (D3 := D3) C.1 C.2.1 hr hlocks
  refine ⟨fun v n kc ks f H locs pc ls hE hkc hks hP hS hret => ?_, fun En n kc ks f H locs pc ls rest hX hkc hks hP hS hls hrest ht => ?_⟩
  · refine W_mono (fun t ht => ?_) (h0.1 v n kc ks f H locs pc ls hE hkc hks hP hS hret)
    obtain ⟨o, g1, g2, ⟨g3, g4⟩, L, ⟨-, g5, g6⟩, g7⟩ := ht
    exact ⟨o, g1, g2, ⟨Or.inl g3, g4⟩, L, ⟨g5, g6⟩, g7⟩
  · intro T hT X9
    have hR : R = qrm (kd K) (kmc K) (kms K) := C.2.2.2.2.2.2.2.2.1
    have Xr := st_rebase (R' := { frames := kd K, cells := 1, slots := 6, locals := 34 * kd K + 12 }) X9 (by rw [hR]; exact Nat.le_refl _) (by rw [hR]; exact Nat.le_refl _) (by rw [hR]; exact hkc) (by rw [hR]; exact hks)
    have hW : s.WarmedH (T.setFrames s.frames).vm := X9.warmed
    have hheap : (T.setFrames s.frames).heap = H := hT
    have hX1 : qX z ex (T.setFrames s.frames) (T.setFrames s.frames).heap := C.2.2.2.2.2.2.2.1.warm hW (by rw [hheap]; exact hS.1) (by rw [hheap]; exact hS.2.1)
    obtain ⟨t, st, hrun, a, hend, hWt, hsame, ce, hce, hcs, hfc⟩ := q_throw0 (p := p) (l := kl K) (e := e) (R := { frames := kd K, cells := 1, slots := 6, locals := 34 * kd K + 12 }) (s := T.setFrames s.frames) (m := m) (args := args) (below := below) (meth := meth) (c := c) (En := En) (own := kown K) (cc := kcc K) (pc := pc) (nL := knL K) (ls := ls) (rest := rest) C.1 C.2.1 hfl
      (by rw [hW.alike.findClass]; exact C.2.2.2.1) C.2.2.1 hls hno hlocks (fun w hw => by
        rcases hw with h | h | h
        · exact word_at hW (good_of_word (qg_good _ h)) (C.2.2.2.2.1 _ h)
        · rcases List.mem_cons.mp h with rfl | h
          · exact qZ_lays (hX1.2.2.2.1 _ (List.mem_of_getElem? (i := 0) rfl))
          rcases List.mem_cons.mp h with rfl | h
          · exact qZ_lays (hX1.2.2.2.1 _ (List.mem_of_getElem? (i := 1) rfl))
          rcases List.mem_cons.mp h with rfl | h
          · exact qZ_isRef (hX1.2.2.2.1 _ (List.mem_of_getElem? (i := 0) rfl))
          rcases List.mem_cons.mp h with rfl | h
          · exact qZ_isRef (hX1.2.2.2.1 _ (List.mem_of_getElem? (i := 1) rfl))
          cases h
        · exact word_face (s := T.setFrames s.frames) (State.WarmedH.refl _) (qFw_ok _ h).1 (qFw_ok _ h).2 (hX1.2.2.2.2.2.1 _ h)) ht hd (by show 216 ≤ 34 * kd K + 12; omega) (Nat.le_refl _) (Nat.le_refl _) hrest T rfl Xr
    have hold : ∀ q : Nat, q < H.size → t.heap[q]? = H[q]? := fun q hq => by
      have hq2 : (T.setFrames s.frames).heap[q]? = some H[q] := by rw [hheap]; simp [hq]
      have := State.sameButNew.old_cell hsame hq2
      have h3 : t.heap[q]? = some H[q] := this
      rw [h3]
      simp [hq]
    have hsz : H.size ≤ t.heap.size := by
      have := hsame.2.1
      rw [hheap] at this
      exact this
    refine ⟨t, st, .threw a, hrun, hend, ⟨Or.inr ⟨a, En, n, f, rfl, hX, hP.kept (fun k x hx => hold x.1 (hP k x hx).lt), ce, hce, hcs, ?_⟩, Nat.le_trans hS.1 hsz, fun q h1 h2 => (hold q (Nat.lt_of_lt_of_le h1 hS.1)).trans (hS.2.1 q h1 h2)⟩, locs, ⟨State.WarmedH.trans X9.warmed hWt, ?_⟩, hS.2.2⟩
    · rw [← hW.alike.findClass]
      exact hfc
    · have g1 := X9.same.setFrames s.frames X9.cur
      have g2 := hsame.setVm s.vm
      have g3 := State.sameButNew.trans g1 g2
      rw [List.append_nil] at g3
      exact g3.mono hkc hks
/-- a method that may throw: from the world n, f with the arguments As -/
def qSp2 (l : Launch) (y : MethodName) (cc : ByteArray) (nL : Nat) (ret : Option FieldType) (d mc ms : Nat) (As : List Value) (n : Nat) (f : Nat → va_E) (E : qE) (X : qXC) : Prop :=
  ∀ (z : Nat) (ex : Nat → Nat) (D : va_G) (D3 : Nat → ClassId), qMet l y (Cond.code y cc nL ret :: qg) (qrm d mc ms) (va_Pc (As.map (qv z ex)) (qW z ex D D3 false n f)) (qO2 z ex D D3 E X) mc ms (qA z)
theorem qSp2_of {l : Launch} {y : MethodName} {cc : ByteArray} {nL : Nat} {ret : Option FieldType} {d mc ms n : Nat} {As : List Value} {f : Nat → va_E} {E : qE} {X : qXC} (hfl : l.flags = pinnedFlags ++ [noTraceFlag]) (hy : plainName y.cls = true) (hlen : (lg_sl As).length ≤ nL) (hd : 6 ≤ d)
    (k : qR (l, y.cls, cc, nL, ret, false, false, d, mc, ms, n, q0) E X 0 (lv_args 0 As) [] n 0 0 f) : qSp2 l y cc nL ret d mc ms As n f E X := by
  intro z ex D D3
  refine qMet_of (cc := cc) (maxL := nL) (ret := ret) hy rfl ?_
  intro p e s m args below meth c s₁ B hml hv
  obtain ⟨rfl, hP, hK, hx, hX⟩ := hv
  have hts := atoms_spec (ws := Cond.code y cc nL ret :: qg) B.pre
  have hown : s.vm.findClass y.cls = some m.cls := findClass_of_methodNamed B.named
  have hl := lv_entry (As.map (qv z ex)) (n := nL) (by rw [q_sl]; exact hlen)
  rw [lg_entry_eq]
  generalize (lg_sl (As.map (qv z ex)) ++ List.replicate (nL - (lg_sl (As.map (qv z ex))).length) Slot.unset).toArray = ls at hl ⊢
  rw [q_args] at hl
  obtain ⟨meth', c', e1, e2, -, -, -, -, e3, -⟩ := Cond.code_spec B.named (hts _ List.mem_cons_self)
  cases B.method.symm.trans e1
  have hcode : meth.code = some c := (Stand.of_body B).code
  cases hcode.symm.trans e2
  have C : qCx (l, y.cls, cc, nL, ret, false, false, d, mc, ms, n, q0) p (headSpec (Cond.code y cc nL ret :: qg) (qrm d mc ms)).room s m (As.map (qv z ex)).toArray meth c z ex D D3 := ⟨B.exec, B.bytes, hml, hown, fun w h => hts w (List.mem_cons_of_mem _ h), (fun h => nomatch h), hK, hX, rfl, hx, trivial⟩
  exact k p e _ s m _ below meth c s.heap [] ls _ z ex D D3 C hP va_S.rf hl (q_ends2 C hfl B.returns B.notSynchronized e3 hd)
/-! the call of a method that may throw; the catch -/
section TC
variable {p : Program} {l : Launch} {e : Env} {R : Room} {s : State} {m : MethodId} {args : Array Value} {below : List Frame} {meth : Method} {c : Code} {U : State} {locs : List Loc} {cells slots : Nat}
/-- behind the instruction's own step: the callee runs to its end, whichever it is -/
theorem q_callFree {y : MethodName} {ws : List Cond} {rm : Room} {Pc : Array Value → State → Prop} {Qc : Array Value → State → Outcome → State → Prop} {mc ms len maxL : Nat} {free : Addr → Prop} {g : JFrame} {ig : Instr} {mk : MethodId} {a : Array Value} {methY : Method} {cY : Code} {kY : Class}
    (X : Stand p l e R s m args below meth c U locs cells slots) (hM : qMet l y ws rm Pc Qc mc ms free) (hg : g.method = m) (hsize : g.locals.size = c.maxLocals) (hdg : decode c.code g.pc = .ok (ig, len)) (hW : 2 * g.monitorRoom + (g.stack.map fun v => v.category).sum ≤ 8)
    (hn : U.methodNamed? y = some mk) (hmY : U.vm.method? mk = some methY) (hcY : methY.code = some cY) (hlY : cY.maxLocals = maxL) (hkY : U.vm.classes[mk.cls]? = some kY) (hini : kY.init = .initialized) (hrc : rm.cells = mc) (hrs : rm.slots = ms) (hfr : rm.frames + 1 ≤ R.frames) (hlo : 8 + (maxL + 11) + rm.locals ≤ R.locals) (hc1 : cells + mc ≤ R.cells) (hs1 : slots + ms ≤ R.slots)
    (hws : ∀ w ∈ ws, w.before a U = true) (hP : Pc a (U.calling g mk a)) :
    ∃ (o : Outcome) (t T' : State) (L : List Loc), Stand p l e R s m args below meth c T' (locs ++ L) (cells + mc) (slots + ms) ∧ (∀ q ∈ L, free q.base) ∧ T'.heap = t.heap ∧ T'.vm = t.vm ∧ Qc a (U.calling g mk a) o t ∧
      ((∃ v, o = .returned v ∧ Steps p.tables e below (doInvoke e (U.setTop g) [] mk a).1 (T'.setTop { g with pc := g.pc + len, stack := v.toList ++ g.stack })) ∨
        ∃ x, o = .threw x ∧ Steps p.tables e below (doInvoke e (U.setTop g) [] mk a).1 ((T'.setTop g).pushFrame (.throwing x))) := by
  have h : At U g.method c below := by rw [hg]; exact X.here
  have happ : (headSpec ws rm).appliesLoose y e.platform (U.calling g mk a) = true :=
    Spec.appliesLoose_calling (g := g) h hdg hn hkY hini
      (X.room_calling (g := g) (R' := rm) hsize hmY hcY hfr (by rw [hlY]; omega) (by rw [hrc]; exact hc1) (by rw [hrs]; exact hs1)) (atoms_intro hws)
  obtain ⟨mid, hmid⟩ := h.above
  have hfr2 : (U.setTop g).frames = (.java g :: mid) ++ below := by rw [State.frames_setTop' g h.top, hmid]; rfl
  obtain ⟨o, t, hsteps, -, hend, hq, L, ⟨hWt, hsm⟩, hL⟩ := Steps.callFree hM p X.admits X.cas X.clock (acts := []) hfr2 happ hP trivial
  rw [State.frames_setTop' g h.top] at hend
  have hWt : U.WarmedH t.vm := hWt
  have hsm : (U.calling g mk a).sameButNew ({ t with vm := (U.calling g mk a).vm } : State) L mc ms := hsm
  obtain ⟨e2, q2, q3, q4, q5, q6⟩ := hsm
  have e3 : t = ({ (U.calling g mk a).setFrames t.frames with heap := t.heap, slotsUsed := t.slotsUsed } : State).setVm t.vm := by
    have : t = ({ t with vm := (U.calling g mk a).vm } : State).setVm t.vm := rfl
    rw [e2] at this
    exact this
  obtain ⟨g₀, hg0⟩ := Option.isSome_iff_exists.mp h.top
  obtain ⟨r, hr⟩ := State.topJava?_eq_some.mp hg0
  have hr' : (({ U with heap := t.heap, slotsUsed := t.slotsUsed } : State).setVm t.vm).frames = .java g₀ :: r := hr
  have hsame : U.sameButNew ({ U with heap := t.heap, slotsUsed := t.slotsUsed } : State) L mc ms := by
    refine ⟨?_, q2, q3, q4, q5, q6⟩
    obtain ⟨t9, ht9, -⟩ := State.frames_cons hr
    show ({ U with heap := t.heap, slotsUsed := t.slotsUsed } : State) = { U.setFrames U.frames with heap := t.heap, slotsUsed := t.slotsUsed }
    rw [State.setFrames_self ht9]
  subst hg
  refine ⟨o, t, ({ U with heap := t.heap, slotsUsed := t.slotsUsed } : State).setVm t.vm, L, ⟨X.admits, X.cas, X.clock, X.frames, X.room, X.hears, X.method, X.code, (X.here.setHeapUsed t.heap t.slotsUsed).setVm hWt.alike, X.tail, State.WarmedH.trans X.warmed hWt, X.limits, X.bytes, X.same.trans (hsame.setVm s.vm)⟩, hL, rfl, rfl, hq, ?_⟩
  cases o with
  | returned v =>
    refine Or.inl ⟨v, rfl, ?_⟩
    obtain ⟨c₂, i₂, len₂, hc₂, hd₂, hf₂⟩ := hend
    have hcc : c₂ = c := by
      have h1 : t.code? g.method = U.code? g.method := by
        rw [State.code?_eq, State.code?_eq, hWt.alike.method?]
      exact Option.some.inj (hc₂.symm.trans (h1.trans h.code))
    subst hcc
    have hlen : len₂ = len := by rw [hdg] at hd₂; cases hd₂; rfl
    subst hlen
    have ht : t = (({ U with heap := t.heap, slotsUsed := t.slotsUsed } : State).setVm t.vm).setTop { g with pc := g.pc + len₂, stack := v.toList ++ g.stack } := by
      refine e3.trans ?_
      rw [hf₂, State.calling_eq h.top, State.setFrames_setFrames, State.setTop_of_frames _ hr', hr]
      rfl
    rw [← ht]
    exact hsteps
  | threw x =>
    refine Or.inr ⟨x, rfl, ?_⟩
    have hf₂ : t.frames = .throwing x :: .java g :: U.frames.tail := hend
    have ht : t = ((({ U with heap := t.heap, slotsUsed := t.slotsUsed } : State).setVm t.vm).setTop g).pushFrame (.throwing x) := by
      refine e3.trans ?_
      rw [hf₂, State.calling_eq h.top, State.setFrames_setFrames, State.pushFrame, State.frames_setTop _ hr', State.setTop_of_frames _ hr', State.setFrames_setFrames, hr]
      rfl
    rw [← ht]
    exact hsteps
/-- what the search for a handler does at a row that covers the place -/
theorem q_go {Q : Handler → Pre} {E : CtlPost} {d : Bool} {acts : List Action} {S : State} {f : JFrame} {a : Addr} {x : ExceptionTableEntry} {t : List ExceptionTableEntry} {cT : ClassId} {cell : Cell} (hx : covers x f.pc = true) (h0 : x.catchType ≠ 0)
    (hl : S.vm.ClassLinks e.platform f.method.cls x.catchType cT) (hcell : S.heap[a]? = some cell) (hobj : ∀ k, cell.vm ≠ .statics k) (hk : ∃ k, S.vm.classes[cell.cls]? = some k) (hc : ∃ k, S.vm.classes[cT]? = some k) :
    wp (findHandler.go f a (x :: t)) Q E e d acts S ↔ if S.vm.assignable cell.cls cT = true then Q (.found x.handlerPc) d acts (S.setVm (S.vm.noted f.method.cls x.catchType (.cls cT))) else wp (findHandler.go f a t) Q E e d acts (S.setVm (S.vm.noted f.method.cls x.catchType (.cls cT))) := by
  simp only [covers] at hx
  obtain ⟨ha, ht⟩ := (resolveClass_links e.toSetting hl).op (op := VmOp.resolveClass f.method.cls x.catchType) rfl
  have hal : S.vm.Alike (S.vm.noted f.method.cls x.catchType (.cls cT)) := (Vm.Alike.refl S.vm).noted _ _ _
  obtain ⟨k1, hk1⟩ := hk
  obtain ⟨k2, hk2⟩ := hc
  obtain ⟨k1', hk1', -⟩ := hal.2.2 _ _ hk1
  obtain ⟨k2', hk2', -⟩ := hal.2.2 _ _ hk2
  have hf := hal.assignable cell.cls cT
  by_cases hs : S.vm.assignable cell.cls cT = true
  · rw [hs] at hf
    simp [findHandler.go, hx, h0, ha, ht, hcell, hobj, hk1', hk2', hf, hs, VmOp.dirties, VmOp.acts]
  · have hs' : S.vm.assignable cell.cls cT = false := by simpa using hs
    rw [hs'] at hf
    simp [findHandler.go, hx, h0, ha, ht, hcell, hobj, hk1', hk2', hf, hs', VmOp.dirties, VmOp.acts]
/-- the table's rows: where an exception of the class En, thrown at pc, is caught -/
def qRows (own En : String) (pc hpc : Nat) : List (Nat × Nat × Nat × Nat) → Prop
  | [] => False
  | (a, b, h, ty) :: r => a ≤ pc ∧ pc < b ∧ ty ≠ 0 ∧ ∃ Cn, Cond.classLink own ty Cn ∈ qg ∧ ((Cn = En ∧ h = hpc ∧ Cond.castable En En ∈ qFw) ∨ ((En, Cn) ∈ qNc ∧ qRows own En pc hpc r))
theorem q_find {z : Nat} {ex : Nat → Nat} {own En : String} {f : JFrame} {a : Addr} {cell : Cell} {hpc : Nat} (hpl : e.platform.magicAccessors = ({} : Platform).magicAccessors) (hown : s.vm.findClass own = some f.method.cls) (hw : ∀ w ∈ qg, w.before args s = true) (hX : qX z ex s s.heap) (hobj : ∀ k, cell.vm ≠ .statics k) (hEn : s.vm.findClass En = some cell.cls) (hin : (Cond.instantiable En 6).before args s = true) :
    ∀ (rows : List ExceptionTableEntry) (S : State), qRows own En f.pc hpc (rows.map fun h => (h.startPc, h.endPc, h.handlerPc, h.catchType)) → s.WarmedH S.vm → S.heap[a]? = some cell →
      ∃ vm', s.WarmedH vm' ∧ ∀ (Q : Handler → Pre) (E : CtlPost) (d : Bool) (acts : List Action), wp (findHandler.go f a rows) Q E e d acts S ↔ Q (.found hpc) d acts (S.setVm vm') := by
  intro rows
  induction rows with
  | nil => intro S h _ _; exact h.elim
  | cons x r ih =>
    intro S h hW hcell
    obtain ⟨h1, h2, h3, Cn, h4, h5⟩ := h
    have hcov : covers x f.pc = true := by simp [covers, h1, h2]
    obtain ⟨cT, hcT, hcl⟩ := Cond.classLink_spec hown (hw _ h4) e.platform hpl
    obtain ⟨dk, _, _, kt, hd, _, _, _, _, hkt, _, hopen⟩ := hcl.here
    obtain ⟨kt', hkt', -⟩ := hW.alike.2.2 _ _ hkt
    obtain ⟨c9, k0, hc9, hk0, -⟩ := Cond.instantiable_spec hin
    cases hc9.symm.trans hEn
    obtain ⟨k0', hk0', -⟩ := hW.alike.2.2 _ _ hk0
    have hW' : s.WarmedH (S.vm.noted f.method.cls x.catchType (.cls cT)) := hW.noted hd hopen (State.rightAt_cls hcl)
    have hgo := fun (Q : Handler → Pre) (E : CtlPost) (d : Bool) (acts : List Action) => q_go (e := e) (Q := Q) (E := E) (d := d) (acts := acts) (t := r) hcov h3 (hW.classLinks hcl) hcell hobj ⟨k0', hk0'⟩ ⟨kt', hkt'⟩
    rcases h5 with ⟨rfl, rfl, h6⟩ | ⟨h6, h7⟩
    · refine ⟨_, hW', fun Q E d acts => ?_⟩
      rw [hgo Q E d acts, if_pos]
      rw [hW.alike.assignable]
      obtain ⟨c3, c4, hc3, hc4, hasg⟩ := Cond.castable_spec (hX.2.2.2.2.2.1 _ h6)
      cases hc3.symm.trans hEn
      cases hc4.symm.trans hcT
      exact hasg
    · obtain ⟨vm', g1, g2⟩ := ih (S.setVm (S.vm.noted f.method.cls x.catchType (.cls cT))) h7 hW' hcell
      refine ⟨vm', g1, fun Q E d acts => ?_⟩
      rw [hgo Q E d acts, if_neg]
      · exact g2 Q E d acts
      · rw [hW.alike.assignable]
        have hv := Cond.holds_not_iff.mp (hX.2.2.2.2.1 _ h6)
        simp only [Cond.value, hEn, hcT] at hv
        rw [Option.some.inj hv]
        exact Bool.false_ne_true
/-- the throw is caught in the walked method -/
theorem q_caught {z : Nat} {ex : Nat → Nat} {own En : String} {g : JFrame} {a : Addr} {cell : Cell} {hpc : Nat} (X : Stand p l e R s m args below meth c U locs cells slots) (hg : g.method = m) (hown : s.vm.findClass own = some m.cls) (hw : ∀ w ∈ qg, w.before args s = true) (hX : qX z ex s s.heap) (hcell : U.heap[a]? = some cell) (hobj : cell.vm.isStatics = false) (hEn : s.vm.findClass En = some cell.cls) (hin : (Cond.instantiable En 6).before args s = true)
    (hrows : qRows own En g.pc hpc (c.exceptionTable.toList.map fun h => (h.startPc, h.endPc, h.handlerPc, h.catchType))) :
    ∃ vm', Stand p l e R s m args below meth c (U.setVm vm') locs cells slots ∧
      ∀ target, Steps p.tables e below ((U.setVm vm').setTop { g with pc := hpc, stack := [.ref a] }) target → Steps p.tables e below ((U.setTop g).pushFrame (.throwing a)) target := by
  subst hg
  have hpl : e.platform.magicAccessors = ({} : Platform).magicAccessors := by rw [X.admits.platform]
  obtain ⟨vm', hW', hq⟩ := q_find (e := e) (f := g) (a := a) (hpc := hpc) hpl hown hw hX (VmData.ne_statics_of hobj) hEn hin c.exceptionTable.toList ((U.setTop g).pushFrame (.throwing a)) hrows X.warmed hcell
  refine ⟨vm', X.noted hW', fun target hrest => ?_⟩
  have hfind : ∀ (Q : Handler → Pre) (E : CtlPost) (d : Bool) (acts : List Action), wp (findHandler g a) Q E e d acts ((U.setTop g).pushFrame (.throwing a)) ↔ Q (.found hpc) d acts (((U.setTop g).pushFrame (.throwing a)).setVm vm') := fun Q E d acts => by
    rw [W.findHandler_eq (s := (U.setTop g).pushFrame (.throwing a)) (meth := meth) (code := c) X.method' X.code]
    exact hq Q E d acts
  obtain ⟨hgo, hwi⟩ := X.here.throwing a
  refine Steps.head hgo hwi ?_
  obtain ⟨g₀, hg0⟩ := Option.isSome_iff_exists.mp X.here.top
  obtain ⟨r, hr⟩ := State.topJava?_eq_some.mp hg0
  have hstep : (stepThrowing e ((U.setTop g).pushFrame (.throwing a)) a (.java g :: U.frames.tail)).1 = (((U.setTop g).pushFrame (.throwing a)).setVm vm').setFrames (.java { g with pc := hpc, stack := [.ref a] } :: U.frames.tail) := by
    simp only [stepThrowing, searchFrame, vmDo]
    generalize hres : Sem.go _ e false [] ((U.setTop g).pushFrame (.throwing a)) = res
    obtain ⟨as, rfl, ha⟩ := Sem.eq_ok_of hres (a := Handler.found hpc) (s' := ((U.setTop g).pushFrame (.throwing a)).setVm vm') (acts' := []) (by simp [hfind _ _ _ _])
    rfl
  rw [stepThread_throwing (frames_entered X.here.top _), hstep]
  have hr' : (U.setVm vm').frames = .java g₀ :: r := hr
  rw [State.setTop_of_frames _ hr'] at hrest
  have e1 : (((U.setTop g).pushFrame (.throwing a)).setVm vm').setFrames (.java { g with pc := hpc, stack := [.ref a] } :: U.frames.tail) = (U.setVm vm').setFrames (.java { g with pc := hpc, stack := [.ref a] } :: r) := by
    rw [hr, List.tail_cons, State.pushFrame, State.setTop_of_frames _ hr, State.setFrames_setFrames]
    show ((U.setFrames _).setVm vm').setFrames _ = _
    have h1 : ∀ F : List Frame, (U.setFrames F).setVm vm' = (U.setVm vm').setFrames F := fun _ => rfl
    rw [h1, State.setFrames_setFrames]
  rw [e1]
  exact hrest
end TC
