/-! contracts, calls, new cells -/
/-- behind a method: its answer and the world -/
def qO (z : Nat) (ex : Nat → Nat) (D : va_G) (D3 : Nat → ClassId) (E : qE) : Array Value → State → Outcome → State → Prop := fun _ st oc t =>
  (∃ (v : Option Value) (n : Nat) (f : Nat → va_E), oc = .returned (v.map (qv z ex)) ∧ E v n f ∧ va_P D qC (qw z ex D3 n f) t.heap) ∧ va_F (qA z) st t
/-- a method that returns: from the world n, f with the arguments As; E says its answer and the world behind it -/
def qSp (l : Launch) (y : MethodName) (cc : ByteArray) (nL : Nat) (ret : Option FieldType) (x : Bool) (d mc ms : Nat) (As : List Value) (n : Nat) (f : Nat → va_E) (E : qE) : Prop :=
  ∀ (z : Nat) (ex : Nat → Nat) (D : va_G) (D3 : Nat → ClassId), Met l y (Cond.code y cc nL ret :: qg) (qrm d mc ms) (va_Pc (As.map (qv z ex)) (qW z ex D D3 x n f)) (qO z ex D D3 E) mc ms (qA z)
theorem q_args (z : Nat) (ex : Nat → Nat) : ∀ (As : List Value) (i : Nat), lv_args i (As.map (qv z ex)) = (lv_args i As).map (qp z ex)
  | [], _ => rfl
  | v :: vs, i => by
    simp only [List.map_cons, lv_args, qv_cat]
    rw [q_args z ex vs]
    rfl
theorem q_sl (z : Nat) (ex : Nat → Nat) : ∀ (As : List Value), (lg_sl (As.map (qv z ex))).length = (lg_sl As).length
  | [] => rfl
  | v :: vs => by
    have h := q_sl z ex vs
    unfold lg_sl at h ⊢
    rw [List.map_cons, List.flatMap_cons, List.flatMap_cons, List.length_append, List.length_append, h, qv_cat]
    split <;> rfl
/-- the two ends of a method that only returns -/
theorem q_ends {K : qK} {E : qE} {p : Program} {e : Env} {R : Room} {s : State} {m : MethodId} {args : Array Value} {below : List Frame} {meth : Method} {c : Code} {z : Nat} {ex : Nat → Nat} {D : va_G} {D3 : Nat → ClassId}
    (hx : p.tables.exec = Jvm.exec) (hb : c.code = kcc K) (hr : meth.sig.returnType = kret K) (hlocks : meth.locks = false) :
    qEnd K E (fun _ _ _ => False) p e R s m args below meth c (MQ below (qO z ex D D3 E) args s (kmc K) (kms K) (qA z)) z ex D D3 := by
  refine ⟨fun v n kc ks f H locs pc ls hE hkc hks hP hS hret => ?_, fun En n kc ks f H locs pc ls rest hX => hX.elim⟩
  have hq : ∀ t : State, t.heap = H → s.WarmedH t.vm → qO z ex D D3 E args s (.returned (v.map (qv z ex))) t := fun t ht hW => ⟨⟨v, n, f, rfl, hE, by rw [ht]; exact hP⟩, hS.F ht⟩
  refine W.widen (k := kmc K) (n := kms K) hkc hks ?_
  match v, hret, hq with
  | none, hret, hq => exact W.vret hx hb (hr.trans hret.1) hq hS.2.2 hret.2
  | some (.int i), hret, hq =>
    obtain ⟨⟨ty, h1, h2⟩, h3⟩ := hret
    exact W.zret hx hb (hr.trans h1) h2 hq hS.2.2 h3
  | some (.long i), hret, hq => exact W.lret hx hb (hr.trans hret.1) hq hS.2.2 hret.2
  | some (.ref i), hret, hq =>
    obtain ⟨⟨rt, h1, h2⟩, h3⟩ := hret
    exact W.aret hx hb (hr.trans h1) h2 (Or.inr ⟨_, rfl⟩) hq hS.2.2 h3
/-- a contract out of the walk of its body -/
theorem qSp_of {l : Launch} {y : MethodName} {cc : ByteArray} {nL : Nat} {ret : Option FieldType} {ini x : Bool} {d mc ms n : Nat} {As : List Value} {f : Nat → va_E} {E : qE} (hy : plainName y.cls = true) (hini : ini = true → y.name = "<init>") (hlen : (lg_sl As).length ≤ nL)
    (k : qR (l, y.cls, cc, nL, ret, ini, x, d, mc, ms, n, q0) E (fun _ _ _ => False) 0 (lv_args 0 As) [] n 0 0 f) : qSp l y cc nL ret x d mc ms As n f E := by
  intro z ex D D3
  refine Met.ofW (cc := cc) (maxL := nL) (ret := ret) hy rfl ?_
  intro p e s m args below meth c s₁ B hml hv
  obtain ⟨rfl, hP, hK, hx, hX⟩ := hv
  have hts := atoms_spec (ws := Cond.code y cc nL ret :: qg) B.pre
  have hown : s.vm.findClass y.cls = some m.cls := findClass_of_methodNamed B.named
  have hl := lv_entry (As.map (qv z ex)) (n := nL) (by rw [q_sl]; exact hlen)
  rw [lg_entry_eq]
  generalize (lg_sl (As.map (qv z ex)) ++ List.replicate (nL - (lg_sl (As.map (qv z ex))).length) Slot.unset).toArray = ls at hl ⊢
  rw [q_args] at hl
  exact k p e _ s m _ below meth c s.heap [] ls _ z ex D D3 ⟨B.exec, B.bytes, hml, hown, fun w h => hts w (List.mem_cons_of_mem _ h), fun h => (name_of_methodNamed B.named B.method).1.trans (hini h), hK, hX, rfl, hx, trivial⟩ hP va_S.rf hl (q_ends B.exec B.bytes B.returns B.notSynchronized)
/-- what links a call: the pool's place idx of the class own names y, with these bytes, na arguments -/
def qLk (own : String) (idx : Nat) (y : MethodName) (cc : ByteArray) (nL : Nat) (ret : Option FieldType) (na : Nat) : Prop :=
  Cond.methodLink own idx y ∈ qg ∧ Cond.initialized y.cls ∈ qg ∧ Cond.code y cc nL ret ∈ qg ∧ y.cls ≠ "java/lang/invoke/MethodHandle" ∧ y.cls ≠ "java/lang/invoke/VarHandle" ∧ (parseMethodDescriptor y.desc).map (fun d => d.parameters.length) = some na
theorem qg_GoodIn {w : Cond} (h : w ∈ qg) : GoodIn qg (w :: qg) := fun v hv => by
  rcases List.mem_cons.mp hv with rfl | hv
  · exact ⟨h, good_of_word (qg_good _ h)⟩
  · exact ⟨hv, good_of_word (qg_good _ hv)⟩
section QC
variable {K : qK} {E E' : qE} {X : qXC} {pc : Nat} {lv : List (Nat × Value)} {st stk : List Value} {n kc ks : Nat} {f f' : Nat → va_E}
variable {y : MethodName} {cc : ByteArray} {nL : Nat} {ret : Option FieldType} {x : Bool} {d mc ms na idx q : Nat} {As : List Value}
theorem q_cat (z : Nat) (ex : Nat → Nat) (st : List Value) : ((st.map (qv z ex)).map fun v => v.category).sum = (st.map fun v => v.category).sum := by
  rw [List.map_map]
  congr 1
  exact List.map_congr_left (fun v _ => qv_cat z ex v)
/-- the callee's start does not look at the frames -/
theorem q_blind {z : Nat} {ex : Nat → Nat} {D : va_G} {D3 : Nat → ClassId} {av : List Value} : FrameBlind (va_Pc av (qW z ex D D3 x n f)) := by
  intro a U g mk h
  obtain ⟨h0, hP, hK, hx, hX⟩ := h
  exact ⟨h0, hP, va_K.moved (u := U) (U := U.calling g mk a) (Vm.Alike.refl U.vm) hK, hx, hX.warm (s := U) (U := U.calling g mk a) (State.WarmedH.refl U) (Nat.le_refl _) (fun _ _ _ => rfl)⟩
/-- the callee's start, out of the caller's world -/
theorem q_pre {p : Program} {R : Room} {s : State} {m : MethodId} {args : Array Value} {meth : Method} {c : Code} {H : Heap} {locs : List Loc} {z : Nat} {ex : Nat → Nat} {D : va_G} {D3 : Nat → ClassId} {av : List Value}
    (C : qCx K p R s m args meth c z ex D D3) (hP : va_P D qC (qw z ex D3 n f) H) (hS : va_S (qA z) s.heap H locs) (hx : x = true → H.size = z + n ∧ n ≤ 77) : ∀ U : State, U.heap = H → s.WarmedH U.vm → va_Pc av (qW z ex D D3 x n f) av.toArray U :=
  fun U hU hW => ⟨rfl, by rw [hU]; exact hP, va_K.moved hW.alike C.2.2.2.2.2.2.1, fun h => by rw [hU]; exact hx h, by rw [hU]; exact C.2.2.2.2.2.2.2.1.warm hW hS.1 hS.2.1⟩
/-- behind a call -/
theorem q_cont {p : Program} {l : Launch} {e : Env} {R : Room} {s : State} {m : MethodId} {args : Array Value} {below : List Frame} {meth : Method} {c : Code} {H : Heap} {locs : List Loc} {ls : Array Slot} {Q : State → Prop} {z : Nat} {ex : Nat → Nat} {D : va_G} {D3 : Nat → ClassId} {g rest : List Value} {a : Array Value}
    (hr : va_Run p l e R s m args below meth c H locs kc ks mc ms (F0 m pc ls g) rest (qO z ex D D3 E' a) (qA z)) (hS : va_S (qA z) s.heap H locs)
    (kk : ∀ (v : Option Value) (n' : Nat) (f' : Nat → va_E) (H1 : Heap) (locs1 : List Loc), E' v n' f' → va_P D qC (qw z ex D3 n' f') H1 → va_S (qA z) s.heap H1 locs1 → W p l e R s m args below meth c H1 locs1 (kc + mc) (ks + ms) Q (F0 m (pc + 3) ls ((v.map (qv z ex)).toList ++ rest))) : W p l e R s m args below meth c H locs kc ks Q (F0 m pc ls g) := by
  intro T hT X9
  obtain ⟨v9, st₀, t, T', L, h0, X', hL, e1, e2, ⟨⟨v, n', f', hv, hE, hP1⟩, hz, hk⟩, st9⟩ := hr T hT X9
  cases hv
  rw [h0] at hz hk
  obtain ⟨t2, a1, b1⟩ := kk v n' f' T'.heap (locs ++ L) hE (by rw [e1]; exact hP1) ⟨Nat.le_trans hS.1 (by rw [e1]; exact hz), fun q h1 h2 => by rw [e1, hk q (Nat.lt_of_lt_of_le h1 hS.1) h2]; exact hS.2.1 q h1 h2, fun q hq => by
      rcases List.mem_append.mp hq with h | h
      · exact hS.2.2 q h
      · exact hL q h⟩ T' rfl X'
  exact ⟨t2, st9 t2 a1, b1⟩
theorem qg_all {ws : List Cond} (h : ∀ w ∈ ws, w ∈ qg) : GoodIn qg ws := fun w hw => ⟨h w hw, good_of_word (qg_good _ (h w hw))⟩
theorem q_low {s : State} {H : Heap} {locs : List Loc} {z : Nat} {ex : Nat → Nat} {D : va_G} {D3 : Nat → ClassId} (hX : qX z ex s s.heap) (hS : va_S (qA z) s.heap H locs) (hn : n ≤ 77) (hP : va_P D qC (qw z ex D3 n f) H) : z + n ≤ H.size := by
  match n, hn, hP with
  | 0, _, _ => exact Nat.le_trans hX.1 hS.1
  | n + 1, hn, hP =>
    have := (hP n _ (qw_at (Nat.lt_succ_self n) (by omega))).lt
    show z + n + 1 ≤ H.size
    exact this
/-- where all that was made since the method's start is logical, the heap's size is known -/
theorem q_size {p : Program} {e : Env} {R : Room} {s : State} {m : MethodId} {args : Array Value} {below : List Frame} {meth : Method} {c : Code} {H : Heap} {locs : List Loc} {z : Nat} {ex : Nat → Nat} {D : va_G} {D3 : Nat → ClassId} {T : State}
    (C : qCx K p R s m args meth c z ex D D3) (hP : va_P D qC (qw z ex D3 n f) H) (hS : va_S (qA z) s.heap H locs) (hT : T.heap = H) (X9 : Stand p (kl K) e R s m args below meth c T locs kc ks) (hx : kx K = true ∧ n = kn K + kc ∧ (kc = 0 ∨ n ≤ 77)) : H.size = z + n ∧ n ≤ 77 := by
  have h1 := X9.heapSize
  have h0 := C.2.2.2.2.2.2.2.2.2.1 hx.1
  have hn : n ≤ 77 := by omega
  rw [hT, h0.1] at h1
  have h2 := q_low C.2.2.2.2.2.2.2.1 hS hn hP
  have h3 := hx.2.1
  omega
theorem qr_callV {ci N : Nat} {T9 : u_T} {fs : List Value} (hd : decode (kcc K) pc = .ok (.invokevirtual idx, 3)) (hL : qLk (kown K) idx y cc nL ret na) (hi : Cond.instanceMethod y ∈ qg) (hs : Cond.selects y.cls y y ∈ qg) (hc : qC[ci]? = some (y.cls, T9, N)) (hq : q < n) (hq5 : q < 77) (hf : f q = .inr (ci, fs))
    (hsp : qSp (kl K) y cc nL ret x d mc ms (.ref q :: As) n f E') (hn : As.length = na) (hstk : stk = As.reverse ++ .ref q :: st) (hrm : (st.map fun v => v.category).sum ≤ 8) (hdep : d + 1 ≤ kd K) (hloc : 19 + nL + 34 * d ≤ 34 * kd K) (hkc : kc + mc ≤ kmc K) (hks : ks + ms ≤ kms K) (hx : x = true → kx K = true ∧ n = kn K + kc ∧ (kc = 0 ∨ n ≤ 77))
    (k : ∀ (v : Option Value) (n' : Nat) (f' : Nat → va_E), E' v n' f' → qR K E X (pc + 3) lv (v.toList ++ st) n' (kc + mc) (ks + ms) f') : qR K E X pc lv stk n kc ks f := by
  intro p e R s m args below meth c H locs ls Q z ex D D3 C hP hS hl hE
  subst hstk
  intro T hT X9
  obtain ⟨l1, l2, l3, l4, l5, l6⟩ := hL
  have hR : R = qrm (kd K) (kmc K) (kms K) := C.2.2.2.2.2.2.2.2.1
  have hstk : (As.reverse ++ .ref q :: st).map (qv z ex) = (As.map (qv z ex)).reverse ++ .ref (qa z ex q) :: st.map (qv z ex) := by
    rw [List.map_append, List.map_reverse]
    rfl
  have hr := va_runV (l := kl K) (e := e) (below := below) (meth := meth) (locs := locs) (cells := kc) (slots := ks) (R := R) (H := H) (C := y.cls) (b := qa z ex q) (As := As.map (qv z ex)) (rest := st.map (qv z ex)) (g := F0 m pc ls ((As.reverse ++ .ref q :: st).map (qv z ex))) ⟨C.1, C.2.1, C.2.2.1, C.2.2.2.1, C.2.2.2.2.1⟩ (hsp z ex D D3) (cwV na C.2.2.2.2.1 (qg_all (fun w hw => by
      rcases List.mem_append.mp hw with h | h
      · rcases List.mem_cons.mp h with rfl | h
        · exact l1
        rcases List.mem_cons.mp h with rfl | h
        · exact hi
        rcases List.mem_cons.mp h with rfl | h
        · exact hs
        rcases List.mem_cons.mp h with rfl | h
        · exact l2
        cases h
      · rcases List.mem_cons.mp h with rfl | h
        · exact l3
        · exact h)) rfl rfl rfl ⟨rfl, l4, l5, l6⟩ (by rw [hR]; exact ⟨hdep, by show 8 + (nL + 11) + (34 * d + 12) ≤ 34 * kd K + 12; omega⟩))
    ⟨q_blind, by rw [qa_lt hq5]; exact va_recv C.2.2.2.2.2.2.1 hP hc (qe_obj hq hq5 hf), q_pre C hP hS (fun h => q_size C hP hS hT X9 (hx h))⟩ rfl (by rw [List.length_map]; exact hn) hl.1 hstk (lv_room (by rw [q_cat]; exact hrm)) hd (by rw [hR]; exact ⟨hkc, hks⟩)
  refine q_cont hr hS (fun v n' f' H1 locs1 hE1 hP1 hS1 => ?_) T hT X9
  have h9 := k v n' f' hE1 p e R s m args below meth c H1 locs1 ls Q z ex D D3 C hP1 hS1 hl hE
  rw [List.map_append] at h9
  have h8 : (v.map (qv z ex)).toList = v.toList.map (qv z ex) := by cases v <;> rfl
  rw [h8]
  exact h9
end QC
