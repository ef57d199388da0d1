/-! the judgement qR: one method's walk, over a world of logical cells (cell k of the run lies at z + k), with the machine's context hidden -/
/-- where the logical cell k lies: those that the run made at z + k, the given ones (the script, text constants) by ex -/
def qa (z : Nat) (ex : Nat → Nat) (k : Nat) : Nat := if k < 77 then z + k else ex k
def qv (z : Nat) (ex : Nat → Nat) (v : Value) : Value := match v with
  | .ref k => .ref (qa z ex k)
  | .int i => .int i
  | .long i => .long i
  | .float i => .float i
  | .double i => .double i
  | .null => .null
  | .retAddr i => .retAddr i
def qp (z : Nat) (ex : Nat → Nat) (q : Nat × Value) : Nat × Value := (q.1, qv z ex q.2)
def qarr (z : Nat) (ex : Nat → Nat) (a : vp_A) : vp_A := match a with
  | (n, .inr (.inr (.inr (.inr g)))) => (n, .inr (.inr (.inr (.inr fun j => (g j).map (qa z ex)))))
  | (n, .inl g) => (n, .inl g)
  | (n, .inr (.inl g)) => (n, .inr (.inl g))
  | (n, .inr (.inr (.inl g))) => (n, .inr (.inr (.inl g)))
  | (n, .inr (.inr (.inr (.inl g)))) => (n, .inr (.inr (.inr (.inl g))))
def qe (z : Nat) (ex : Nat → Nat) (D3 : Nat → ClassId) (e : va_E) : va_E := match e with
  | .inl (t, a) => .inl (D3 t, qarr z ex a)
  | .inr (ci, fs) => .inr (ci, fs.map (qv z ex))
def qw (z : Nat) (ex : Nat → Nat) (D3 : Nat → ClassId) (n : Nat) (f : Nat → va_E) : va_W := (List.range (min n 77)).map fun k => (z + k, qe z ex D3 (f k))
theorem qa_lt {z : Nat} {ex : Nat → Nat} {k : Nat} (h : k < 77) : qa z ex k = z + k := if_pos h
theorem qv_cat (z : Nat) (ex : Nat → Nat) (v : Value) : (qv z ex v).category = v.category := by cases v <;> rfl
theorem qw_at {z : Nat} {ex : Nat → Nat} {D3 : Nat → ClassId} {n : Nat} {f : Nat → va_E} {k : Nat} (h : k < n) (h7 : k < 77) : (qw z ex D3 n f)[k]? = some (z + k, qe z ex D3 (f k)) := by
  have h8 : k < min n 77 := by omega
  simp [qw, h8]
theorem qw_len (z : Nat) (ex : Nat → Nat) (D3 : Nat → ClassId) (n : Nat) (f : Nat → va_E) : (qw z ex D3 n f).length = min n 77 := by simp [qw]
theorem qw_set {z : Nat} {ex : Nat → Nat} {D3 : Nat → ClassId} {n : Nat} {f : Nat → va_E} {k : Nat} (e : va_E) : (qw z ex D3 n f).set k (z + k, qe z ex D3 e) = qw z ex D3 n (va_up f k e) := by
  apply List.ext_getElem?
  intro i
  rw [List.getElem?_set]
  by_cases hi : i < n ∧ i < 77
  · by_cases hk : k = i
    · subst hk
      rw [if_pos rfl, qw_len, if_pos (by omega), qw_at hi.1 hi.2]
      simp [va_up]
    · rw [if_neg hk, qw_at hi.1 hi.2, qw_at hi.1 hi.2]
      simp [va_up, Ne.symm hk]
  · have h1 : (qw z ex D3 n f)[i]? = none := by simp [qw_len]; omega
    have h2 : (qw z ex D3 n (va_up f k e))[i]? = none := by simp [qw_len]; omega
    rw [h1, h2, qw_len]
    split
    · rw [if_neg (by omega)]
    · rfl
theorem qw_congr {z : Nat} {ex : Nat → Nat} {D3 : Nat → ClassId} {n : Nat} {f g : Nat → va_E} (h : ∀ k, k < n → f k = g k) : qw z ex D3 n f = qw z ex D3 n g := by
  apply List.map_congr_left
  intro k hk
  rw [h k (by have := List.mem_range.mp hk; omega)]
theorem qw_push {z : Nat} {ex : Nat → Nat} {D3 : Nat → ClassId} {n : Nat} {f : Nat → va_E} (hn : n < 77) (e : va_E) : qw z ex D3 n f ++ [(z + n, qe z ex D3 e)] = qw z ex D3 (n + 1) (va_up f n e) := by
  have h1 : qw z ex D3 n f = qw z ex D3 n (va_up f n e) := qw_congr fun k hk => by simp [va_up, Nat.ne_of_lt hk]
  rw [h1]
  have h2 : min (n + 1) 77 = min n 77 + 1 := by omega
  have h3 : min n 77 = n := by omega
  simp only [qw, h2, List.range_succ]
  simp [h3, va_up]
/-- what the run may change: its own cells -/
def qA (z : Nat) : Nat → Prop := fun q => z ≤ q ∧ q < z + 77
theorem qw_D (z : Nat) (ex : Nat → Nat) (D3 : Nat → ClassId) (n : Nat) (f : Nat → va_E) : va_D (qA z) (qw z ex D3 n f) := by
  have key : ∀ (i : Nat) (p : Nat × va_E), (qw z ex D3 n f)[i]? = some p → p.1 = z + i ∧ i < 77 := by
    intro i p hp
    have hi : i < min n 77 := by
      have := (List.getElem?_eq_some_iff.mp hp).1
      rwa [qw_len] at this
    rw [qw_at (by omega) (by omega)] at hp
    cases hp
    exact ⟨rfl, by omega⟩
  refine ⟨fun i j p q hp hq h => ?_, fun k q hq => ?_⟩
  · have := key i p hp
    have := key j q hq
    omega
  · have := key k q hq
    show z ≤ q.1 ∧ q.1 < z + 77
    omega

/-- words that stay by a law of their own: calls across the nest -/
def qNg : List Cond := lw_tbl.filter fun w => match w with | .methodLinkNest .. => true | _ => false
/-- classes of which there are arrays -/
def qAo : List Cond := [.arrayOver (.object "BillForge$Tariff"), .arrayOver (.object "BillForge$Customer")]
/-- Throwable's statics that a throw reads -/
def qSt : List (String × String) := [("UNASSIGNED_STACK", "[Ljava/lang/StackTraceElement;"), ("SUPPRESSED_SENTINEL", "Ljava/util/List;")]
def qZ (z : Nat) (n d : String) (U : State) (H : Heap) : Prop := ∃ (c i a : Nat) (k : Class) (f : Field) (cell : Cell) (v : Value), U.vm.findClass "java/lang/Throwable" = some c ∧ U.fieldFound? "java/lang/Throwable" n d = some (c, k, i, f) ∧ f.isStatic = true ∧ k.statics = some a ∧ H[a]? = some cell ∧ cell.vm.isStatics = true ∧ cell.cls = c ∧ f.slot < cell.slots.size ∧ k.staticTypes[f.slot]? = some f.type ∧ cell.slots[f.slot]? = some v ∧ (v = .null ∨ ∃ t, v = .ref t) ∧ a < z
theorem qZ_moved {z : Nat} {n d : String} {u U : State} {H H1 : Heap} (hvm : u.vm.Alike U.vm) (hq : ∀ a : Nat, a < H.size → a < z → H1[a]? = H[a]?) (h : qZ z n d u H) : qZ z n d U H1 := by
  obtain ⟨c, i, a, k, f, cell, v, h1, h2, h3, h4, h5, h6, h7, h8, h9, h10, h11, h12⟩ := h
  obtain ⟨k', hi', he⟩ := State.fieldFound?_setVm hvm h2
  exact ⟨c, i, a, k', f, cell, v, by rw [hvm.findClass]; exact h1, hi', h3, by rw [he]; exact h4, by rw [hq a (Array.getElem?_eq_some_iff.mp h5).1 h12]; exact h5, h6, h7, h8, by rw [he]; exact h9, h10, h11, h12⟩
theorem qZ_lays {z : Nat} {n d : String} {U : State} {args : Array Value} (h : qZ z n d U U.heap) : (Cond.laysStatic "java/lang/Throwable" n d).before args U = true := by
  obtain ⟨c, i, a, k, f, cell, v, h1, h2, h3, h4, h5, h6, h7, h8, h9, -⟩ := h
  exact Cond.laysStatic_of h1 h2 h3 h4 h5 h6 h7 h8 h9
theorem qZ_isRef {z : Nat} {n d : String} {U : State} {args : Array Value} (h : qZ z n d U U.heap) : (Cond.isRef (.static "java/lang/Throwable" n d)).before args U = true := by
  obtain ⟨c, i, a, k, f, cell, v, h1, h2, h3, h4, h5, h6, h7, h8, h9, h10, h11, h12⟩ := h
  have hv : (Term.static "java/lang/Throwable" n d).eval args U none [] U = some v := by
    simp [Term.eval, State.fieldNamed?, h2, h3, h4, h5, h6, h10]
  rcases h11 with rfl | ⟨t, rfl⟩ <;> simp [Cond.before, Cond.holds, Cond.value, hv]
theorem qZ_of {n d : String} {U : State} {args : Array Value} (hl : (Cond.laysStatic "java/lang/Throwable" n d).before args U = true) (hr : (Cond.isRef (.static "java/lang/Throwable" n d)).before args U = true) : qZ U.heap.size n d U U.heap := by
  obtain ⟨c, k, i, f, a, cell, h1, h2, h3, h4, h5, h6, h7, h8, h9⟩ := Cond.laysStatic_spec hl
  refine ⟨c, i, a, k, f, cell, cell.slots[f.slot], h1, h2, h3, h4, h5, h6, h7, h8, h9, by simp [h8], ?_, (Array.getElem?_eq_some_iff.mp h5).1⟩
  have hv : (Term.static "java/lang/Throwable" n d).eval args U none [] U = some cell.slots[f.slot] := by
    simp [Term.eval, State.fieldNamed?, h2, h3, h4, h5, h6, h8]
  simp only [Cond.before, Cond.holds, Cond.value, hv] at hr
  cases hc : cell.slots[f.slot] <;> simp_all
/-- what is not an instance of what -/
def qNc : List (String × String) := [("java/lang/IllegalStateException", "java/lang/IllegalArgumentException"), ("java/lang/IndexOutOfBoundsException", "java/lang/IllegalArgumentException"), ("java/lang/IllegalStateException", "java/lang/IndexOutOfBoundsException"), ("java/lang/IllegalArgumentException", "java/util/NoSuchElementException")]
theorem qNc_moved {c1 c2 : String} {u U : State} (hvm : u.vm.Alike U.vm) (h : (Cond.not (.castable c1 c2)).before #[] u = true) : (Cond.not (.castable c1 c2)).before #[] U = true := by
  have h1 := Cond.holds_not_iff.mp h
  refine Cond.holds_not_iff.mpr ?_
  simp only [Cond.value] at h1 ⊢
  simp only [hvm.findClass, hvm.assignable]
  exact h1
/-- the String constants (78 .., their bytes 84 ..), the two statics that their methods read (the second's object is 90) -/
def qSx (z : Nat) (ex : Nat → Nat) (U : State) (H : Heap) : Prop := (∀ (i : Nat) (q : Nat × String), qStr[i]? = some q → vk_R qStrO q.1 q.2 (ex (78 + i)) U) ∧ vk_S 6 qLenS qBytS (fun i => ex (78 + i)) (fun i => ex (84 + i)) (qA z) U H ∧ va_Z "java/lang/String" "COMPACT_STRINGS" "Z" (.int 1) (qA z) U H ∧ (va_Z "jdk/internal/util/Preconditions" "SIOOBE_FORMATTER" "Ljava/util/function/BiFunction;" .null (qA z) U H ∨ va_Z "jdk/internal/util/Preconditions" "SIOOBE_FORMATTER" "Ljava/util/function/BiFunction;" (.ref (ex 90)) (qA z) U H)
theorem qSx_warm {z : Nat} {ex : Nat → Nat} {s U : State} {H H1 : Heap} (hW : s.WarmedH U.vm) (hq : ∀ a : Nat, a < H.size → ¬ qA z a → H1[a]? = H[a]?) (h : qSx z ex s H) : qSx z ex U H1 :=
  ⟨fun i q hi => (h.1 i q hi).warm hW, vk_S.moved hW.alike (h.2.1.kept hq), va_Z.moved hW.alike (h.2.2.1.kept hq), h.2.2.2.elim (fun g => Or.inl (va_Z.moved hW.alike (g.kept hq))) (fun g => Or.inr (va_Z.moved hW.alike (g.kept hq)))⟩
/-- what is given at the start and never changes -/
def qX (z : Nat) (ex : Nat → Nat) (U : State) (H : Heap) : Prop := z ≤ H.size ∧ (∀ w ∈ qNg, va_Nw w U) ∧ (∀ Cn, Cond.arrayOver (.object Cn) ∈ qAo → va_AO Cn U) ∧ (∀ q ∈ qSt, qZ z q.1 q.2 U H) ∧ (∀ q ∈ qNc, (Cond.not (.castable q.1 q.2)).before #[] U = true) ∧ (∀ w ∈ qFw, w.before #[] U = true) ∧ qSx z ex U H
theorem qX.warm {z : Nat} {ex : Nat → Nat} {s U : State} {H H1 : Heap} (h : qX z ex s H) (hW : s.WarmedH U.vm) (hz : H.size ≤ H1.size) (hq : ∀ a : Nat, a < H.size → ¬ qA z a → H1[a]? = H[a]?) : qX z ex U H1 := by
  refine ⟨Nat.le_trans h.1 hz, fun w hw => ?_, fun Cn hC => va_AO.moved hW.alike (h.2.2.1 Cn hC), fun q hq9 => qZ_moved hW.alike (fun a h1 h2 => hq a h1 (fun h3 => absurd h3.1 (by omega))) (h.2.2.2.1 q hq9), fun q hq9 => qNc_moved hW.alike (h.2.2.2.2.1 q hq9), fun w hw => word_face hW (qFw_ok w hw).1 (qFw_ok w hw).2 (h.2.2.2.2.2.1 w hw), qSx_warm hW hq h.2.2.2.2.2.2⟩
  have h1 := h.2.1 w hw
  have h2 := (List.mem_filter.mp hw).2
  cases w <;> first | exact va_Nw.warmM hW h1 | exact absurd h2 Bool.false_ne_true
def qtys (D3 : Nat → ClassId) : List (ClassId × FieldType) := (List.range qT.length).map fun t => (D3 t, qT.getD t .int)
theorem qtys_at {D3 : Nat → ClassId} {t : Nat} {ty : FieldType} (h : qT[t]? = some ty) : (qtys D3)[t]? = some (D3 t, ty) := by
  have hl : t < qT.length := (List.getElem?_eq_some_iff.mp h).1
  have h2 : qT.getD t .int = ty := by simp [List.getD, h]
  rw [← h2]
  unfold qtys
  rw [List.getElem?_map, List.getElem?_range hl]
  rfl
/-- a world at a state -/
def qW (z : Nat) (ex : Nat → Nat) (D : va_G) (D3 : Nat → ClassId) (x : Bool) (n : Nat) (f : Nat → va_E) (U : State) : Prop :=
  va_P D qC (qw z ex D3 n f) U.heap ∧ va_K D qC (qtys D3) U ∧ (x = true → U.heap.size = z + n ∧ n ≤ 77) ∧ qX z ex U U.heap
/-- a method: launch, its class, its bytes, how many locals, what it answers, is it a constructor; is the heap's size known; how deep it may call; the cells and slots that it makes; how many logical cells there are at its start -/
abbrev qK : Type := Launch × String × ByteArray × Nat × Option FieldType × Bool × Bool × Nat × Nat × Nat × Nat × (Nat → (Nat → Nat) → State → Code → Prop)
abbrev kl (K : qK) : Launch := K.1
abbrev kown (K : qK) : String := K.2.1
abbrev kcc (K : qK) : ByteArray := K.2.2.1
abbrev knL (K : qK) : Nat := K.2.2.2.1
abbrev kret (K : qK) : Option FieldType := K.2.2.2.2.1
abbrev kini (K : qK) : Bool := K.2.2.2.2.2.1
abbrev kx (K : qK) : Bool := K.2.2.2.2.2.2.1
abbrev kd (K : qK) : Nat := K.2.2.2.2.2.2.2.1
abbrev kmc (K : qK) : Nat := K.2.2.2.2.2.2.2.2.1
abbrev kms (K : qK) : Nat := K.2.2.2.2.2.2.2.2.2.1
abbrev kn (K : qK) : Nat := K.2.2.2.2.2.2.2.2.2.2.1
/-- what else the walk may take as given: of the start, and of the method's table -/
abbrev kP (K : qK) : Nat → (Nat → Nat) → State → Code → Prop := K.2.2.2.2.2.2.2.2.2.2.2
abbrev q0 : Nat → (Nat → Nat) → State → Code → Prop := fun _ _ _ _ => True
def qrm (d mc ms : Nat) : Room := { frames := d, cells := mc, slots := ms, locals := 34 * d + 12 }
/-- the machine's context of a walk -/
def qCx (K : qK) (p : Program) (R : Room) (s : State) (m : MethodId) (args : Array Value) (meth : Method) (c : Code) (z : Nat) (ex : Nat → Nat) (D : va_G) (D3 : Nat → ClassId) : Prop :=
  p.tables.exec = Jvm.exec ∧ c.code = kcc K ∧ c.maxLocals = knL K ∧ s.vm.findClass (kown K) = some m.cls ∧ (∀ w ∈ qg, w.before args s = true) ∧ (kini K = true → meth.name = "<init>") ∧ va_K D qC (qtys D3) s ∧ qX z ex s s.heap ∧ R = qrm (kd K) (kmc K) (kms K) ∧ (kx K = true → s.heap.size = z + kn K ∧ kn K ≤ 77) ∧ kP K z ex s c
abbrev qE : Type := Option Value → Nat → (Nat → va_E) → Prop
abbrev qXC : Type := String → Nat → (Nat → va_E) → Prop
/-- a return instruction, with its answer on the stack -/
def qRet (cc : ByteArray) (pc : Nat) (ret : Option FieldType) (v : Option Value) : Prop := match v with
  | none => ret = none ∧ decode cc pc = .ok (.return_, 1)
  | some (.int i) => (∃ ty, ret = some ty ∧ narrow ty (.int i) = .int i) ∧ decode cc pc = .ok (.ireturn, 1)
  | some (.long _) => ret = some .long ∧ decode cc pc = .ok (.lreturn, 1)
  | some (.ref _) => (∃ rt, ret = some rt ∧ ((∃ n, rt = .object n) ∨ ∃ t, rt = .array t)) ∧ decode cc pc = .ok (.areturn, 1)
  | _ => False
/-- what the ends of the walk give: a return, a throw -/
def qEnd (K : qK) (E : qE) (X : qXC) (p : Program) (e : Env) (R : Room) (s : State) (m : MethodId) (args : Array Value) (below : List Frame) (meth : Method) (c : Code) (Q : State → Prop) (z : Nat) (ex : Nat → Nat) (D : va_G) (D3 : Nat → ClassId) : Prop :=
  (∀ (v : Option Value) (n kc ks : Nat) (f : Nat → va_E) (H : Heap) (locs : List Loc) (pc : Nat) (ls : Array Slot), E v n f → kc ≤ kmc K → ks ≤ kms K → va_P D qC (qw z ex D3 n f) H → va_S (qA z) s.heap H locs → qRet (kcc K) pc (kret K) v →
    W p (kl K) e R s m args below meth c H locs kc ks Q (F0 m pc ls (v.toList.map (qv z ex)))) ∧
  (∀ (En : String) (n kc ks : Nat) (f : Nat → va_E) (H : Heap) (locs : List Loc) (pc : Nat) (ls : Array Slot) (rest : List Value), X En n f → kc + 1 ≤ kmc K → ks + 6 ≤ kms K → va_P D qC (qw z ex D3 n f) H → va_S (qA z) s.heap H locs → ls.size = knL K → (rest.map fun v => v.category).sum ≤ 8 → qThrow (kown K) (kcc K) pc En →
    W p (kl K) e R s m args below meth c H locs kc ks Q (F0 m pc ls rest))
def qR (K : qK) (E : qE) (X : qXC) (pc : Nat) (lv : List (Nat × Value)) (st : List Value) (n kc ks : Nat) (f : Nat → va_E) : Prop :=
  ∀ (p : Program) (e : Env) (R : Room) (s : State) (m : MethodId) (args : Array Value) (below : List Frame) (meth : Method) (c : Code) (H : Heap) (locs : List Loc) (ls : Array Slot) (Q : State → Prop) (z : Nat) (ex : Nat → Nat) (D : va_G) (D3 : Nat → ClassId),
    qCx K p R s m args meth c z ex D D3 → va_P D qC (qw z ex D3 n f) H → va_S (qA z) s.heap H locs → lv_has ls (knL K) (lv.map (qp z ex)) → qEnd K E X p e R s m args below meth c Q z ex D D3 →
    W p (kl K) e R s m args below meth c H locs kc ks Q (F0 m pc ls (st.map (qv z ex)))
section QR
variable {K : qK} {E : qE} {X : qXC} {pc : Nat} {lv : List (Nat × Value)} {st : List Value} {n kc ks : Nat} {f : Nat → va_E}

theorem qr_iconst {i : Int} {v : Int32} (hd : decode (kcc K) pc = .ok (.iconst i, 1)) (hv : Int32.ofInt i = v) (k : qR K E X (pc + 1) lv (.int v :: st) n kc ks f) : qR K E X pc lv st n kc ks f := by
  intro p e R s m args below meth c H locs ls Q z ex D D3 C hP hS hl hE
  exact lv_iconst C.1 C.2.1 hd hv (k p e R s m args below meth c H locs ls Q z ex D D3 C hP hS hl hE)
theorem qr_bipush {i : Int} {v : Int32} (hd : decode (kcc K) pc = .ok (.bipush i, 2)) (hv : (Int8.ofInt i).toInt32 = v) (k : qR K E X (pc + 2) lv (.int v :: st) n kc ks f) : qR K E X pc lv st n kc ks f := by
  intro p e R s m args below meth c H locs ls Q z ex D D3 C hP hS hl hE
  exact lv_bipush C.1 C.2.1 hd hv (k p e R s m args below meth c H locs ls Q z ex D D3 C hP hS hl hE)
theorem qr_sipush {i : Int} {v : Int32} (hd : decode (kcc K) pc = .ok (.sipush i, 3)) (hv : (Int16.ofInt i).toInt32 = v) (k : qR K E X (pc + 3) lv (.int v :: st) n kc ks f) : qR K E X pc lv st n kc ks f := by
  intro p e R s m args below meth c H locs ls Q z ex D D3 C hP hS hl hE
  exact lv_sipush C.1 C.2.1 hd hv (k p e R s m args below meth c H locs ls Q z ex D D3 C hP hS hl hE)
theorem qr_lconst {i : Fin 2} {v : Int64} (hd : decode (kcc K) pc = .ok (.lconst i, 1)) (hv : Int64.ofNat (i : Nat) = v) (k : qR K E X (pc + 1) lv (.long v :: st) n kc ks f) : qR K E X pc lv st n kc ks f := by
  intro p e R s m args below meth c H locs ls Q z ex D D3 C hP hS hl hE
  exact lv_lconst C.1 C.2.1 hd hv (k p e R s m args below meth c H locs ls Q z ex D D3 C hP hS hl hE)
theorem qr_ldc {i : Nat} {v : Int32} (hd : decode (kcc K) pc = .ok (.ldc i, 2)) (hw : Cond.constant (kown K) i v ∈ qg) (k : qR K E X (pc + 2) lv (.int v :: st) n kc ks f) : qR K E X pc lv st n kc ks f := by
  intro p e R s m args below meth c H locs ls Q z ex D D3 C hP hS hl hE
  exact lv_ldc C.1 C.2.1 C.2.2.2.1 (C.2.2.2.2.1 _ hw) hd (k p e R s m args below meth c H locs ls Q z ex D D3 C hP hS hl hE)
theorem qr_ldc2 {i : Nat} {v : Int64} (hd : decode (kcc K) pc = .ok (.ldc2_w i, 3)) (hw : Cond.constantLong (kown K) i v ∈ qg) (k : qR K E X (pc + 3) lv (.long v :: st) n kc ks f) : qR K E X pc lv st n kc ks f := by
  intro p e R s m args below meth c H locs ls Q z ex D D3 C hP hS hl hE
  exact lv_ldc2 C.1 C.2.1 C.2.2.2.1 (C.2.2.2.2.1 _ hw) hd (k p e R s m args below meth c H locs ls Q z ex D D3 C hP hS hl hE)
/-- the local i holds v -/
def qL (lv : List (Nat × Value)) (i : Nat) : Option Value := (lv.find? fun q => q.1 == i).map (·.2)
theorem qL_has {lv : List (Nat × Value)} {i : Nat} {v : Value} {z : Nat} {ex : Nat → Nat} {ls : Array Slot} {nL : Nat} (hl : lv_has ls nL (lv.map (qp z ex))) (h : qL lv i = some v) : ls[i]? = some (.val (qv z ex v)) := by
  obtain ⟨q, hq, rfl⟩ := Option.map_eq_some_iff.mp h
  have h1 : q.1 = i := by simpa using List.find?_some hq
  have h2 : q ∈ lv := List.mem_of_find?_eq_some hq
  have h3 := hl.2.2 (qp z ex q) (List.mem_map.mpr ⟨q, h2, rfl⟩)
  rw [← h1]
  exact h3
/-- a local of one word, of two words, is stored -/
def qS1 (lv : List (Nat × Value)) (i : Nat) (v : Value) : List (Nat × Value) := (i, v) :: lv.filter (fun q => !(q.1 == i) && !(q.1 + 1 == i && q.2.category == 2))
def qS2 (lv : List (Nat × Value)) (i : Nat) (v : Value) : List (Nat × Value) := (i, v) :: lv.filter (fun q => !(q.1 == i) && (!(q.1 == i + 1) && !(q.1 + 1 == i && q.2.category == 2)))
theorem qS1_map {lv : List (Nat × Value)} {i : Nat} {v : Value} {z : Nat} {ex : Nat → Nat} : (i, qv z ex v) :: (lv.map (qp z ex)).filter (fun q => !(q.1 == i) && !(q.1 + 1 == i && q.2.category == 2)) = (qS1 lv i v).map (qp z ex) := by
  simp only [qS1, List.map_cons, List.filter_map]
  congr 1
  congr 1
  apply List.filter_congr
  intro q _
  simp [qp, qv_cat]
theorem qS2_map {lv : List (Nat × Value)} {i : Nat} {v : Value} {z : Nat} {ex : Nat → Nat} : (i, qv z ex v) :: (lv.map (qp z ex)).filter (fun q => !(q.1 == i) && (!(q.1 == i + 1) && !(q.1 + 1 == i && q.2.category == 2))) = (qS2 lv i v).map (qp z ex) := by
  simp only [qS2, List.map_cons, List.filter_map]
  congr 1
  congr 1
  apply List.filter_congr
  intro q _
  simp [qp, qv_cat]
theorem qr_iload_n {j : Fin 4} {i : Nat} {x : Int32} (hd : decode (kcc K) pc = .ok (.iload_n j, 1)) (hi : (j : Nat) = i) (h : qL lv i = some (.int x)) (k : qR K E X (pc + 1) lv (.int x :: st) n kc ks f) : qR K E X pc lv st n kc ks f := by
  intro p e R s m args below meth c H locs ls Q z ex D D3 C hP hS hl hE
  exact lv_iload_n C.1 C.2.1 hd hi (qL_has hl h) (k p e R s m args below meth c H locs ls Q z ex D D3 C hP hS hl hE)
theorem qr_iload {i : Nat} {x : Int32} (hd : decode (kcc K) pc = .ok (.iload i, 2)) (h : qL lv i = some (.int x)) (k : qR K E X (pc + 2) lv (.int x :: st) n kc ks f) : qR K E X pc lv st n kc ks f := by
  intro p e R s m args below meth c H locs ls Q z ex D D3 C hP hS hl hE
  exact lv_iload C.1 C.2.1 hd (qL_has hl h) (k p e R s m args below meth c H locs ls Q z ex D D3 C hP hS hl hE)
theorem qr_istore_n {j : Fin 4} {i : Nat} {x : Int32} {lv' : List (Nat × Value)} (hd : decode (kcc K) pc = .ok (.istore_n j, 1)) (hi : (j : Nat) = i) (hn : i < knL K) (hlv : qS1 lv i (.int x) = lv') (k : qR K E X (pc + 1) lv' (st) n kc ks f) : qR K E X pc lv (.int x :: st) n kc ks f := by
  intro p e R s m args below meth c H locs ls Q z ex D D3 C hP hS hl hE
  subst hlv
  exact lv_istore_n C.1 C.2.1 hd hi hl hn (qS1_map (v := .int x)) (fun ls hl => k p e R s m args below meth c H locs ls Q z ex D D3 C hP hS hl hE)
theorem qr_istore {i : Nat} {x : Int32} {lv' : List (Nat × Value)} (hd : decode (kcc K) pc = .ok (.istore i, 2)) (hn : i < knL K) (hlv : qS1 lv i (.int x) = lv') (k : qR K E X (pc + 2) lv' (st) n kc ks f) : qR K E X pc lv (.int x :: st) n kc ks f := by
  intro p e R s m args below meth c H locs ls Q z ex D D3 C hP hS hl hE
  subst hlv
  exact lv_istore C.1 C.2.1 hd hl hn (qS1_map (v := .int x)) (fun ls hl => k p e R s m args below meth c H locs ls Q z ex D D3 C hP hS hl hE)
theorem qr_lload_n {j : Fin 4} {i : Nat} {x : Int64} (hd : decode (kcc K) pc = .ok (.lload_n j, 1)) (hi : (j : Nat) = i) (h : qL lv i = some (.long x)) (k : qR K E X (pc + 1) lv (.long x :: st) n kc ks f) : qR K E X pc lv st n kc ks f := by
  intro p e R s m args below meth c H locs ls Q z ex D D3 C hP hS hl hE
  exact lv_lload_n C.1 C.2.1 hd hi (qL_has hl h) (k p e R s m args below meth c H locs ls Q z ex D D3 C hP hS hl hE)
theorem qr_lload {i : Nat} {x : Int64} (hd : decode (kcc K) pc = .ok (.lload i, 2)) (h : qL lv i = some (.long x)) (k : qR K E X (pc + 2) lv (.long x :: st) n kc ks f) : qR K E X pc lv st n kc ks f := by
  intro p e R s m args below meth c H locs ls Q z ex D D3 C hP hS hl hE
  exact lv_lload C.1 C.2.1 hd (qL_has hl h) (k p e R s m args below meth c H locs ls Q z ex D D3 C hP hS hl hE)
theorem qr_lstore_n {j : Fin 4} {i : Nat} {x : Int64} {lv' : List (Nat × Value)} (hd : decode (kcc K) pc = .ok (.lstore_n j, 1)) (hi : (j : Nat) = i) (hn : i + 1 < knL K) (hlv : qS2 lv i (.long x) = lv') (k : qR K E X (pc + 1) lv' (st) n kc ks f) : qR K E X pc lv (.long x :: st) n kc ks f := by
  intro p e R s m args below meth c H locs ls Q z ex D D3 C hP hS hl hE
  subst hlv
  exact lv_lstore_n C.1 C.2.1 hd hi hl hn (qS2_map (v := .long x)) (fun ls hl => k p e R s m args below meth c H locs ls Q z ex D D3 C hP hS hl hE)
theorem qr_lstore {i : Nat} {x : Int64} {lv' : List (Nat × Value)} (hd : decode (kcc K) pc = .ok (.lstore i, 2)) (hn : i + 1 < knL K) (hlv : qS2 lv i (.long x) = lv') (k : qR K E X (pc + 2) lv' (st) n kc ks f) : qR K E X pc lv (.long x :: st) n kc ks f := by
  intro p e R s m args below meth c H locs ls Q z ex D D3 C hP hS hl hE
  subst hlv
  exact lv_lstore C.1 C.2.1 hd hl hn (qS2_map (v := .long x)) (fun ls hl => k p e R s m args below meth c H locs ls Q z ex D D3 C hP hS hl hE)
theorem qr_aload_n {j : Fin 4} {i : Nat} {x : Nat} (hd : decode (kcc K) pc = .ok (.aload_n j, 1)) (hi : (j : Nat) = i) (h : qL lv i = some (.ref x)) (k : qR K E X (pc + 1) lv (.ref x :: st) n kc ks f) : qR K E X pc lv st n kc ks f := by
  intro p e R s m args below meth c H locs ls Q z ex D D3 C hP hS hl hE
  exact lv_aload_n C.1 C.2.1 hd hi (qL_has hl h) (k p e R s m args below meth c H locs ls Q z ex D D3 C hP hS hl hE)
theorem qr_aload {i : Nat} {x : Nat} (hd : decode (kcc K) pc = .ok (.aload i, 2)) (h : qL lv i = some (.ref x)) (k : qR K E X (pc + 2) lv (.ref x :: st) n kc ks f) : qR K E X pc lv st n kc ks f := by
  intro p e R s m args below meth c H locs ls Q z ex D D3 C hP hS hl hE
  exact lv_aload C.1 C.2.1 hd (qL_has hl h) (k p e R s m args below meth c H locs ls Q z ex D D3 C hP hS hl hE)
theorem qr_astore_n {j : Fin 4} {i : Nat} {x : Nat} {lv' : List (Nat × Value)} (hd : decode (kcc K) pc = .ok (.astore_n j, 1)) (hi : (j : Nat) = i) (hn : i < knL K) (hlv : qS1 lv i (.ref x) = lv') (k : qR K E X (pc + 1) lv' (st) n kc ks f) : qR K E X pc lv (.ref x :: st) n kc ks f := by
  intro p e R s m args below meth c H locs ls Q z ex D D3 C hP hS hl hE
  subst hlv
  exact lv_astore_n C.1 C.2.1 hd hi hl hn (qS1_map (v := .ref x)) (fun ls hl => k p e R s m args below meth c H locs ls Q z ex D D3 C hP hS hl hE)
theorem qr_astore {i : Nat} {x : Nat} {lv' : List (Nat × Value)} (hd : decode (kcc K) pc = .ok (.astore i, 2)) (hn : i < knL K) (hlv : qS1 lv i (.ref x) = lv') (k : qR K E X (pc + 2) lv' (st) n kc ks f) : qR K E X pc lv (.ref x :: st) n kc ks f := by
  intro p e R s m args below meth c H locs ls Q z ex D D3 C hP hS hl hE
  subst hlv
  exact lv_astore C.1 C.2.1 hd hl hn (qS1_map (v := .ref x)) (fun ls hl => k p e R s m args below meth c H locs ls Q z ex D D3 C hP hS hl hE)
theorem qr_iinc {i : Nat} {j : Int} {x v : Int32} {lv' : List (Nat × Value)} (hd : decode (kcc K) pc = .ok (.iinc i j, 3)) (h : qL lv i = some (.int x)) (hv : x + Int32.ofInt j = v) (hn : i < knL K) (hlv : qS1 lv i (.int v) = lv') (k : qR K E X (pc + 3) lv' (st) n kc ks f) : qR K E X pc lv st n kc ks f := by
  intro p e R s m args below meth c H locs ls Q z ex D D3 C hP hS hl hE
  subst hlv
  obtain ⟨q, hq, hq2⟩ := Option.map_eq_some_iff.mp h
  have h1 : q.1 = i := by simpa using List.find?_some hq
  obtain ⟨kq, hkq⟩ := List.getElem?_of_mem (List.mem_of_find?_eq_some hq)
  have hk2 : (lv.map (qp z ex))[kq]? = some (i, .int x) := by
    rw [List.getElem?_map, hkq]
    obtain ⟨q1, q2⟩ := q
    cases h1; cases hq2
    rfl
  exact lv_iinc (v := v) C.1 C.2.1 hd hl hk2 hv hn (qS1_map (v := .int v)) (fun ls hl => k p e R s m args below meth c H locs ls Q z ex D D3 C hP hS hl hE)
theorem qr_iadd {x y : Int32} (hd : decode (kcc K) pc = .ok (.iadd, 1)) (k : qR K E X (pc + 1) lv (.int (x + y) :: st) n kc ks f) : qR K E X pc lv (.int y :: .int x :: st) n kc ks f := by
  intro p e R s m args below meth c H locs ls Q z ex D D3 C hP hS hl hE
  exact lv_iadd C.1 C.2.1 hd (k p e R s m args below meth c H locs ls Q z ex D D3 C hP hS hl hE)
theorem qr_isub {x y : Int32} (hd : decode (kcc K) pc = .ok (.isub, 1)) (k : qR K E X (pc + 1) lv (.int (x - y) :: st) n kc ks f) : qR K E X pc lv (.int y :: .int x :: st) n kc ks f := by
  intro p e R s m args below meth c H locs ls Q z ex D D3 C hP hS hl hE
  exact lv_isub C.1 C.2.1 hd (k p e R s m args below meth c H locs ls Q z ex D D3 C hP hS hl hE)
theorem qr_imul {x y : Int32} (hd : decode (kcc K) pc = .ok (.imul, 1)) (k : qR K E X (pc + 1) lv (.int (x * y) :: st) n kc ks f) : qR K E X pc lv (.int y :: .int x :: st) n kc ks f := by
  intro p e R s m args below meth c H locs ls Q z ex D D3 C hP hS hl hE
  exact lv_imul C.1 C.2.1 hd (k p e R s m args below meth c H locs ls Q z ex D D3 C hP hS hl hE)
theorem qr_iand {x y : Int32} (hd : decode (kcc K) pc = .ok (.iand, 1)) (k : qR K E X (pc + 1) lv (.int (x &&& y) :: st) n kc ks f) : qR K E X pc lv (.int y :: .int x :: st) n kc ks f := by
  intro p e R s m args below meth c H locs ls Q z ex D D3 C hP hS hl hE
  exact lv_iand C.1 C.2.1 hd (k p e R s m args below meth c H locs ls Q z ex D D3 C hP hS hl hE)
theorem qr_ior {x y : Int32} (hd : decode (kcc K) pc = .ok (.ior, 1)) (k : qR K E X (pc + 1) lv (.int (x ||| y) :: st) n kc ks f) : qR K E X pc lv (.int y :: .int x :: st) n kc ks f := by
  intro p e R s m args below meth c H locs ls Q z ex D D3 C hP hS hl hE
  exact lv_ior C.1 C.2.1 hd (k p e R s m args below meth c H locs ls Q z ex D D3 C hP hS hl hE)
theorem qr_ixor {x y : Int32} (hd : decode (kcc K) pc = .ok (.ixor, 1)) (k : qR K E X (pc + 1) lv (.int (x ^^^ y) :: st) n kc ks f) : qR K E X pc lv (.int y :: .int x :: st) n kc ks f := by
  intro p e R s m args below meth c H locs ls Q z ex D D3 C hP hS hl hE
  exact lv_ixor C.1 C.2.1 hd (k p e R s m args below meth c H locs ls Q z ex D D3 C hP hS hl hE)
theorem qr_ladd {x y : Int64} (hd : decode (kcc K) pc = .ok (.ladd, 1)) (k : qR K E X (pc + 1) lv (.long (x + y) :: st) n kc ks f) : qR K E X pc lv (.long y :: .long x :: st) n kc ks f := by
  intro p e R s m args below meth c H locs ls Q z ex D D3 C hP hS hl hE
  exact lv_ladd C.1 C.2.1 hd (k p e R s m args below meth c H locs ls Q z ex D D3 C hP hS hl hE)
theorem qr_lsub {x y : Int64} (hd : decode (kcc K) pc = .ok (.lsub, 1)) (k : qR K E X (pc + 1) lv (.long (x - y) :: st) n kc ks f) : qR K E X pc lv (.long y :: .long x :: st) n kc ks f := by
  intro p e R s m args below meth c H locs ls Q z ex D D3 C hP hS hl hE
  exact lv_lsub C.1 C.2.1 hd (k p e R s m args below meth c H locs ls Q z ex D D3 C hP hS hl hE)
theorem qr_lmul {x y : Int64} (hd : decode (kcc K) pc = .ok (.lmul, 1)) (k : qR K E X (pc + 1) lv (.long (x * y) :: st) n kc ks f) : qR K E X pc lv (.long y :: .long x :: st) n kc ks f := by
  intro p e R s m args below meth c H locs ls Q z ex D D3 C hP hS hl hE
  exact lv_lmul C.1 C.2.1 hd (k p e R s m args below meth c H locs ls Q z ex D D3 C hP hS hl hE)
theorem qr_land {x y : Int64} (hd : decode (kcc K) pc = .ok (.land, 1)) (k : qR K E X (pc + 1) lv (.long (x &&& y) :: st) n kc ks f) : qR K E X pc lv (.long y :: .long x :: st) n kc ks f := by
  intro p e R s m args below meth c H locs ls Q z ex D D3 C hP hS hl hE
  exact lv_land C.1 C.2.1 hd (k p e R s m args below meth c H locs ls Q z ex D D3 C hP hS hl hE)
theorem qr_lor {x y : Int64} (hd : decode (kcc K) pc = .ok (.lor, 1)) (k : qR K E X (pc + 1) lv (.long (x ||| y) :: st) n kc ks f) : qR K E X pc lv (.long y :: .long x :: st) n kc ks f := by
  intro p e R s m args below meth c H locs ls Q z ex D D3 C hP hS hl hE
  exact lv_lor C.1 C.2.1 hd (k p e R s m args below meth c H locs ls Q z ex D D3 C hP hS hl hE)
theorem qr_lxor {x y : Int64} (hd : decode (kcc K) pc = .ok (.lxor, 1)) (k : qR K E X (pc + 1) lv (.long (x ^^^ y) :: st) n kc ks f) : qR K E X pc lv (.long y :: .long x :: st) n kc ks f := by
  intro p e R s m args below meth c H locs ls Q z ex D D3 C hP hS hl hE
  exact lv_lxor C.1 C.2.1 hd (k p e R s m args below meth c H locs ls Q z ex D D3 C hP hS hl hE)
theorem qr_idiv {x y : Int32} (hd : decode (kcc K) pc = .ok (.idiv, 1)) (h0 : ¬ y = 0) (k : qR K E X (pc + 1) lv (.int (x / y) :: st) n kc ks f) : qR K E X pc lv (.int y :: .int x :: st) n kc ks f := by
  intro p e R s m args below meth c H locs ls Q z ex D D3 C hP hS hl hE
  exact lv_idiv C.1 C.2.1 hd h0 (k p e R s m args below meth c H locs ls Q z ex D D3 C hP hS hl hE)
theorem qr_ldiv {x y : Int64} (hd : decode (kcc K) pc = .ok (.ldiv, 1)) (h0 : ¬ y = 0) (k : qR K E X (pc + 1) lv (.long (x / y) :: st) n kc ks f) : qR K E X pc lv (.long y :: .long x :: st) n kc ks f := by
  intro p e R s m args below meth c H locs ls Q z ex D D3 C hP hS hl hE
  exact lv_ldiv C.1 C.2.1 hd h0 (k p e R s m args below meth c H locs ls Q z ex D D3 C hP hS hl hE)
theorem qr_irem {x y : Int32} (hd : decode (kcc K) pc = .ok (.irem, 1)) (h0 : ¬ y = 0) (k : qR K E X (pc + 1) lv (.int (x - x / y * y) :: st) n kc ks f) : qR K E X pc lv (.int y :: .int x :: st) n kc ks f := by
  intro p e R s m args below meth c H locs ls Q z ex D D3 C hP hS hl hE
  exact lv_irem C.1 C.2.1 hd h0 (k p e R s m args below meth c H locs ls Q z ex D D3 C hP hS hl hE)
theorem qr_lrem {x y : Int64} (hd : decode (kcc K) pc = .ok (.lrem, 1)) (h0 : ¬ y = 0) (k : qR K E X (pc + 1) lv (.long (x - x / y * y) :: st) n kc ks f) : qR K E X pc lv (.long y :: .long x :: st) n kc ks f := by
  intro p e R s m args below meth c H locs ls Q z ex D D3 C hP hS hl hE
  exact lv_lrem C.1 C.2.1 hd h0 (k p e R s m args below meth c H locs ls Q z ex D D3 C hP hS hl hE)
theorem qr_ineg {x : Int32} (hd : decode (kcc K) pc = .ok (.ineg, 1)) (k : qR K E X (pc + 1) lv (.int (-x) :: st) n kc ks f) : qR K E X pc lv (.int x :: st) n kc ks f := by
  intro p e R s m args below meth c H locs ls Q z ex D D3 C hP hS hl hE
  exact lv_ineg C.1 C.2.1 hd (k p e R s m args below meth c H locs ls Q z ex D D3 C hP hS hl hE)
theorem qr_lneg {x : Int64} (hd : decode (kcc K) pc = .ok (.lneg, 1)) (k : qR K E X (pc + 1) lv (.long (-x) :: st) n kc ks f) : qR K E X pc lv (.long x :: st) n kc ks f := by
  intro p e R s m args below meth c H locs ls Q z ex D D3 C hP hS hl hE
  exact lv_lneg C.1 C.2.1 hd (k p e R s m args below meth c H locs ls Q z ex D D3 C hP hS hl hE)
theorem qr_i2l {x : Int32} (hd : decode (kcc K) pc = .ok (.i2l, 1)) (k : qR K E X (pc + 1) lv (.long (x.toInt64) :: st) n kc ks f) : qR K E X pc lv (.int x :: st) n kc ks f := by
  intro p e R s m args below meth c H locs ls Q z ex D D3 C hP hS hl hE
  exact lv_i2l C.1 C.2.1 hd rfl (k p e R s m args below meth c H locs ls Q z ex D D3 C hP hS hl hE)
theorem qr_l2i {x : Int64} (hd : decode (kcc K) pc = .ok (.l2i, 1)) (k : qR K E X (pc + 1) lv (.int (x.toInt32) :: st) n kc ks f) : qR K E X pc lv (.long x :: st) n kc ks f := by
  intro p e R s m args below meth c H locs ls Q z ex D D3 C hP hS hl hE
  exact lv_l2i C.1 C.2.1 hd rfl (k p e R s m args below meth c H locs ls Q z ex D D3 C hP hS hl hE)
theorem qr_i2b {x : Int32} (hd : decode (kcc K) pc = .ok (.i2b, 1)) (k : qR K E X (pc + 1) lv (.int (x.toInt8.toInt32) :: st) n kc ks f) : qR K E X pc lv (.int x :: st) n kc ks f := by
  intro p e R s m args below meth c H locs ls Q z ex D D3 C hP hS hl hE
  exact lv_i2b C.1 C.2.1 hd rfl (k p e R s m args below meth c H locs ls Q z ex D D3 C hP hS hl hE)
theorem qr_i2c {x : Int32} (hd : decode (kcc K) pc = .ok (.i2c, 1)) (k : qR K E X (pc + 1) lv (.int ((x.toUInt32 % 65536).toInt32) :: st) n kc ks f) : qR K E X pc lv (.int x :: st) n kc ks f := by
  intro p e R s m args below meth c H locs ls Q z ex D D3 C hP hS hl hE
  exact lv_i2c C.1 C.2.1 hd rfl (k p e R s m args below meth c H locs ls Q z ex D D3 C hP hS hl hE)
theorem qr_lushr {x : Int64} {y : Int32} (hd : decode (kcc K) pc = .ok (.lushr, 1)) (k : qR K E X (pc + 1) lv (.long ((x.toUInt64 >>> (y.toInt64.toUInt64 &&& Int64.toUInt64 63)).toInt64) :: st) n kc ks f) : qR K E X pc lv (.int y :: .long x :: st) n kc ks f := by
  intro p e R s m args below meth c H locs ls Q z ex D D3 C hP hS hl hE
  exact lv_lushr C.1 C.2.1 hd rfl (k p e R s m args below meth c H locs ls Q z ex D D3 C hP hS hl hE)
theorem qr_lshl {x : Int64} {y : Int32} (hd : decode (kcc K) pc = .ok (.lshl, 1)) (k : qR K E X (pc + 1) lv (.long (x <<< (y.toInt64 &&& 63)) :: st) n kc ks f) : qR K E X pc lv (.int y :: .long x :: st) n kc ks f := by
  intro p e R s m args below meth c H locs ls Q z ex D D3 C hP hS hl hE
  exact lv_lshl C.1 C.2.1 hd rfl (k p e R s m args below meth c H locs ls Q z ex D D3 C hP hS hl hE)
theorem qr_ishr {x y : Int32} (hd : decode (kcc K) pc = .ok (.ishr, 1)) (k : qR K E X (pc + 1) lv (.int (x >>> (y &&& 31)) :: st) n kc ks f) : qR K E X pc lv (.int y :: .int x :: st) n kc ks f := by
  intro p e R s m args below meth c H locs ls Q z ex D D3 C hP hS hl hE
  exact lv_ishr C.1 C.2.1 hd (k p e R s m args below meth c H locs ls Q z ex D D3 C hP hS hl hE)
theorem qr_lcmp {x y : Int64} (hd : decode (kcc K) pc = .ok (.lcmp, 1)) (k : qR K E X (pc + 1) lv (.int (lg_cmp x y) :: st) n kc ks f) : qR K E X pc lv (.long y :: .long x :: st) n kc ks f := by
  intro p e R s m args below meth c H locs ls Q z ex D D3 C hP hS hl hE
  exact W.lcmp C.1 C.2.1 hd (k p e R s m args below meth c H locs ls Q z ex D D3 C hP hS hl hE)
theorem qr_dup {a : Value} (hd : decode (kcc K) pc = .ok (.dup, 1)) (ha : a.category = 1) (k : qR K E X (pc + 1) lv (a :: a :: st) n kc ks f) : qR K E X pc lv (a :: st) n kc ks f := by
  intro p e R s m args below meth c H locs ls Q z ex D D3 C hP hS hl hE
  exact lv_dup C.1 C.2.1 hd (by rw [qv_cat]; exact ha) (k p e R s m args below meth c H locs ls Q z ex D D3 C hP hS hl hE)
theorem qr_pop {a : Value} (hd : decode (kcc K) pc = .ok (.pop, 1)) (ha : a.category = 1) (k : qR K E X (pc + 1) lv (st) n kc ks f) : qR K E X pc lv (a :: st) n kc ks f := by
  intro p e R s m args below meth c H locs ls Q z ex D D3 C hP hS hl hE
  exact lv_pop C.1 C.2.1 hd (by rw [qv_cat]; exact ha) (k p e R s m args below meth c H locs ls Q z ex D D3 C hP hS hl hE)
theorem qr_dup2_11 {a b : Value} (hd : decode (kcc K) pc = .ok (.dup2, 1)) (ha : a.category = 1) (hb : b.category = 1) (k : qR K E X (pc + 1) lv (a :: b :: a :: b :: st) n kc ks f) : qR K E X pc lv (a :: b :: st) n kc ks f := by
  intro p e R s m args below meth c H locs ls Q z ex D D3 C hP hS hl hE
  exact lv_dup2_11 C.1 C.2.1 hd (by rw [qv_cat]; exact ha) (by rw [qv_cat]; exact hb) (k p e R s m args below meth c H locs ls Q z ex D D3 C hP hS hl hE)
theorem qr_dup2_2 {a : Value} (hd : decode (kcc K) pc = .ok (.dup2, 1)) (ha : a.category = 2) (k : qR K E X (pc + 1) lv (a :: a :: st) n kc ks f) : qR K E X pc lv (a :: st) n kc ks f := by
  intro p e R s m args below meth c H locs ls Q z ex D D3 C hP hS hl hE
  exact lv_dup2_2 C.1 C.2.1 hd (by rw [qv_cat]; exact ha) (k p e R s m args below meth c H locs ls Q z ex D D3 C hP hS hl hE)
theorem qr_dup_x1 {a b : Value} (hd : decode (kcc K) pc = .ok (.dup_x1, 1)) (ha : a.category = 1) (hb : b.category = 1) (k : qR K E X (pc + 1) lv (a :: b :: a :: st) n kc ks f) : qR K E X pc lv (a :: b :: st) n kc ks f := by
  intro p e R s m args below meth c H locs ls Q z ex D D3 C hP hS hl hE
  exact lv_dup_x1 C.1 C.2.1 hd (by rw [qv_cat]; exact ha) (by rw [qv_cat]; exact hb) (k p e R s m args below meth c H locs ls Q z ex D D3 C hP hS hl hE)
theorem qr_dup_x2 {a b d : Value} (hd : decode (kcc K) pc = .ok (.dup_x2, 1)) (ha : a.category = 1) (hb : b.category = 1) (hc : d.category = 1) (k : qR K E X (pc + 1) lv (a :: b :: d :: a :: st) n kc ks f) : qR K E X pc lv (a :: b :: d :: st) n kc ks f := by
  intro p e R s m args below meth c H locs ls Q z ex D D3 C hP hS hl hE
  exact lv_dup_x2 C.1 C.2.1 hd (by rw [qv_cat]; exact ha) (by rw [qv_cat]; exact hb) (by rw [qv_cat]; exact hc) (k p e R s m args below meth c H locs ls Q z ex D D3 C hP hS hl hE)
theorem qr_dup2_x1_2 {a b : Value} (hd : decode (kcc K) pc = .ok (.dup2_x1, 1)) (ha : a.category = 2) (hb : b.category = 1) (k : qR K E X (pc + 1) lv (a :: b :: a :: st) n kc ks f) : qR K E X pc lv (a :: b :: st) n kc ks f := by
  intro p e R s m args below meth c H locs ls Q z ex D D3 C hP hS hl hE
  exact lv_dup2_x1_2 C.1 C.2.1 hd (by rw [qv_cat]; exact ha) (by rw [qv_cat]; exact hb) (k p e R s m args below meth c H locs ls Q z ex D D3 C hP hS hl hE)
theorem qr_dup2_x2_2 {a b d : Value} (hd : decode (kcc K) pc = .ok (.dup2_x2, 1)) (ha : a.category = 2) (hb : b.category = 1) (hc : d.category = 1) (k : qR K E X (pc + 1) lv (a :: b :: d :: a :: st) n kc ks f) : qR K E X pc lv (a :: b :: d :: st) n kc ks f := by
  intro p e R s m args below meth c H locs ls Q z ex D D3 C hP hS hl hE
  exact lv_dup2_x2_2 C.1 C.2.1 hd (by rw [qv_cat]; exact ha) (by rw [qv_cat]; exact hb) (by rw [qv_cat]; exact hc) (k p e R s m args below meth c H locs ls Q z ex D D3 C hP hS hl hE)
theorem qr_goto {off : Int} {tgt : Nat} (hd : decode (kcc K) pc = .ok (.goto off, 3)) (ht : (pc : Int) + off = (tgt : Int)) (k : qR K E X (tgt) lv (st) n kc ks f) : qR K E X pc lv st n kc ks f := by
  intro p e R s m args below meth c H locs ls Q z ex D D3 C hP hS hl hE
  exact lv_goto C.1 C.2.1 hd ht (k p e R s m args below meth c H locs ls Q z ex D D3 C hP hS hl hE)
theorem qr_if_eq {x : Int32} {off : Int} {tgt : Nat} (hd : decode (kcc K) pc = .ok (.ifCond .eq off, 3)) (ht : (pc : Int) + off = (tgt : Int)) (kt : x = 0 → qR K E X tgt lv st n kc ks f) (kf : ¬ x = 0 → qR K E X (pc + 3) lv st n kc ks f) : qR K E X pc lv (.int x :: st) n kc ks f := by
  intro p e R s m args below meth c H locs ls Q z ex D D3 C hP hS hl hE
  exact lv_if_eq C.1 C.2.1 hd ht (fun h => kt h p e R s m args below meth c H locs ls Q z ex D D3 C hP hS hl hE) (fun h => kf h p e R s m args below meth c H locs ls Q z ex D D3 C hP hS hl hE)
theorem qr_icmp_eq {x y : Int32} {off : Int} {tgt : Nat} (hd : decode (kcc K) pc = .ok (.if_icmp .eq off, 3)) (ht : (pc : Int) + off = (tgt : Int)) (kt : x = y → qR K E X tgt lv st n kc ks f) (kf : ¬ x = y → qR K E X (pc + 3) lv st n kc ks f) : qR K E X pc lv (.int y :: .int x :: st) n kc ks f := by
  intro p e R s m args below meth c H locs ls Q z ex D D3 C hP hS hl hE
  exact lv_icmp_eq C.1 C.2.1 hd ht (fun h => kt h p e R s m args below meth c H locs ls Q z ex D D3 C hP hS hl hE) (fun h => kf h p e R s m args below meth c H locs ls Q z ex D D3 C hP hS hl hE)
theorem qr_if_ne {x : Int32} {off : Int} {tgt : Nat} (hd : decode (kcc K) pc = .ok (.ifCond .ne off, 3)) (ht : (pc : Int) + off = (tgt : Int)) (kt : ¬ x = 0 → qR K E X tgt lv st n kc ks f) (kf : x = 0 → qR K E X (pc + 3) lv st n kc ks f) : qR K E X pc lv (.int x :: st) n kc ks f := by
  intro p e R s m args below meth c H locs ls Q z ex D D3 C hP hS hl hE
  exact lv_if_ne C.1 C.2.1 hd ht (fun h => kt h p e R s m args below meth c H locs ls Q z ex D D3 C hP hS hl hE) (fun h => kf h p e R s m args below meth c H locs ls Q z ex D D3 C hP hS hl hE)
theorem qr_icmp_ne {x y : Int32} {off : Int} {tgt : Nat} (hd : decode (kcc K) pc = .ok (.if_icmp .ne off, 3)) (ht : (pc : Int) + off = (tgt : Int)) (kt : ¬ x = y → qR K E X tgt lv st n kc ks f) (kf : x = y → qR K E X (pc + 3) lv st n kc ks f) : qR K E X pc lv (.int y :: .int x :: st) n kc ks f := by
  intro p e R s m args below meth c H locs ls Q z ex D D3 C hP hS hl hE
  exact lv_icmp_ne C.1 C.2.1 hd ht (fun h => kt h p e R s m args below meth c H locs ls Q z ex D D3 C hP hS hl hE) (fun h => kf h p e R s m args below meth c H locs ls Q z ex D D3 C hP hS hl hE)
theorem qr_if_lt {x : Int32} {off : Int} {tgt : Nat} (hd : decode (kcc K) pc = .ok (.ifCond .lt off, 3)) (ht : (pc : Int) + off = (tgt : Int)) (kt : x < 0 → qR K E X tgt lv st n kc ks f) (kf : ¬ x < 0 → qR K E X (pc + 3) lv st n kc ks f) : qR K E X pc lv (.int x :: st) n kc ks f := by
  intro p e R s m args below meth c H locs ls Q z ex D D3 C hP hS hl hE
  exact lv_if_lt C.1 C.2.1 hd ht (fun h => kt h p e R s m args below meth c H locs ls Q z ex D D3 C hP hS hl hE) (fun h => kf h p e R s m args below meth c H locs ls Q z ex D D3 C hP hS hl hE)
theorem qr_icmp_lt {x y : Int32} {off : Int} {tgt : Nat} (hd : decode (kcc K) pc = .ok (.if_icmp .lt off, 3)) (ht : (pc : Int) + off = (tgt : Int)) (kt : x < y → qR K E X tgt lv st n kc ks f) (kf : ¬ x < y → qR K E X (pc + 3) lv st n kc ks f) : qR K E X pc lv (.int y :: .int x :: st) n kc ks f := by
  intro p e R s m args below meth c H locs ls Q z ex D D3 C hP hS hl hE
  exact lv_icmp_lt C.1 C.2.1 hd ht (fun h => kt h p e R s m args below meth c H locs ls Q z ex D D3 C hP hS hl hE) (fun h => kf h p e R s m args below meth c H locs ls Q z ex D D3 C hP hS hl hE)
theorem qr_if_ge {x : Int32} {off : Int} {tgt : Nat} (hd : decode (kcc K) pc = .ok (.ifCond .ge off, 3)) (ht : (pc : Int) + off = (tgt : Int)) (kt : 0 ≤ x → qR K E X tgt lv st n kc ks f) (kf : ¬ 0 ≤ x → qR K E X (pc + 3) lv st n kc ks f) : qR K E X pc lv (.int x :: st) n kc ks f := by
  intro p e R s m args below meth c H locs ls Q z ex D D3 C hP hS hl hE
  exact lv_if_ge C.1 C.2.1 hd ht (fun h => kt h p e R s m args below meth c H locs ls Q z ex D D3 C hP hS hl hE) (fun h => kf h p e R s m args below meth c H locs ls Q z ex D D3 C hP hS hl hE)
theorem qr_icmp_ge {x y : Int32} {off : Int} {tgt : Nat} (hd : decode (kcc K) pc = .ok (.if_icmp .ge off, 3)) (ht : (pc : Int) + off = (tgt : Int)) (kt : y ≤ x → qR K E X tgt lv st n kc ks f) (kf : ¬ y ≤ x → qR K E X (pc + 3) lv st n kc ks f) : qR K E X pc lv (.int y :: .int x :: st) n kc ks f := by
  intro p e R s m args below meth c H locs ls Q z ex D D3 C hP hS hl hE
  exact lv_icmp_ge C.1 C.2.1 hd ht (fun h => kt h p e R s m args below meth c H locs ls Q z ex D D3 C hP hS hl hE) (fun h => kf h p e R s m args below meth c H locs ls Q z ex D D3 C hP hS hl hE)
theorem qr_if_gt {x : Int32} {off : Int} {tgt : Nat} (hd : decode (kcc K) pc = .ok (.ifCond .gt off, 3)) (ht : (pc : Int) + off = (tgt : Int)) (kt : 0 < x → qR K E X tgt lv st n kc ks f) (kf : ¬ 0 < x → qR K E X (pc + 3) lv st n kc ks f) : qR K E X pc lv (.int x :: st) n kc ks f := by
  intro p e R s m args below meth c H locs ls Q z ex D D3 C hP hS hl hE
  exact lv_if_gt C.1 C.2.1 hd ht (fun h => kt h p e R s m args below meth c H locs ls Q z ex D D3 C hP hS hl hE) (fun h => kf h p e R s m args below meth c H locs ls Q z ex D D3 C hP hS hl hE)
theorem qr_icmp_gt {x y : Int32} {off : Int} {tgt : Nat} (hd : decode (kcc K) pc = .ok (.if_icmp .gt off, 3)) (ht : (pc : Int) + off = (tgt : Int)) (kt : y < x → qR K E X tgt lv st n kc ks f) (kf : ¬ y < x → qR K E X (pc + 3) lv st n kc ks f) : qR K E X pc lv (.int y :: .int x :: st) n kc ks f := by
  intro p e R s m args below meth c H locs ls Q z ex D D3 C hP hS hl hE
  exact lv_icmp_gt C.1 C.2.1 hd ht (fun h => kt h p e R s m args below meth c H locs ls Q z ex D D3 C hP hS hl hE) (fun h => kf h p e R s m args below meth c H locs ls Q z ex D D3 C hP hS hl hE)
theorem qr_if_le {x : Int32} {off : Int} {tgt : Nat} (hd : decode (kcc K) pc = .ok (.ifCond .le off, 3)) (ht : (pc : Int) + off = (tgt : Int)) (kt : x ≤ 0 → qR K E X tgt lv st n kc ks f) (kf : ¬ x ≤ 0 → qR K E X (pc + 3) lv st n kc ks f) : qR K E X pc lv (.int x :: st) n kc ks f := by
  intro p e R s m args below meth c H locs ls Q z ex D D3 C hP hS hl hE
  exact lv_if_le C.1 C.2.1 hd ht (fun h => kt h p e R s m args below meth c H locs ls Q z ex D D3 C hP hS hl hE) (fun h => kf h p e R s m args below meth c H locs ls Q z ex D D3 C hP hS hl hE)
theorem qr_icmp_le {x y : Int32} {off : Int} {tgt : Nat} (hd : decode (kcc K) pc = .ok (.if_icmp .le off, 3)) (ht : (pc : Int) + off = (tgt : Int)) (kt : x ≤ y → qR K E X tgt lv st n kc ks f) (kf : ¬ x ≤ y → qR K E X (pc + 3) lv st n kc ks f) : qR K E X pc lv (.int y :: .int x :: st) n kc ks f := by
  intro p e R s m args below meth c H locs ls Q z ex D D3 C hP hS hl hE
  exact lv_icmp_le C.1 C.2.1 hd ht (fun h => kt h p e R s m args below meth c H locs ls Q z ex D D3 C hP hS hl hE) (fun h => kf h p e R s m args below meth c H locs ls Q z ex D D3 C hP hS hl hE)
theorem qr_tableOut {dflt lo hi : Int} {offs : Array Int} {len : Nat} {x : Int32} {tgt : Nat} (hd : decode (kcc K) pc = .ok (.tableswitch dflt lo hi offs, len)) (h : x.toInt < lo ∨ hi < x.toInt) (ht : (pc : Int) + dflt = (tgt : Int)) (k : qR K E X (tgt) lv (st) n kc ks f) : qR K E X pc lv (.int x :: st) n kc ks f := by
  intro p e R s m args below meth c H locs ls Q z ex D D3 C hP hS hl hE
  exact lv_tableOut C.1 C.2.1 hd h ht (k p e R s m args below meth c H locs ls Q z ex D D3 C hP hS hl hE)
theorem qr_tableIn {dflt lo hi : Int} {offs : Array Int} {len : Nat} {x : Int32} {off : Int} {tgt : Nat} (hd : decode (kcc K) pc = .ok (.tableswitch dflt lo hi offs, len)) (h1 : ¬ x.toInt < lo) (h2 : ¬ hi < x.toInt) (ho : offs[(x.toInt - lo).toNat]? = some off) (ht : (pc : Int) + off = (tgt : Int)) (k : qR K E X (tgt) lv (st) n kc ks f) : qR K E X pc lv (.int x :: st) n kc ks f := by
  intro p e R s m args below meth c H locs ls Q z ex D D3 C hP hS hl hE
  exact lv_tableIn C.1 C.2.1 hd h1 h2 ho ht (k p e R s m args below meth c H locs ls Q z ex D D3 C hP hS hl hE)
theorem qr_lookup {dflt : Int} {ps : Array (Int × Int)} {len : Nat} {x : Int32} {off : Int} {tgt : Nat} (hd : decode (kcc K) pc = .ok (.lookupswitch dflt ps, len)) (hp : (ps.toList.zip (ps.toList.drop 1)).all (fun (a, next) => a.1 < next.1) = true) (ho : Op.lookupswitch.offset ps.toList dflt x.toInt = off) (ht : (pc : Int) + off = (tgt : Int)) (k : qR K E X (tgt) lv (st) n kc ks f) : qR K E X pc lv (.int x :: st) n kc ks f := by
  intro p e R s m args below meth c H locs ls Q z ex D D3 C hP hS hl hE
  exact lv_lookup C.1 C.2.1 hd hp ho ht (k p e R s m args below meth c H locs ls Q z ex D D3 C hP hS hl hE)
end QR
