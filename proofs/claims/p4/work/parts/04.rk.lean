/-! fields, arrays, Math, contracts, calls -/
/-- the field at pool place idx of the class own: field j of the objects of class ci -/
def qFl (own : String) (idx ci j : Nat) (ty : FieldType) (fin : Bool) : Prop := ∃ (C : String) (T : u_T) (N : Nat) (ty0 : Nat → FieldType), qC[ci]? = some (C, T, N) ∧ (∀ w ∈ u_ws C T N, w ∈ qg) ∧ (∀ k, k < N → parseFieldDescriptor (T k).2.2.1 = some (ty0 k)) ∧ (∀ a, a < N → ∀ b, b < N → a ≠ b → (T a).2.1 ≠ (T b).2.1) ∧ j < N ∧ Cond.fieldLink own idx (T j).1 (T j).2.1 (T j).2.2.1 ∈ qg ∧ (T j).2.2.2 = fin ∧ parseFieldDescriptor (T j).2.2.1 = some ty ∧ (T j).1 = C
/-- the value may lie in a field of that type as it is -/
def qFit (ty : FieldType) (v : Value) : Prop := ∀ z ex, narrow ty (qv z ex v) = qv z ex v ∧ fits ty (qv z ex v) = true
section QF
variable {K : qK} {E : qE} {X : qXC} {pc : Nat} {lv : List (Nat × Value)} {st : List Value} {n kc ks : Nat} {f f' : Nat → va_E}
theorem qe_obj {z : Nat} {ex : Nat → Nat} {D3 : Nat → ClassId} {n q ci : Nat} {f : Nat → va_E} {fs : List Value} (hq : q < n) (hq5 : q < 77) (hf : f q = .inr (ci, fs)) : (qw z ex D3 n f)[q]? = some (z + q, .inr (ci, fs.map (qv z ex))) := by
  rw [qw_at hq hq5, hf]
  rfl
theorem qe_arr {z : Nat} {ex : Nat → Nat} {D3 : Nat → ClassId} {n q t : Nat} {f : Nat → va_E} {a : vp_A} (hq : q < n) (hq5 : q < 77) (hf : f q = .inl (t, a)) : (qw z ex D3 n f)[q]? = some (z + q, .inl (D3 t, qarr z ex a)) := by
  rw [qw_at hq hq5, hf]
  rfl
theorem qr_get {idx ci j q : Nat} {ty : FieldType} {fin : Bool} {fs : List Value} {v : Value} (hd : decode (kcc K) pc = .ok (.getfield idx, 3)) (hF : qFl (kown K) idx ci j ty fin) (hq : q < n) (hq5 : q < 77) (hf : f q = .inr (ci, fs)) (hv : fs[j]? = some v) (k : qR K E X (pc + 3) lv (v :: st) n kc ks f) : qR K E X pc lv (.ref q :: st) n kc ks f := by
  intro p e R s m args below meth c H locs ls Q z ex D D3 C hP hS hl hE
  obtain ⟨Cn, T, N, ty0, hc, hin, -, -, hj, hw, -, -, -⟩ := hF
  show W _ _ _ _ _ _ _ _ _ _ _ _ _ _ _ (F0 m pc ls (.ref (qa z ex _) :: st.map (qv z ex)))
  rw [qa_lt hq5]
  exact va_get (v := qv z ex v) C.1 C.2.1 C.2.2.2.2.1 hin C.2.2.2.1 C.2.2.2.2.2.2.1 hP _ (qe_obj hq hq5 hf) hc j hj (C.2.2.2.2.1 _ hw) (fun _ h => h) (by rw [List.getElem?_map, hv]; rfl) hd (k p e R s m args below meth c H locs ls Q z ex D D3 C hP hS hl hE)
theorem qr_put {idx ci j q : Nat} {ty : FieldType} {fs : List Value} {v : Value} (hd : decode (kcc K) pc = .ok (.putfield idx, 3)) (hF : qFl (kown K) idx ci j ty false) (hq : q < n) (hq5 : q < 77) (hf : f q = .inr (ci, fs)) (hl2 : j < fs.length) (hv : qFit ty v) (hf' : va_up f q (.inr (ci, fs.set j v)) = f') (k : qR K E X (pc + 3) lv st n kc ks f') : qR K E X pc lv (v :: .ref q :: st) n kc ks f := by
  intro p e R s m args below meth c H locs ls Q z ex D D3 C hP hS hl hE
  obtain ⟨Cn, T, N, ty0, hc, hin, hty, hnm, hj, hw, hfin, hd2, hdc⟩ := hF
  show W _ _ _ _ _ _ _ _ _ _ _ _ _ _ _ (F0 m pc ls (qv z ex v :: .ref (qa z ex _) :: st.map (qv z ex)))
  rw [qa_lt hq5]
  refine va_put (v := qv z ex v) C.1 C.2.1 C.2.2.2.2.1 hin ty0 hty hnm C.2.2.2.1 C.2.2.2.2.2.2.1 hP (qw_D z ex D3 n f) hS _ (qe_obj hq hq5 hf) hc j hj (C.2.2.2.2.1 _ hw) (fun _ h => h) hfin hd2 (hv z ex).1 (hv z ex).2 (by rw [List.length_map]; exact hl2) hd (fun H1 locs1 hP1 hD1 hS1 => ?_)
  have e1 : (Sum.inr (ci, (fs.map (qv z ex)).set j (qv z ex v)) : va_E) = qe z ex D3 (.inr (ci, fs.set j v)) := by
    show (Sum.inr (ci, (fs.map (qv z ex)).set j (qv z ex v)) : va_E) = .inr (ci, (fs.set j v).map (qv z ex))
    rw [List.map_set]
  rw [e1, qw_set, hf'] at hP1
  exact k p e R s m args below meth c H1 locs1 ls Q z ex D D3 C hP1 hS1 hl hE
theorem qr_putF {idx ci j q : Nat} {ty : FieldType} {fs : List Value} {v : Value} (hd : decode (kcc K) pc = .ok (.putfield idx, 3)) (hF : qFl (kown K) idx ci j ty true) {T9 : u_T} {N9 : Nat} (hini : kini K = true ∧ qC[ci]? = some (kown K, T9, N9)) (hq : q < n) (hq5 : q < 77) (hf : f q = .inr (ci, fs)) (hl2 : j < fs.length) (hv : qFit ty v) (hf' : va_up f q (.inr (ci, fs.set j v)) = f') (k : qR K E X (pc + 3) lv st n kc ks f') : qR K E X pc lv (v :: .ref q :: st) n kc ks f := by
  intro p e R s m args below meth c H locs ls Q z ex D D3 C hP hS hl hE
  obtain ⟨Cn, T, N, ty0, hc, hin, hty, hnm, hj, hw, hfin, hd2, hdc⟩ := hF
  show W _ _ _ _ _ _ _ _ _ _ _ _ _ _ _ (F0 m pc ls (qv z ex v :: .ref (qa z ex _) :: st.map (qv z ex)))
  rw [qa_lt hq5]
  refine va_putF (v := qv z ex v) C.1 C.2.1 C.2.2.2.2.1 hin ty0 hty hnm C.2.2.2.1 C.2.2.2.2.2.2.1 hP (qw_D z ex D3 n f) hS _ (qe_obj hq hq5 hf) hc j hj (C.2.2.2.2.1 _ hw) (fun _ h => h) hfin (C.2.2.2.2.2.1 hini.1) (hdc.trans (congrArg Prod.fst (Option.some.inj (hc.symm.trans hini.2)))) hd2 (hv z ex).1 (hv z ex).2 (by rw [List.length_map]; exact hl2) hd (fun H1 locs1 hP1 hD1 hS1 => ?_)
  have e1 : (Sum.inr (ci, (fs.map (qv z ex)).set j (qv z ex v)) : va_E) = qe z ex D3 (.inr (ci, fs.set j v)) := by
    show (Sum.inr (ci, (fs.map (qv z ex)).set j (qv z ex v)) : va_E) = .inr (ci, (fs.set j v).map (qv z ex))
    rw [List.map_set]
  rw [e1, qw_set, hf'] at hP1
  exact k p e R s m args below meth c H1 locs1 ls Q z ex D D3 C hP1 hS1 hl hE
theorem qr_iald {q len : Nat} {i : Int32} {g : Nat → Int32} (hd : decode (kcc K) pc = .ok (.iaload, 1)) (hq : q < n) (hq5 : q < 77) (hf : f q = .inl (0, len, .inl g)) (hi : vp_in i len) (k : qR K E X (pc + 1) lv (.int (g i.toNatClampNeg) :: st) n kc ks f) : qR K E X pc lv (.int i :: .ref q :: st) n kc ks f := by
  intro p e R s m args below meth c H locs ls Q z ex D D3 C hP hS hl hE
  show W _ _ _ _ _ _ _ _ _ _ _ _ _ _ _ (F0 m pc ls (.int i :: .ref (qa z ex _) :: st.map (qv z ex)))
  rw [qa_lt hq5]
  exact va_iald C.1 C.2.1 C.2.2.2.2.2.2.1 hP q 0 (qe_arr hq hq5 hf) (qtys_at rfl) hi hd (k p e R s m args below meth c H locs ls Q z ex D D3 C hP hS hl hE)
theorem qr_ialdN {q len j : Nat} {g : Nat → Int32} (hd : decode (kcc K) pc = .ok (.iaload, 1)) (hq : q < n) (hq5 : q < 77) (hf : f q = .inl (0, len, .inl g)) (hj : j < len) (hlen : len < 2 ^ 31) (k : qR K E X (pc + 1) lv (.int (g j) :: st) n kc ks f) : qR K E X pc lv (.int (nI j) :: .ref q :: st) n kc ks f :=
  qr_iald hd hq hq5 hf (vp_in_nI hj hlen) (by rw [nI_clamp (Nat.lt_trans hj hlen)]; exact k)
theorem qr_lald {q len : Nat} {i : Int32} {g : Nat → Int64} (hd : decode (kcc K) pc = .ok (.laload, 1)) (hq : q < n) (hq5 : q < 77) (hf : f q = .inl (1, len, .inr (.inl g))) (hi : vp_in i len) (k : qR K E X (pc + 1) lv (.long (g i.toNatClampNeg) :: st) n kc ks f) : qR K E X pc lv (.int i :: .ref q :: st) n kc ks f := by
  intro p e R s m args below meth c H locs ls Q z ex D D3 C hP hS hl hE
  show W _ _ _ _ _ _ _ _ _ _ _ _ _ _ _ (F0 m pc ls (.int i :: .ref (qa z ex _) :: st.map (qv z ex)))
  rw [qa_lt hq5]
  exact va_lald C.1 C.2.1 C.2.2.2.2.2.2.1 hP q 1 (qe_arr hq hq5 hf) (qtys_at rfl) hi hd (k p e R s m args below meth c H locs ls Q z ex D D3 C hP hS hl hE)
theorem qr_laldN {q len j : Nat} {g : Nat → Int64} (hd : decode (kcc K) pc = .ok (.laload, 1)) (hq : q < n) (hq5 : q < 77) (hf : f q = .inl (1, len, .inr (.inl g))) (hj : j < len) (hlen : len < 2 ^ 31) (k : qR K E X (pc + 1) lv (.long (g j) :: st) n kc ks f) : qR K E X pc lv (.int (nI j) :: .ref q :: st) n kc ks f :=
  qr_lald hd hq hq5 hf (vp_in_nI hj hlen) (by rw [nI_clamp (Nat.lt_trans hj hlen)]; exact k)
theorem qr_cald {q len : Nat} {i : Int32} {g : Nat → Int32} (hd : decode (kcc K) pc = .ok (.caload, 1)) (hq : q < n) (hq5 : q < 77) (hf : f q = .inl (2, len, .inl g)) (hi : vp_in i len) (k : qR K E X (pc + 1) lv (.int (g i.toNatClampNeg) :: st) n kc ks f) : qR K E X pc lv (.int i :: .ref q :: st) n kc ks f := by
  intro p e R s m args below meth c H locs ls Q z ex D D3 C hP hS hl hE
  show W _ _ _ _ _ _ _ _ _ _ _ _ _ _ _ (F0 m pc ls (.int i :: .ref (qa z ex _) :: st.map (qv z ex)))
  rw [qa_lt hq5]
  exact va_cald C.1 C.2.1 C.2.2.2.2.2.2.1 hP q 2 (qe_arr hq hq5 hf) (qtys_at rfl) hi hd (k p e R s m args below meth c H locs ls Q z ex D D3 C hP hS hl hE)
theorem qr_caldN {q len j : Nat} {g : Nat → Int32} (hd : decode (kcc K) pc = .ok (.caload, 1)) (hq : q < n) (hq5 : q < 77) (hf : f q = .inl (2, len, .inl g)) (hj : j < len) (hlen : len < 2 ^ 31) (k : qR K E X (pc + 1) lv (.int (g j) :: st) n kc ks f) : qR K E X pc lv (.int (nI j) :: .ref q :: st) n kc ks f :=
  qr_cald hd hq hq5 hf (vp_in_nI hj hlen) (by rw [nI_clamp (Nat.lt_trans hj hlen)]; exact k)
theorem qr_zald {q len : Nat} {i : Int32} {g : Nat → Int32} (hd : decode (kcc K) pc = .ok (.baload, 1)) (hq : q < n) (hq5 : q < 77) (hf : f q = .inl (3, len, .inl g)) (hi : vp_in i len) (k : qR K E X (pc + 1) lv (.int (g i.toNatClampNeg) :: st) n kc ks f) : qR K E X pc lv (.int i :: .ref q :: st) n kc ks f := by
  intro p e R s m args below meth c H locs ls Q z ex D D3 C hP hS hl hE
  show W _ _ _ _ _ _ _ _ _ _ _ _ _ _ _ (F0 m pc ls (.int i :: .ref (qa z ex _) :: st.map (qv z ex)))
  rw [qa_lt hq5]
  exact va_zald C.1 C.2.1 C.2.2.2.2.2.2.1 hP q 3 (qe_arr hq hq5 hf) (qtys_at rfl) hi hd (k p e R s m args below meth c H locs ls Q z ex D D3 C hP hS hl hE)
theorem qr_zaldN {q len j : Nat} {g : Nat → Int32} (hd : decode (kcc K) pc = .ok (.baload, 1)) (hq : q < n) (hq5 : q < 77) (hf : f q = .inl (3, len, .inl g)) (hj : j < len) (hlen : len < 2 ^ 31) (k : qR K E X (pc + 1) lv (.int (g j) :: st) n kc ks f) : qR K E X pc lv (.int (nI j) :: .ref q :: st) n kc ks f :=
  qr_zald hd hq hq5 hf (vp_in_nI hj hlen) (by rw [nI_clamp (Nat.lt_trans hj hlen)]; exact k)
theorem qr_bald {q len : Nat} {i : Int32} {g : Nat → Int32} (hd : decode (kcc K) pc = .ok (.baload, 1)) (hq : q < n) (hq5 : q < 77) (hf : f q = .inl (4, len, .inl g)) (hi : vp_in i len) (k : qR K E X (pc + 1) lv (.int (g i.toNatClampNeg) :: st) n kc ks f) : qR K E X pc lv (.int i :: .ref q :: st) n kc ks f := by
  intro p e R s m args below meth c H locs ls Q z ex D D3 C hP hS hl hE
  show W _ _ _ _ _ _ _ _ _ _ _ _ _ _ _ (F0 m pc ls (.int i :: .ref (qa z ex _) :: st.map (qv z ex)))
  rw [qa_lt hq5]
  exact va_bald C.1 C.2.1 C.2.2.2.2.2.2.1 hP q 4 (qe_arr hq hq5 hf) (qtys_at rfl) hi hd (k p e R s m args below meth c H locs ls Q z ex D D3 C hP hS hl hE)
theorem qr_baldN {q len j : Nat} {g : Nat → Int32} (hd : decode (kcc K) pc = .ok (.baload, 1)) (hq : q < n) (hq5 : q < 77) (hf : f q = .inl (4, len, .inl g)) (hj : j < len) (hlen : len < 2 ^ 31) (k : qR K E X (pc + 1) lv (.int (g j) :: st) n kc ks f) : qR K E X pc lv (.int (nI j) :: .ref q :: st) n kc ks f :=
  qr_bald hd hq hq5 hf (vp_in_nI hj hlen) (by rw [nI_clamp (Nat.lt_trans hj hlen)]; exact k)
theorem qr_aald {q len t : Nat} {i : Int32} {Cn : String} {g : Nat → Option Nat} {w : Nat} (hd : decode (kcc K) pc = .ok (.aaload, 1)) (hq : q < n) (hq5 : q < 77) (hf : f q = .inl (t, len, .inr (.inr (.inr (.inr g))))) (ht : qT[t]? = some (.object Cn)) (hi : vp_in i len) (hg : g i.toNatClampNeg = some w) (k : qR K E X (pc + 1) lv (.ref w :: st) n kc ks f) : qR K E X pc lv (.int i :: .ref q :: st) n kc ks f := by
  intro p e R s m args below meth c H locs ls Q z ex D D3 C hP hS hl hE
  show W _ _ _ _ _ _ _ _ _ _ _ _ _ _ _ (F0 m pc ls (.int i :: .ref (qa z ex _) :: st.map (qv z ex)))
  rw [qa_lt hq5]
  refine va_aldq C.1 C.2.1 C.2.2.2.2.2.2.1 hP q t (qe_arr hq hq5 hf) (qtys_at ht) hi hd ?_
  show W _ _ _ _ _ _ _ _ _ _ _ _ _ _ _ (F0 m (pc + 1) ls (va_rf ((g i.toNatClampNeg).map (qa z ex)) :: st.map (qv z ex)))
  rw [hg]
  exact k p e R s m args below meth c H locs ls Q z ex D D3 C hP hS hl hE
theorem qr_alen {q t : Nat} {a : vp_A} {v : Int32} {ty : FieldType} (hd : decode (kcc K) pc = .ok (.arraylength, 1)) (hq : q < n) (hq5 : q < 77) (hf : f q = .inl (t, a)) (ht : qT[t]? = some ty) (hv : Int32.ofNat a.1 = v) (k : qR K E X (pc + 1) lv (.int v :: st) n kc ks f) : qR K E X pc lv (.ref q :: st) n kc ks f := by
  intro p e R s m args below meth c H locs ls Q z ex D D3 C hP hS hl hE
  show W _ _ _ _ _ _ _ _ _ _ _ _ _ _ _ (F0 m pc ls (.ref (qa z ex _) :: st.map (qv z ex)))
  rw [qa_lt hq5]
  exact va_alen C.1 C.2.1 C.2.2.2.2.2.2.1 hP q t (qe_arr hq hq5 hf) (qtys_at ht) (v := v) (by
    obtain ⟨a1, a2⟩ := a
    rcases a2 with g | g | g | g | g <;> exact hv) hd (k p e R s m args below meth c H locs ls Q z ex D D3 C hP hS hl hE)
theorem qr_iast {q len : Nat} {i : Int32} {x : Int32} {g : Nat → Int32} (hd : decode (kcc K) pc = .ok (.iastore, 1)) (hq : q < n) (hq5 : q < 77) (hf : f q = .inl (0, len, .inl g)) (hi : vp_in i len) (hf' : va_up f q (.inl (0, len, .inl (upd g i.toNatClampNeg x))) = f') (k : qR K E X (pc + 1) lv st n kc ks f') : qR K E X pc lv (.int x :: .int i :: .ref q :: st) n kc ks f := by
  intro p e R s m args below meth c H locs ls Q z ex D D3 C hP hS hl hE
  show W _ _ _ _ _ _ _ _ _ _ _ _ _ _ _ (F0 m pc ls (.int x :: .int i :: .ref (qa z ex _) :: st.map (qv z ex)))
  rw [qa_lt hq5]
  refine va_iast C.1 C.2.1 C.2.2.2.2.2.2.1 hP (qw_D z ex D3 n f) hS q 0 (qe_arr hq hq5 hf) (qtys_at rfl) hi hd (fun H1 locs1 hP1 hD1 hS1 => ?_)
  have hP2 : va_P D qC ((qw z ex D3 n f).set q (z + q, qe z ex D3 (.inl (0, len, .inl (upd g i.toNatClampNeg x))))) H1 := hP1
  rw [qw_set, hf'] at hP2
  exact k p e R s m args below meth c H1 locs1 ls Q z ex D D3 C hP2 hS1 hl hE
theorem qr_iastN {q len j : Nat} {x : Int32} {g : Nat → Int32} (hd : decode (kcc K) pc = .ok (.iastore, 1)) (hq : q < n) (hq5 : q < 77) (hf : f q = .inl (0, len, .inl g)) (hj : j < len) (hlen : len < 2 ^ 31) (hf' : va_up f q (.inl (0, len, .inl (upd g j x))) = f') (k : qR K E X (pc + 1) lv st n kc ks f') : qR K E X pc lv (.int x :: .int (nI j) :: .ref q :: st) n kc ks f :=
  qr_iast hd hq hq5 hf (vp_in_nI hj hlen) (by rw [nI_clamp (Nat.lt_trans hj hlen)]; exact hf') k
theorem qr_last {q len : Nat} {i : Int32} {x : Int64} {g : Nat → Int64} (hd : decode (kcc K) pc = .ok (.lastore, 1)) (hq : q < n) (hq5 : q < 77) (hf : f q = .inl (1, len, .inr (.inl g))) (hi : vp_in i len) (hf' : va_up f q (.inl (1, len, .inr (.inl (vp_updL g i.toNatClampNeg x)))) = f') (k : qR K E X (pc + 1) lv st n kc ks f') : qR K E X pc lv (.long x :: .int i :: .ref q :: st) n kc ks f := by
  intro p e R s m args below meth c H locs ls Q z ex D D3 C hP hS hl hE
  show W _ _ _ _ _ _ _ _ _ _ _ _ _ _ _ (F0 m pc ls (.long x :: .int i :: .ref (qa z ex _) :: st.map (qv z ex)))
  rw [qa_lt hq5]
  refine va_last C.1 C.2.1 C.2.2.2.2.2.2.1 hP (qw_D z ex D3 n f) hS q 1 (qe_arr hq hq5 hf) (qtys_at rfl) hi hd (fun H1 locs1 hP1 hD1 hS1 => ?_)
  have hP2 : va_P D qC ((qw z ex D3 n f).set q (z + q, qe z ex D3 (.inl (1, len, .inr (.inl (vp_updL g i.toNatClampNeg x)))))) H1 := hP1
  rw [qw_set, hf'] at hP2
  exact k p e R s m args below meth c H1 locs1 ls Q z ex D D3 C hP2 hS1 hl hE
theorem qr_lastN {q len j : Nat} {x : Int64} {g : Nat → Int64} (hd : decode (kcc K) pc = .ok (.lastore, 1)) (hq : q < n) (hq5 : q < 77) (hf : f q = .inl (1, len, .inr (.inl g))) (hj : j < len) (hlen : len < 2 ^ 31) (hf' : va_up f q (.inl (1, len, .inr (.inl (vp_updL g j x)))) = f') (k : qR K E X (pc + 1) lv st n kc ks f') : qR K E X pc lv (.long x :: .int (nI j) :: .ref q :: st) n kc ks f :=
  qr_last hd hq hq5 hf (vp_in_nI hj hlen) (by rw [nI_clamp (Nat.lt_trans hj hlen)]; exact hf') k
theorem qr_cast {q len : Nat} {i : Int32} {x : Int32} {g : Nat → Int32} (hd : decode (kcc K) pc = .ok (.castore, 1)) (hq : q < n) (hq5 : q < 77) (hf : f q = .inl (2, len, .inl g)) (hi : vp_in i len) (hf' : va_up f q (.inl (2, len, .inl (upd g i.toNatClampNeg (vp_nar .char x)))) = f') (k : qR K E X (pc + 1) lv st n kc ks f') : qR K E X pc lv (.int x :: .int i :: .ref q :: st) n kc ks f := by
  intro p e R s m args below meth c H locs ls Q z ex D D3 C hP hS hl hE
  show W _ _ _ _ _ _ _ _ _ _ _ _ _ _ _ (F0 m pc ls (.int x :: .int i :: .ref (qa z ex _) :: st.map (qv z ex)))
  rw [qa_lt hq5]
  refine va_cast C.1 C.2.1 C.2.2.2.2.2.2.1 hP (qw_D z ex D3 n f) hS q 2 (qe_arr hq hq5 hf) (qtys_at rfl) hi hd (fun H1 locs1 hP1 hD1 hS1 => ?_)
  have hP2 : va_P D qC ((qw z ex D3 n f).set q (z + q, qe z ex D3 (.inl (2, len, .inl (upd g i.toNatClampNeg (vp_nar .char x)))))) H1 := hP1
  rw [qw_set, hf'] at hP2
  exact k p e R s m args below meth c H1 locs1 ls Q z ex D D3 C hP2 hS1 hl hE
theorem qr_castN {q len j : Nat} {x : Int32} {g : Nat → Int32} (hd : decode (kcc K) pc = .ok (.castore, 1)) (hq : q < n) (hq5 : q < 77) (hf : f q = .inl (2, len, .inl g)) (hj : j < len) (hlen : len < 2 ^ 31) (hf' : va_up f q (.inl (2, len, .inl (upd g j (vp_nar .char x)))) = f') (k : qR K E X (pc + 1) lv st n kc ks f') : qR K E X pc lv (.int x :: .int (nI j) :: .ref q :: st) n kc ks f :=
  qr_cast hd hq hq5 hf (vp_in_nI hj hlen) (by rw [nI_clamp (Nat.lt_trans hj hlen)]; exact hf') k
theorem qr_zast {q len : Nat} {i : Int32} {x : Int32} {g : Nat → Int32} (hd : decode (kcc K) pc = .ok (.bastore, 1)) (hq : q < n) (hq5 : q < 77) (hf : f q = .inl (3, len, .inl g)) (hi : vp_in i len) (hf' : va_up f q (.inl (3, len, .inl (upd g i.toNatClampNeg (vp_nar .boolean x)))) = f') (k : qR K E X (pc + 1) lv st n kc ks f') : qR K E X pc lv (.int x :: .int i :: .ref q :: st) n kc ks f := by
  intro p e R s m args below meth c H locs ls Q z ex D D3 C hP hS hl hE
  show W _ _ _ _ _ _ _ _ _ _ _ _ _ _ _ (F0 m pc ls (.int x :: .int i :: .ref (qa z ex _) :: st.map (qv z ex)))
  rw [qa_lt hq5]
  refine va_zast C.1 C.2.1 C.2.2.2.2.2.2.1 hP (qw_D z ex D3 n f) hS q 3 (qe_arr hq hq5 hf) (qtys_at rfl) hi hd (fun H1 locs1 hP1 hD1 hS1 => ?_)
  have hP2 : va_P D qC ((qw z ex D3 n f).set q (z + q, qe z ex D3 (.inl (3, len, .inl (upd g i.toNatClampNeg (vp_nar .boolean x)))))) H1 := hP1
  rw [qw_set, hf'] at hP2
  exact k p e R s m args below meth c H1 locs1 ls Q z ex D D3 C hP2 hS1 hl hE
theorem qr_zastN {q len j : Nat} {x : Int32} {g : Nat → Int32} (hd : decode (kcc K) pc = .ok (.bastore, 1)) (hq : q < n) (hq5 : q < 77) (hf : f q = .inl (3, len, .inl g)) (hj : j < len) (hlen : len < 2 ^ 31) (hf' : va_up f q (.inl (3, len, .inl (upd g j (vp_nar .boolean x)))) = f') (k : qR K E X (pc + 1) lv st n kc ks f') : qR K E X pc lv (.int x :: .int (nI j) :: .ref q :: st) n kc ks f :=
  qr_zast hd hq hq5 hf (vp_in_nI hj hlen) (by rw [nI_clamp (Nat.lt_trans hj hlen)]; exact hf') k
theorem qr_bast {q len : Nat} {i : Int32} {x : Int32} {g : Nat → Int32} (hd : decode (kcc K) pc = .ok (.bastore, 1)) (hq : q < n) (hq5 : q < 77) (hf : f q = .inl (4, len, .inl g)) (hi : vp_in i len) (hf' : va_up f q (.inl (4, len, .inl (upd g i.toNatClampNeg (vp_nar .byte x)))) = f') (k : qR K E X (pc + 1) lv st n kc ks f') : qR K E X pc lv (.int x :: .int i :: .ref q :: st) n kc ks f := by
  intro p e R s m args below meth c H locs ls Q z ex D D3 C hP hS hl hE
  show W _ _ _ _ _ _ _ _ _ _ _ _ _ _ _ (F0 m pc ls (.int x :: .int i :: .ref (qa z ex _) :: st.map (qv z ex)))
  rw [qa_lt hq5]
  refine va_bast C.1 C.2.1 C.2.2.2.2.2.2.1 hP (qw_D z ex D3 n f) hS q 4 (qe_arr hq hq5 hf) (qtys_at rfl) hi hd (fun H1 locs1 hP1 hD1 hS1 => ?_)
  have hP2 : va_P D qC ((qw z ex D3 n f).set q (z + q, qe z ex D3 (.inl (4, len, .inl (upd g i.toNatClampNeg (vp_nar .byte x)))))) H1 := hP1
  rw [qw_set, hf'] at hP2
  exact k p e R s m args below meth c H1 locs1 ls Q z ex D D3 C hP2 hS1 hl hE
theorem qr_bastN {q len j : Nat} {x : Int32} {g : Nat → Int32} (hd : decode (kcc K) pc = .ok (.bastore, 1)) (hq : q < n) (hq5 : q < 77) (hf : f q = .inl (4, len, .inl g)) (hj : j < len) (hlen : len < 2 ^ 31) (hf' : va_up f q (.inl (4, len, .inl (upd g j (vp_nar .byte x)))) = f') (k : qR K E X (pc + 1) lv st n kc ks f') : qR K E X pc lv (.int x :: .int (nI j) :: .ref q :: st) n kc ks f :=
  qr_bast hd hq hq5 hf (vp_in_nI hj hlen) (by rw [nI_clamp (Nat.lt_trans hj hlen)]; exact hf') k
def qmmax (x y : Int32) : Int32 := if x < y then y else x
theorem qr_mmax {idx : Nat} {x y : Int32} (hd : decode (kcc K) pc = .ok (.invokestatic idx, 3)) (h1 : Cond.methodLink (kown K) idx Lib.Math.max.name ∈ qg) (h2 : Cond.static Lib.Math.max.name ∈ qg) (h3 : Cond.initialized "java/lang/Math" ∈ qg) (h4 : Cond.code Lib.Math.max.name Lib.Math.max.code 2 (some .int) ∈ qg) (hdep : 1 ≤ kd K) (hrm : (st.map fun v => v.category).sum ≤ 8) (hkc : kc ≤ kmc K) (hks : ks ≤ kms K) (k : qR K E X (pc + 3) lv (.int (qmmax x y) :: st) n kc ks f) : qR K E X pc lv (.int y :: .int x :: st) n kc ks f := by
  intro p e R s m args below meth c H locs ls Q z ex D D3 C hP hS hl hE
  have hr : ((st.map (qv z ex)).map fun v => v.category).sum = (st.map fun v => v.category).sum := by
    rw [List.map_map]
    congr 1
    exact List.map_congr_left (fun v _ => qv_cat z ex v)
  have hR : R = qrm (kd K) (kmc K) (kms K) := C.2.2.2.2.2.2.2.2.1
  exact va_mmax C.1 C.2.1 (C.2.2.1.trans hl.1.symm) C.2.2.2.1 (C.2.2.2.2.1 _ h1) (C.2.2.2.2.1 _ h2) (C.2.2.2.2.1 _ h3) (C.2.2.2.2.1 _ h4) (by rw [hR]; exact hdep) (by rw [hr, hR]; show _ + 13 ≤ 34 * kd K + 12; omega) (by rw [hR]; exact hkc) (by rw [hR]; exact hks) hd (k p e R s m args below meth c H locs ls Q z ex D D3 C hP hS hl hE)
def qmmin (x y : Int32) : Int32 := if y < x then y else x
theorem qr_mmin {idx : Nat} {x y : Int32} (hd : decode (kcc K) pc = .ok (.invokestatic idx, 3)) (h1 : Cond.methodLink (kown K) idx Lib.Math.min.name ∈ qg) (h2 : Cond.static Lib.Math.min.name ∈ qg) (h3 : Cond.initialized "java/lang/Math" ∈ qg) (h4 : Cond.code Lib.Math.min.name Lib.Math.min.code 2 (some .int) ∈ qg) (hdep : 1 ≤ kd K) (hrm : (st.map fun v => v.category).sum ≤ 8) (hkc : kc ≤ kmc K) (hks : ks ≤ kms K) (k : qR K E X (pc + 3) lv (.int (qmmin x y) :: st) n kc ks f) : qR K E X pc lv (.int y :: .int x :: st) n kc ks f := by
  intro p e R s m args below meth c H locs ls Q z ex D D3 C hP hS hl hE
  have hr : ((st.map (qv z ex)).map fun v => v.category).sum = (st.map fun v => v.category).sum := by
    rw [List.map_map]
    congr 1
    exact List.map_congr_left (fun v _ => qv_cat z ex v)
  have hR : R = qrm (kd K) (kmc K) (kms K) := C.2.2.2.2.2.2.2.2.1
  exact va_mmin C.1 C.2.1 (C.2.2.1.trans hl.1.symm) C.2.2.2.1 (C.2.2.2.2.1 _ h1) (C.2.2.2.2.1 _ h2) (C.2.2.2.2.1 _ h3) (C.2.2.2.2.1 _ h4) (by rw [hR]; exact hdep) (by rw [hr, hR]; show _ + 13 ≤ 34 * kd K + 12; omega) (by rw [hR]; exact hkc) (by rw [hR]; exact hks) hd (k p e R s m args below meth c H locs ls Q z ex D D3 C hP hS hl hE)
def qmmaxl (x y : Int64) : Int64 := if y < x then x else y
theorem qr_mmaxl {idx : Nat} {x y : Int64} (hd : decode (kcc K) pc = .ok (.invokestatic idx, 3)) (h1 : Cond.methodLink (kown K) idx Lib.MathLoose.max_long.x ∈ qg) (h2 : Cond.static Lib.MathLoose.max_long.x ∈ qg) (h3 : Cond.initialized "java/lang/Math" ∈ qg) (h4 : Cond.code Lib.MathLoose.max_long.x Lib.MathLoose.max_long.code 4 (some .long) ∈ qg) (hdep : 1 ≤ kd K) (hrm : (st.map fun v => v.category).sum ≤ 8) (hkc : kc ≤ kmc K) (hks : ks ≤ kms K) (k : qR K E X (pc + 3) lv (.long (qmmaxl x y) :: st) n kc ks f) : qR K E X pc lv (.long y :: .long x :: st) n kc ks f := by
  intro p e R s m args below meth c H locs ls Q z ex D D3 C hP hS hl hE
  have hr : ((st.map (qv z ex)).map fun v => v.category).sum = (st.map fun v => v.category).sum := by
    rw [List.map_map]
    congr 1
    exact List.map_congr_left (fun v _ => qv_cat z ex v)
  have hR : R = qrm (kd K) (kmc K) (kms K) := C.2.2.2.2.2.2.2.2.1
  exact va_mmax_long C.1 C.2.1 (C.2.2.1.trans hl.1.symm) C.2.2.2.1 (C.2.2.2.2.1 _ h1) (C.2.2.2.2.1 _ h2) (C.2.2.2.2.1 _ h3) (C.2.2.2.2.1 _ h4) (by rw [hR]; exact hdep) (by rw [hr, hR]; show _ + 15 ≤ 34 * kd K + 12; omega) (by rw [hR]; exact hkc) (by rw [hR]; exact hks) hd (k p e R s m args below meth c H locs ls Q z ex D D3 C hP hS hl hE)
def qmminl (x y : Int64) : Int64 := if y < x then y else x
theorem qr_mminl {idx : Nat} {x y : Int64} (hd : decode (kcc K) pc = .ok (.invokestatic idx, 3)) (h1 : Cond.methodLink (kown K) idx Lib.MathLoose.min_long.x ∈ qg) (h2 : Cond.static Lib.MathLoose.min_long.x ∈ qg) (h3 : Cond.initialized "java/lang/Math" ∈ qg) (h4 : Cond.code Lib.MathLoose.min_long.x Lib.MathLoose.min_long.code 4 (some .long) ∈ qg) (hdep : 1 ≤ kd K) (hrm : (st.map fun v => v.category).sum ≤ 8) (hkc : kc ≤ kmc K) (hks : ks ≤ kms K) (k : qR K E X (pc + 3) lv (.long (qmminl x y) :: st) n kc ks f) : qR K E X pc lv (.long y :: .long x :: st) n kc ks f := by
  intro p e R s m args below meth c H locs ls Q z ex D D3 C hP hS hl hE
  have hr : ((st.map (qv z ex)).map fun v => v.category).sum = (st.map fun v => v.category).sum := by
    rw [List.map_map]
    congr 1
    exact List.map_congr_left (fun v _ => qv_cat z ex v)
  have hR : R = qrm (kd K) (kmc K) (kms K) := C.2.2.2.2.2.2.2.2.1
  exact va_mmin_long C.1 C.2.1 (C.2.2.1.trans hl.1.symm) C.2.2.2.1 (C.2.2.2.2.1 _ h1) (C.2.2.2.2.1 _ h2) (C.2.2.2.2.1 _ h3) (C.2.2.2.2.1 _ h4) (by rw [hR]; exact hdep) (by rw [hr, hR]; show _ + 15 ≤ 34 * kd K + 12; omega) (by rw [hR]; exact hkc) (by rw [hR]; exact hks) hd (k p e R s m args below meth c H locs ls Q z ex D D3 C hP hS hl hE)
theorem qr_vret (hd : decode (kcc K) pc = .ok (.return_, 1)) (hr : kret K = none) (hE0 : E none n f) (hkc : kc ≤ kmc K) (hks : ks ≤ kms K) : qR K E X pc lv [] n kc ks f := by
  intro p e R s m args below meth c H locs ls Q z ex D D3 C hP hS hl hE
  exact hE.1 none n kc ks f H locs pc ls hE0 hkc hks hP hS ⟨hr, hd⟩
theorem qr_iret {v : Int32} {ty : FieldType} (hd : decode (kcc K) pc = .ok (.ireturn, 1)) (hr : kret K = some ty) (hn : narrow ty (.int v) = .int v) (hE0 : E (some (.int v)) n f) (hkc : kc ≤ kmc K) (hks : ks ≤ kms K) : qR K E X pc lv [.int v] n kc ks f := by
  intro p e R s m args below meth c H locs ls Q z ex D D3 C hP hS hl hE
  exact hE.1 (some (.int v)) n kc ks f H locs pc ls hE0 hkc hks hP hS ⟨⟨ty, hr, hn⟩, hd⟩
theorem qr_lret {v : Int64} (hd : decode (kcc K) pc = .ok (.lreturn, 1)) (hr : kret K = some .long) (hE0 : E (some (.long v)) n f) (hkc : kc ≤ kmc K) (hks : ks ≤ kms K) : qR K E X pc lv [.long v] n kc ks f := by
  intro p e R s m args below meth c H locs ls Q z ex D D3 C hP hS hl hE
  exact hE.1 (some (.long v)) n kc ks f H locs pc ls hE0 hkc hks hP hS ⟨hr, hd⟩
theorem qr_aret {v : Nat} {rt : FieldType} (hd : decode (kcc K) pc = .ok (.areturn, 1)) (hr : kret K = some rt) (ho : (∃ n, rt = .object n) ∨ ∃ t, rt = .array t) (hE0 : E (some (.ref v)) n f) (hkc : kc ≤ kmc K) (hks : ks ≤ kms K) : qR K E X pc lv [.ref v] n kc ks f := by
  intro p e R s m args below meth c H locs ls Q z ex D D3 C hP hS hl hE
  exact hE.1 (some (.ref v)) n kc ks f H locs pc ls hE0 hkc hks hP hS ⟨⟨rt, hr, ho⟩, hd⟩
theorem qr_throw {En : String} (ht : qThrow (kown K) (kcc K) pc En) (hrm : (st.map fun v => v.category).sum ≤ 8) (hX : X En n f) (hkc : kc + 1 ≤ kmc K) (hks : ks + 6 ≤ kms K) : qR K E X pc lv st n kc ks f := by
  intro p e R s m args below meth c H locs ls Q z ex D D3 C hP hS hl hE
  have hr : ((st.map (qv z ex)).map fun v => v.category).sum = (st.map fun v => v.category).sum := by
    rw [List.map_map]
    congr 1
    exact List.map_congr_left (fun v _ => qv_cat z ex v)
  exact hE.2 En n kc ks f H locs pc ls _ hX hkc hks hP hS hl.1 (by rw [hr]; exact hrm) ht
theorem qr_obj {idx : Nat} {q : Nat} (hd : decode (kcc K) pc = .ok (.invokespecial idx, 3)) (h1 : Cond.methodLink (kown K) idx Lib.objectInit ∈ qg) (h2 : Cond.instanceMethod Lib.objectInit ∈ qg) (h3 : Cond.code Lib.objectInit ⟨#[0xb1]⟩ 1 none ∈ qg) (hdep : 1 ≤ kd K) (hrm : (st.map fun v => v.category).sum ≤ 8) (k : qR K E X (pc + 3) lv st n kc ks f) : qR K E X pc lv (.ref q :: st) n kc ks f := by
  intro p e R s m args below meth c H locs ls Q z ex D D3 C hP hS hl hE
  have hr : ((st.map (qv z ex)).map fun v => v.category).sum = (st.map fun v => v.category).sum := by
    rw [List.map_map]
    congr 1
    exact List.map_congr_left (fun v _ => qv_cat z ex v)
  have hR : R = qrm (kd K) (kmc K) (kms K) := C.2.2.2.2.2.2.2.2.1
  refine W.objInit C.1 C.2.1 C.2.2.2.1 (C.2.2.2.2.1 _ h1) (C.2.2.2.2.1 _ h2) (C.2.2.2.2.1 _ h3) rfl (hl.1.trans C.2.2.1.symm) rfl hd (by rw [hR]; exact hdep) (by rw [hR]; have := lv_room (m := m) (pc := pc) (ls := ls) (rest := (Value.ref q :: st).map (qv z ex)) (st := st.map (qv z ex)) (by rw [hr]; exact hrm); show _ ≤ 34 * kd K + 12; omega) ?_
  exact W.eq (g2 := F0 m (pc + 3) ls (st.map (qv z ex))) rfl (k p e R s m args below meth c H locs ls Q z ex D D3 C hP hS hl hE)
end QF
