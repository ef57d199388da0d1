/-! THE CLAIM OUT OF ONE WALK OF THE LAW'S BODY. Your part is whole_start (and what it stands on); all else here is the same for every law, but numbers. -/
def R_law : String := "BillForgeLaw"
def lw_P (b : Addr) (xs : List Int32) (args : Array Value) (s : State) : Prop := args = #[.ref b] ∧ s.IntsAt b xs ∧ xs.length ≤ 5 ∧ (Jvm.Cond.and given_1 narrow_1).before args s = true
def lw_Q (_ : Array Value) (s : State) (o : Outcome) (t : State) : Prop := o = .returned (some (.int 1)) ∧ Framed s o t [] 600002 7302232
def lw_Z (below : List Frame) (a : Array Value) (s : State) : State → Prop := fun t => ∃ o, t.status = .running ∧ Ended t below o ∧ lw_Q a s o t
/-- the law's own end, with 1 on the stack, nothing written that was there before, its room as the claim has it -/
theorem lw_ret {p : Program} {l : Launch} {e : Env} {s : State} {m : MethodId} {below : List Frame} {meth : Method} {c : Code} {b : Nat} (hx : p.tables.exec = Jvm.exec) (hb : c.code = code) (hr : meth.sig.returnType = ret) (hlocks : meth.locks = false) {pc : Nat} {H : Heap} {ls : Array Slot} (hdg : decode code pc = .ok (.ireturn, 1)) : W p l e room_1 s m #[Value.ref b] below meth c H [] 600002 7302232 (lw_Z below #[Value.ref b] s) (F0 m pc ls [.int 1]) := by
  intro T hT X
  obtain ⟨fs, hret, hrun, hended, hW, hframe⟩ := X.leave (v := some (.int 1)) (hlocks := hlocks) (fun h => by rw [hr] at h; cases h)
  have hmeth' : T.vm.method? m = some meth := X.method'
  refine ⟨T.setFrames fs, ?_, .returned (some (.int 1)), hrun, hended, rfl, ⟨_, rfl⟩, hW, hframe⟩
  jvm_step X.here [X.here.top, hx, hb, hdg, hmeth', hr, ret, narrow_b1]
  (try refine ⟨rfl, ?_⟩); (try refine ⟨rfl, ?_⟩)
  first | (intro acts; rw [hret _ acts rfl rfl rfl]) | rw [hret _ _ rfl rfl rfl]
  exact Steps.refl _
/-- what holds at the law's entry: the machine, the code, the tables' words (any of lw_tbl by 'hts w (by decide +kernel)'), the script of L ints xs at the cell b, what the Statement gives of the start (any of its parts by flat_of_before) -/
def lw_At (p : Program) (s : State) (m : MethodId) (meth : Method) (c : Code) (b L : Nat) (xs : Nat → Int32) : Prop :=
  p.tables.exec = Jvm.exec ∧ c.code = code ∧ meth.sig.returnType = ret ∧ c.maxLocals = 8 ∧ s.vm.findClass R_law = some m.cls ∧ (∀ w ∈ lw_tbl, w.before #[Value.ref b] s = true) ∧ va_X b L xs s s.heap ∧ b < s.heap.size ∧ meth.locks = false ∧ (Jvm.Cond.and given_1 narrow_1).before #[Value.ref b] s = true
/-- the law's own end, in any room -/
theorem lw_ret9 {p : Program} {l : Launch} {e : Env} {R : Room} {s : State} {m : MethodId} {below : List Frame} {meth : Method} {c : Code} {b : Nat} (hx : p.tables.exec = Jvm.exec) (hb : c.code = code) (hr : meth.sig.returnType = ret) (hlocks : meth.locks = false) {pc : Nat} {H : Heap} {ls : Array Slot} (hdg : decode code pc = .ok (.ireturn, 1)) : W p l e R s m #[Value.ref b] below meth c H [] 600002 7302232 (lw_Z below #[Value.ref b] s) (F0 m pc ls [.int 1]) := by
  intro T hT X
  obtain ⟨fs, hret, hrun, hended, hW, hframe⟩ := X.leave (v := some (.int 1)) (hlocks := hlocks) (fun h => by rw [hr] at h; cases h)
  have hmeth' : T.vm.method? m = some meth := X.method'
  refine ⟨T.setFrames fs, ?_, .returned (some (.int 1)), hrun, hended, rfl, ⟨_, rfl⟩, hW, hframe⟩
  jvm_step X.here [X.here.top, hx, hb, hdg, hmeth', hr, ret, narrow_b1]
  (try refine ⟨rfl, ?_⟩); (try refine ⟨rfl, ?_⟩)
  first | (intro acts; rw [hret _ acts rfl rfl rfl]) | rw [hret _ _ rfl rfl rfl]
  exact Steps.refl _
set_option maxHeartbeats 4000000 in
set_option maxRecDepth 100000 in
/-- the walk of the law from its entry, out of the walk of its loop -/
theorem whole_of {p : Program} {e : Env} {s : State} {m : MethodId} {below : List Frame} {meth : Method} {c : Code} (l : Launch) {b L : Nat} {xs : Nat → Int32} (C0 : lw_At p s m meth c b L xs) (hq : ∀ (E : qE) (X : qXC), (∀ n f, E (some (.int 1)) n f) → qR (qKL l b L xs) E X 23 (lwV 0) [] 77 77 5632 (fm I0 L0)) : W p l e room_1 s m #[Value.ref b] below meth c s.heap [] 0 0 (lw_Z below #[Value.ref b] s) (entryFrame m ([Value.ref b] : List Value).toArray 8) := by
  obtain ⟨hx, hb, hr, hml, hown, hts, hX, hbl, hlocks, hgv⟩ := id C0
  have hgw : ∀ w ∈ qg, w.before #[Value.ref b] s = true := fun w hw => hts w (List.mem_filter.mp hw).1
  have hfl := flat_of_before _ hgv
  obtain ⟨dC, dI, hKc⟩ : ∃ (dC : Nat → ClassId) (dI : Nat → Nat → Nat), ∀ (k : Nat) (q : vw_C), qC[k]? = some q → u_Kn s q.1 q.2.1 q.2.2 (dC k) (dI k) := by
    have h : ∀ k : Nat, ∃ (cC : ClassId) (iS : Nat → Nat), ∀ q : vw_C, qC[k]? = some q → u_Kn s q.1 q.2.1 q.2.2 cC iS := by
      intro k
      match k with
      | 0 =>
        obtain ⟨c0, i0, h0⟩ := u_known hgw i_cu (hgw _ in_cu)
        exact ⟨c0, i0, fun q hq => by cases hq; exact h0⟩
      | 1 =>
        obtain ⟨c0, i0, h0⟩ := u_known hgw i_ev (hgw _ in_ev)
        exact ⟨c0, i0, fun q hq => by cases hq; exact h0⟩
      | 2 =>
        obtain ⟨c0, i0, h0⟩ := u_known hgw i_ib (hgw _ in_ib)
        exact ⟨c0, i0, fun q hq => by cases hq; exact h0⟩
      | 3 =>
        obtain ⟨c0, i0, h0⟩ := u_known hgw i_pb (hgw _ in_pb)
        exact ⟨c0, i0, fun q hq => by cases hq; exact h0⟩
      | 4 =>
        obtain ⟨c0, i0, h0⟩ := u_known hgw i_tf (hgw _ in_tf)
        exact ⟨c0, i0, fun q hq => by cases hq; exact h0⟩
      | 5 =>
        obtain ⟨c0, i0, h0⟩ := u_known hgw i_tr (hgw _ in_tr)
        exact ⟨c0, i0, fun q hq => by cases hq; exact h0⟩
      | 6 =>
        obtain ⟨c0, i0, h0⟩ := u_known hgw i_bf (hgw _ in_bf)
        exact ⟨c0, i0, fun q hq => by cases hq; exact h0⟩
      | 7 =>
        obtain ⟨c0, i0, h0⟩ := u_known hgw i_md (hgw _ in_md)
        exact ⟨c0, i0, fun q hq => by cases hq; exact h0⟩
      | k + 8 => exact ⟨0, fun _ => 0, fun q hq => by simp at hq⟩
    exact ⟨fun k => Classical.choose (h k), fun k => Classical.choose (Classical.choose_spec (h k)), fun k q hq => Classical.choose_spec (Classical.choose_spec (h k)) q hq⟩
  obtain ⟨D3, hD3⟩ : ∃ D3 : Nat → ClassId, ∀ (t : Nat) (ty : FieldType), qT[t]? = some ty → ArrOfT s (D3 t) ty ∧ va_RA s (D3 t) ty := by
    have h : ∀ t : Nat, ∃ cA : ClassId, ∀ ty : FieldType, qT[t]? = some ty → ArrOfT s cA ty ∧ va_RA s cA ty := by
      intro t
      match t with
      | 0 =>
        obtain ⟨cA, k, comp, g1, g2, g3⟩ := Cond.arrayClass_spec (hgw _ ac_int)
        exact ⟨cA, fun ty h => by cases h; exact ⟨fun n z => ⟨fun k => by simp [arrV], k, g2, comp, g3⟩, g1⟩⟩
      | 1 =>
        obtain ⟨cA, k, comp, g1, g2, g3⟩ := Cond.arrayClass_spec (hgw _ ac_long)
        exact ⟨cA, fun ty h => by cases h; exact ⟨fun n z => ⟨fun k => by simp [arrV], k, g2, comp, g3⟩, g1⟩⟩
      | 2 =>
        obtain ⟨cA, k, comp, g1, g2, g3⟩ := Cond.arrayClass_spec (hgw _ ac_char)
        exact ⟨cA, fun ty h => by cases h; exact ⟨fun n z => ⟨fun k => by simp [arrV], k, g2, comp, g3⟩, g1⟩⟩
      | 3 =>
        obtain ⟨cA, k, comp, g1, g2, g3⟩ := Cond.arrayClass_spec (hgw _ ac_boolean)
        exact ⟨cA, fun ty h => by cases h; exact ⟨fun n z => ⟨fun k => by simp [arrV], k, g2, comp, g3⟩, g1⟩⟩
      | 4 =>
        obtain ⟨cA, k, comp, g1, g2, g3⟩ := Cond.arrayClass_spec (hgw _ ac_byte)
        exact ⟨cA, fun ty h => by cases h; exact ⟨fun n z => ⟨fun k => by simp [arrV], k, g2, comp, g3⟩, g1⟩⟩
      | 5 =>
        obtain ⟨comp, cA, k, g1, g2, g3, g4, g5⟩ := Cond.arrayOver_spec (hts _ (List.mem_append_right _ (show _ ∈ tables_1 from List.mem_append_left _ (List.mem_of_getElem? (i := 96) rfl))))
        exact ⟨cA, fun ty h => by cases h; exact ⟨fun n z => ⟨fun k => by simp [arrV], k, g3, comp, g4⟩, k, comp, g3, g4, g1, g5⟩⟩
      | 6 =>
        obtain ⟨comp, cA, k, g1, g2, g3, g4, g5⟩ := Cond.arrayOver_spec (hts _ (List.mem_append_right _ (show _ ∈ tables_1 from List.mem_append_left _ (List.mem_of_getElem? (i := 98) rfl))))
        exact ⟨cA, fun ty h => by cases h; exact ⟨fun n z => ⟨fun k => by simp [arrV], k, g3, comp, g4⟩, k, comp, g3, g4, g1, g5⟩⟩
      | t + 7 => exact ⟨0, fun ty h => by simp at h⟩
    exact ⟨fun t => Classical.choose (h t), fun t ty ht => Classical.choose_spec (h t) ty ht⟩
  have hK : va_K (dC, dI) qC (qtys D3) s := by
    refine ⟨hKc, fun k q hk => ?_⟩
    have hlt : k < qT.length := by
      have := (List.getElem?_eq_some_iff.mp hk).1
      simpa [qtys] using this
    obtain ⟨ty, hty⟩ : ∃ ty, qT[k]? = some ty := ⟨qT[k], List.getElem?_eq_getElem hlt⟩
    have h2 := qtys_at (D3 := D3) hty
    cases hk.symm.trans h2
    exact hD3 k ty hty
  have hXq : qX s.heap.size (fun _ => b) s s.heap := by
    refine ⟨Nat.le_refl _, fun w hw => ?_, fun Cn hC => ?_, fun q hq9 => ?_, fun q hq9 => ?_, fun w hw => ?_⟩
    · have h1 := hts w (List.mem_filter.mp hw).1
      have h2 := (List.mem_filter.mp hw).2
      cases w <;> first | exact absurd h2 Bool.false_ne_true | exact va_Nw.of rfl h1
    · rcases List.mem_cons.mp hC with h | hC
      · cases h
        exact va_AO.of (hts _ (List.mem_append_right _ (show _ ∈ tables_1 from List.mem_append_left _ (List.mem_of_getElem? (i := 96) rfl))))
      rcases List.mem_cons.mp hC with h | hC
      · cases h
        exact va_AO.of (hts _ (List.mem_append_right _ (show _ ∈ tables_1 from List.mem_append_left _ (List.mem_of_getElem? (i := 98) rfl))))
      cases hC
    · rcases List.mem_cons.mp hq9 with rfl | hq9
      · exact qZ_of (hts _ (List.mem_append_right _ (show _ ∈ tables_1 from List.mem_append_right _ (List.mem_append_left _ (List.mem_of_getElem? (i := 180) rfl))))) (hfl _ (by decide +kernel))
      rcases List.mem_cons.mp hq9 with rfl | hq9
      · exact qZ_of (hts _ (List.mem_append_right _ (show _ ∈ tables_1 from List.mem_append_right _ (List.mem_append_left _ (List.mem_of_getElem? (i := 182) rfl))))) (hfl _ (by decide +kernel))
      cases hq9
    · skip
      rcases List.mem_cons.mp hq9 with rfl | hq9
      · exact hfl (Cond.not (.castable "java/lang/IllegalStateException" "java/lang/IllegalArgumentException")) (by decide +kernel)
      rcases List.mem_cons.mp hq9 with rfl | hq9
      · exact hfl (Cond.not (.castable "java/lang/IndexOutOfBoundsException" "java/lang/IllegalArgumentException")) (by decide +kernel)
      rcases List.mem_cons.mp hq9 with rfl | hq9
      · exact hfl (Cond.not (.castable "java/lang/IllegalStateException" "java/lang/IndexOutOfBoundsException")) (by decide +kernel)
      rcases List.mem_cons.mp hq9 with rfl | hq9
      · exact hfl (Cond.not (.castable "java/lang/IllegalArgumentException" "java/util/NoSuchElementException")) (by decide +kernel)
      cases hq9
    · skip
      rcases List.mem_cons.mp hw with rfl | hw
      · exact va_tabs rfl rfl (hts _ (List.mem_append_right _ (show _ ∈ tables_1 from List.mem_append_right _ (List.mem_append_left _ (List.mem_of_getElem? (i := 156) rfl)))))
      rcases List.mem_cons.mp hw with rfl | hw
      · exact va_tabs rfl rfl (hts _ (List.mem_append_right _ (show _ ∈ tables_1 from List.mem_append_right _ (List.mem_append_left _ (List.mem_of_getElem? (i := 158) rfl)))))
      rcases List.mem_cons.mp hw with rfl | hw
      · exact va_tabs rfl rfl (hts _ (List.mem_append_right _ (show _ ∈ tables_1 from List.mem_append_right _ (List.mem_append_left _ (List.mem_of_getElem? (i := 160) rfl)))))
      rcases List.mem_cons.mp hw with rfl | hw
      · exact va_tabs rfl rfl (hts _ (List.mem_append_right _ (show _ ∈ tables_1 from List.mem_append_right _ (List.mem_append_left _ (List.mem_of_getElem? (i := 155) rfl)))))
      rcases List.mem_cons.mp hw with rfl | hw
      · exact va_tabs rfl rfl (hts _ (List.mem_append_right _ (show _ ∈ tables_1 from List.mem_append_right _ (List.mem_append_left _ (List.mem_of_getElem? (i := 223) rfl)))))
      rcases List.mem_cons.mp hw with rfl | hw
      · exact va_tabs rfl rfl (hts _ (List.mem_append_right _ (show _ ∈ tables_1 from List.mem_append_right _ (List.mem_append_right _ (List.mem_append_left _ (List.mem_of_getElem? (i := 227) rfl))))))
      rcases List.mem_cons.mp hw with rfl | hw
      · exact va_tabs rfl rfl (hts _ (List.mem_append_right _ (show _ ∈ tables_1 from List.mem_append_right _ (List.mem_append_right _ (List.mem_append_right _ (List.mem_append_left _ (List.mem_of_getElem? (i := 80) rfl)))))))
      cases hw
  have hl := lv_entry ([.ref b]) (n := 8) (Nat.le_of_ble_eq_true rfl)
  rw [lg_entry_eq]
  generalize (lg_sl ([.ref b]) ++ List.replicate (8 - (lg_sl ([.ref b])).length) Slot.unset).toArray = ls at hl ⊢
  have hl : lv_has ls 8 [(0, .ref b)] := hl
  refine W_room (R' := qrm 13 600002 7302232) (by decide) (by decide) (by decide) (by decide) ?_
  have C : qCx (qKL l b L xs) p (qrm 13 600002 7302232) s m #[Value.ref b] meth c s.heap.size (fun _ => b) (dC, dI) D3 := ⟨hx, hb, hml, hown, hgw, (fun h => nomatch h), hK, hXq, rfl, fun _ => ⟨rfl, Nat.le_of_ble_eq_true rfl⟩, rfl, hX, hbl⟩
  refine lw_head (f := fun _ => .inr (0, [])) (hq (fun v _ _ => v = some (.int 1)) (fun _ _ _ => False) (fun _ _ => rfl)) p e _ s m _ below meth c s.heap [] ls _ s.heap.size (fun _ => b) (dC, dI) D3 C (fun k q h => by simp [qw] at h) va_S.rf hl ⟨?_, fun En n kc ks f H locs pc ls rest hX9 => hX9.elim⟩
  intro v n kc ks f H locs pc ls9 hE hkc hks hP hS hret
  subst hE
  refine va_forget (fun q hq9 => (hS.2.2 q hq9).1) ?_
  refine W.widen (k := 600002) (n := 7302232) hkc hks ?_
  exact lw_ret9 hx hb hr hlocks hret.2
