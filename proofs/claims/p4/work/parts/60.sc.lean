/-! the walk of the law from its entry, where it ends with 0 -/
def s1_Q (_ : Array Value) (s : State) (o : Outcome) (t : State) : Prop := o = .returned (some (.int 0)) ∧ Framed s o t [] 601024 7293034
def s1_Z (below : List Frame) (a : Array Value) (s : State) : State → Prop := fun t => ∃ o, t.status = .running ∧ Ended t below o ∧ s1_Q a s o t
theorem s1_ret9 {p : Program} {l : Launch} {e : Env} {R : Room} {s : State} {m : MethodId} {below : List Frame} {meth : Method} {c : Code} {b : Nat} (hx : p.tables.exec = Jvm.exec) (hb : c.code = code) (hr : meth.sig.returnType = ret) (hlocks : meth.locks = false) {pc : Nat} {H : Heap} {ls : Array Slot} (hdg : decode code pc = .ok (.ireturn, 1)) : W p l e R s m #[Value.ref b] below meth c H [] 601024 7293034 (s1_Z below #[Value.ref b] s) (F0 m pc ls [.int 0]) := by
  intro T hT X
  obtain ⟨fs, hret, hrun, hended, hW, hframe⟩ := X.leave (v := some (.int 0)) (hlocks := hlocks) (fun h => by rw [hr] at h; cases h)
  have hmeth' : T.vm.method? m = some meth := X.method'
  refine ⟨T.setFrames fs, ?_, .returned (some (.int 0)), hrun, hended, rfl, ⟨_, rfl⟩, hW, hframe⟩
  jvm_step X.here [X.here.top, hx, hb, hdg, hmeth', hr, ret, narrow_b0]
  (try refine ⟨rfl, ?_⟩); (try refine ⟨rfl, ?_⟩)
  first | (intro acts; rw [hret _ acts rfl rfl rfl]) | rw [hret _ _ rfl rfl rfl]
  exact Steps.refl _
set_option maxHeartbeats 4000000 in
set_option maxRecDepth 100000 in
theorem s1_of {p : Program} {e : Env} {s : State} {m : MethodId} {below : List Frame} {meth : Method} {c : Code} (l : Launch) {b L : Nat} {xs : Nat → Int32} (C0 : lw_At p s m meth c b L xs) (hq : ∀ (E : qE) (X : qXC), (∀ n f, E (some (.int 0)) n f) → qR (qKL l b L xs) E X 23 (lwV 0) [] 77 77 5632 (fm I0 L0)) : W p l e room_1 s m #[Value.ref b] below meth c s.heap [] 0 0 (s1_Z below #[Value.ref b] s) (entryFrame m ([Value.ref b] : List Value).toArray 8) := by
  obtain ⟨hx, hb, hr, hml, hown, hts, hX, hbl, hlocks, hgv⟩ := id C0
  have hgw : ∀ w ∈ qg, w.before #[Value.ref b] s = true := fun w hw => hts w (List.mem_filter.mp hw).1
  have hfl := flat_of_before _ hgv
  obtain ⟨dC, dI, hKc⟩ : ∃ (dC : Nat → ClassId) (dI : Nat → Nat → Nat), ∀ (k : Nat) (q : vw_C), qC[k]? = some q → u_Kn s q.1 q.2.1 q.2.2 (dC k) (dI k) := by
    have h : ∀ k : Nat, ∃ (cC : ClassId) (iS : Nat → Nat), ∀ q : vw_C, qC[k]? = some q → u_Kn s q.1 q.2.1 q.2.2 cC iS := by
      intro k
      match k with
      | 0 =>
        obtain ⟨c0, i0, h0⟩ := u_known hgw i_cu (hgw _ in_cu)
        exact ⟨c0, i0, fun q hq => by cases hq; exact h0⟩
      | 1 =>
        obtain ⟨c0, i0, h0⟩ := u_known hgw i_ev (hgw _ in_ev)
        exact ⟨c0, i0, fun q hq => by cases hq; exact h0⟩
      | 2 =>
        obtain ⟨c0, i0, h0⟩ := u_known hgw i_ib (hgw _ in_ib)
        exact ⟨c0, i0, fun q hq => by cases hq; exact h0⟩
      | 3 =>
        obtain ⟨c0, i0, h0⟩ := u_known hgw i_pb (hgw _ in_pb)
        exact ⟨c0, i0, fun q hq => by cases hq; exact h0⟩
      | 4 =>
        obtain ⟨c0, i0, h0⟩ := u_known hgw i_tf (hgw _ in_tf)
        exact ⟨c0, i0, fun q hq => by cases hq; exact h0⟩
      | 5 =>
        obtain ⟨c0, i0, h0⟩ := u_known hgw i_tr (hgw _ in_tr)
        exact ⟨c0, i0, fun q hq => by cases hq; exact h0⟩
      | 6 =>
        obtain ⟨c0, i0, h0⟩ := u_known hgw i_bf (hgw _ in_bf)
        exact ⟨c0, i0, fun q hq => by cases hq; exact h0⟩
      | 7 =>
        obtain ⟨c0, i0, h0⟩ := u_known hgw i_md (hgw _ in_md)
        exact ⟨c0, i0, fun q hq => by cases hq; exact h0⟩
      | k + 8 => exact ⟨0, fun _ => 0, fun q hq => by simp at hq⟩
    exact ⟨fun k => Classical.choose (h k), fun k => Classical.choose (Classical.choose_spec (h k)), fun k q hq => Classical.choose_spec (Classical.choose_spec (h k)) q hq⟩
  obtain ⟨D3, hD3⟩ : ∃ D3 : Nat → ClassId, ∀ (t : Nat) (ty : FieldType), qT[t]? = some ty → ArrOfT s (D3 t) ty ∧ va_RA s (D3 t) ty := by
    have h : ∀ t : Nat, ∃ cA : ClassId, ∀ ty : FieldType, qT[t]? = some ty → ArrOfT s cA ty ∧ va_RA s cA ty := by
      intro t
      match t with
      | 0 =>
        obtain ⟨cA, k, comp, g1, g2, g3⟩ := Cond.arrayClass_spec (hgw _ ac_int)
        exact ⟨cA, fun ty h => by cases h; exact ⟨fun n z => ⟨fun k => by simp [arrV], k, g2, comp, g3⟩, g1⟩⟩
      | 1 =>
        obtain ⟨cA, k, comp, g1, g2, g3⟩ := Cond.arrayClass_spec (hgw _ ac_long)
        exact ⟨cA, fun ty h => by cases h; exact ⟨fun n z => ⟨fun k => by simp [arrV], k, g2, comp, g3⟩, g1⟩⟩
      | 2 =>
        obtain ⟨cA, k, comp, g1, g2, g3⟩ := Cond.arrayClass_spec (hgw _ ac_char)
        exact ⟨cA, fun ty h => by cases h; exact ⟨fun n z => ⟨fun k => by simp [arrV], k, g2, comp, g3⟩, g1⟩⟩
      | 3 =>
        obtain ⟨cA, k, comp, g1, g2, g3⟩ := Cond.arrayClass_spec (hgw _ ac_boolean)
        exact ⟨cA, fun ty h => by cases h; exact ⟨fun n z => ⟨fun k => by simp [arrV], k, g2, comp, g3⟩, g1⟩⟩
      | 4 =>
        obtain ⟨cA, k, comp, g1, g2, g3⟩ := Cond.arrayClass_spec (hgw _ ac_byte)
        exact ⟨cA, fun ty h => by cases h; exact ⟨fun n z => ⟨fun k => by simp [arrV], k, g2, comp, g3⟩, g1⟩⟩
      | 5 =>
        obtain ⟨comp, cA, k, g1, g2, g3, g4, g5⟩ := Cond.arrayOver_spec (hts _ (List.mem_append_right _ (show _ ∈ tables_1 from List.mem_append_left _ (List.mem_of_getElem? (i := 96) rfl))))
        exact ⟨cA, fun ty h => by cases h; exact ⟨fun n z => ⟨fun k => by simp [arrV], k, g3, comp, g4⟩, k, comp, g3, g4, g1, g5⟩⟩
      | 6 =>
        obtain ⟨comp, cA, k, g1, g2, g3, g4, g5⟩ := Cond.arrayOver_spec (hts _ (List.mem_append_right _ (show _ ∈ tables_1 from List.mem_append_left _ (List.mem_of_getElem? (i := 98) rfl))))
        exact ⟨cA, fun ty h => by cases h; exact ⟨fun n z => ⟨fun k => by simp [arrV], k, g3, comp, g4⟩, k, comp, g3, g4, g1, g5⟩⟩
      | t + 7 => exact ⟨0, fun ty h => by simp at h⟩
    exact ⟨fun t => Classical.choose (h t), fun t ty ht => Classical.choose_spec (h t) ty ht⟩
  have hK : va_K (dC, dI) qC (qtys D3) s := by
    refine ⟨hKc, fun k q hk => ?_⟩
    have hlt : k < qT.length := by
      have := (List.getElem?_eq_some_iff.mp hk).1
      simpa [qtys] using this
    obtain ⟨ty, hty⟩ : ∃ ty, qT[k]? = some ty := ⟨qT[k], List.getElem?_eq_getElem hlt⟩
    have h2 := qtys_at (D3 := D3) hty
    cases hk.symm.trans h2
    exact hD3 k ty hty
  obtain ⟨adK, adV, hvS, hvT⟩ := vk_Sof (args := #[Value.ref b]) (s := s) (N := 6) (tm := fun i => Term.string qStrO ((qStr.map (·.1)).getD i 0)) (len := qLenS) (byt := qBytS) (A := qA s.heap.size) (by decide)
    (fun i hi => by
      match i, hi with
      | 0, _ => exact (hfl _ (by decide +kernel))
      | 1, _ => exact (hfl _ (by decide +kernel))
      | 2, _ => exact (hfl _ (by decide +kernel))
      | 3, _ => exact (hfl _ (by decide +kernel))
      | 4, _ => exact (hfl _ (by decide +kernel))
      | 5, _ => exact (hfl _ (by decide +kernel))
      | i + 6, h => exact absurd h (by omega))
    (fun i hi => by
      match i, hi with
      | 0, _ => exact (hfl _ (by decide +kernel))
      | 1, _ => exact (hfl _ (by decide +kernel))
      | 2, _ => exact (hfl _ (by decide +kernel))
      | 3, _ => exact (hfl _ (by decide +kernel))
      | 4, _ => exact (hfl _ (by decide +kernel))
      | 5, _ => exact (hfl _ (by decide +kernel))
      | i + 6, h => exact absurd h (by omega))
    (fun i hi => by
      match i, hi with
      | 0, _ => exact (hfl _ (by decide +kernel))
      | 1, _ => exact (hfl _ (by decide +kernel))
      | 2, _ => exact (hfl _ (by decide +kernel))
      | 3, _ => exact (hfl _ (by decide +kernel))
      | 4, _ => exact (hfl _ (by decide +kernel))
      | 5, _ => exact (hfl _ (by decide +kernel))
      | i + 6, h => exact absurd h (by omega))
    (fun i hi => by
      match i, hi with
      | 0, _ => exact (hfl _ (by decide +kernel))
      | 1, _ => exact (hfl _ (by decide +kernel))
      | 2, _ => exact (hfl _ (by decide +kernel))
      | 3, _ => exact (hfl _ (by decide +kernel))
      | 4, _ => exact (hfl _ (by decide +kernel))
      | 5, _ => exact (hfl _ (by decide +kernel))
      | i + 6, h => exact absurd h (by omega))
    (fun i hi => by
      match i, hi with
      | 0, _ =>
        intro j hj
        match j, hj with
        | 0, _ => exact (hfl _ (by decide +kernel))
        | 1, _ => exact (hfl _ (by decide +kernel))
        | 2, _ => exact (hfl _ (by decide +kernel))
        | j + 3, h => exact absurd (show j + 3 < 3 from h) (by omega)
      | 1, _ =>
        intro j hj
        match j, hj with
        | 0, _ => exact (hfl _ (by decide +kernel))
        | 1, _ => exact (hfl _ (by decide +kernel))
        | 2, _ => exact (hfl _ (by decide +kernel))
        | 3, _ => exact (hfl _ (by decide +kernel))
        | j + 4, h => exact absurd (show j + 4 < 4 from h) (by omega)
      | 2, _ =>
        intro j hj
        match j, hj with
        | 0, _ => exact (hfl _ (by decide +kernel))
        | 1, _ => exact (hfl _ (by decide +kernel))
        | 2, _ => exact (hfl _ (by decide +kernel))
        | j + 3, h => exact absurd (show j + 3 < 3 from h) (by omega)
      | 3, _ =>
        intro j hj
        match j, hj with
        | 0, _ => exact (hfl _ (by decide +kernel))
        | 1, _ => exact (hfl _ (by decide +kernel))
        | 2, _ => exact (hfl _ (by decide +kernel))
        | j + 3, h => exact absurd (show j + 3 < 3 from h) (by omega)
      | 4, _ =>
        intro j hj
        match j, hj with
        | 0, _ => exact (hfl _ (by decide +kernel))
        | 1, _ => exact (hfl _ (by decide +kernel))
        | 2, _ => exact (hfl _ (by decide +kernel))
        | 3, _ => exact (hfl _ (by decide +kernel))
        | j + 4, h => exact absurd (show j + 4 < 4 from h) (by omega)
      | 5, _ =>
        intro j hj
        match j, hj with
        | 0, _ => exact (hfl _ (by decide +kernel))
        | 1, _ => exact (hfl _ (by decide +kernel))
        | 2, _ => exact (hfl _ (by decide +kernel))
        | 3, _ => exact (hfl _ (by decide +kernel))
        | j + 4, h => exact absurd (show j + 4 < 4 from h) (by omega)
      | i + 6, h => exact absurd h (by omega))
    (fun i j hi hj hne => by
      match i, hi, j, hj with
      | 0, _, 0, _ => exact absurd rfl hne
      | 0, _, 1, _ => exact Or.inl (hfl _ (by decide +kernel))
      | 0, _, 2, _ => exact Or.inl (hfl _ (by decide +kernel))
      | 0, _, 3, _ => exact Or.inl (hfl _ (by decide +kernel))
      | 0, _, 4, _ => exact Or.inl (hfl _ (by decide +kernel))
      | 0, _, 5, _ => exact Or.inl (hfl _ (by decide +kernel))
      | 1, _, 0, _ => exact Or.inr (hfl _ (by decide +kernel))
      | 1, _, 1, _ => exact absurd rfl hne
      | 1, _, 2, _ => exact Or.inl (hfl _ (by decide +kernel))
      | 1, _, 3, _ => exact Or.inl (hfl _ (by decide +kernel))
      | 1, _, 4, _ => exact Or.inl (hfl _ (by decide +kernel))
      | 1, _, 5, _ => exact Or.inl (hfl _ (by decide +kernel))
      | 2, _, 0, _ => exact Or.inr (hfl _ (by decide +kernel))
      | 2, _, 1, _ => exact Or.inr (hfl _ (by decide +kernel))
      | 2, _, 2, _ => exact absurd rfl hne
      | 2, _, 3, _ => exact Or.inl (hfl _ (by decide +kernel))
      | 2, _, 4, _ => exact Or.inl (hfl _ (by decide +kernel))
      | 2, _, 5, _ => exact Or.inl (hfl _ (by decide +kernel))
      | 3, _, 0, _ => exact Or.inr (hfl _ (by decide +kernel))
      | 3, _, 1, _ => exact Or.inr (hfl _ (by decide +kernel))
      | 3, _, 2, _ => exact Or.inr (hfl _ (by decide +kernel))
      | 3, _, 3, _ => exact absurd rfl hne
      | 3, _, 4, _ => exact Or.inl (hfl _ (by decide +kernel))
      | 3, _, 5, _ => exact Or.inl (hfl _ (by decide +kernel))
      | 4, _, 0, _ => exact Or.inr (hfl _ (by decide +kernel))
      | 4, _, 1, _ => exact Or.inr (hfl _ (by decide +kernel))
      | 4, _, 2, _ => exact Or.inr (hfl _ (by decide +kernel))
      | 4, _, 3, _ => exact Or.inr (hfl _ (by decide +kernel))
      | 4, _, 4, _ => exact absurd rfl hne
      | 4, _, 5, _ => exact Or.inl (hfl _ (by decide +kernel))
      | 5, _, 0, _ => exact Or.inr (hfl _ (by decide +kernel))
      | 5, _, 1, _ => exact Or.inr (hfl _ (by decide +kernel))
      | 5, _, 2, _ => exact Or.inr (hfl _ (by decide +kernel))
      | 5, _, 3, _ => exact Or.inr (hfl _ (by decide +kernel))
      | 5, _, 4, _ => exact Or.inr (hfl _ (by decide +kernel))
      | 5, _, 5, _ => exact absurd rfl hne
      | i + 6, h, _, _ => exact absurd h (by omega)
      | _, _, j + 6, h => exact absurd h (by omega))
    (fun a ha h => absurd h.1 (by omega))
  have hCS : va_Z "java/lang/String" "COMPACT_STRINGS" "Z" (.int 1) (qA s.heap.size) s s.heap := va_Zof (hts _ (List.mem_append_right _ (show _ ∈ tables_1 from List.mem_append_right _ (List.mem_append_right _ (List.mem_append_left _ (List.mem_of_getElem? (i := 60) rfl)))))) (hgw _ ii_js) (va_eqi (hfl (Cond.eq (.static "java/lang/String" "COMPACT_STRINGS" "Z") (.int 1)) (by decide +kernel))) (fun a ha h => absurd h.1 (by omega))
  obtain ⟨t90, hSF⟩ : ∃ t90 : Nat, va_Z "jdk/internal/util/Preconditions" "SIOOBE_FORMATTER" "Ljava/util/function/BiFunction;" .null (qA s.heap.size) s s.heap ∨ va_Z "jdk/internal/util/Preconditions" "SIOOBE_FORMATTER" "Ljava/util/function/BiFunction;" (.ref t90) (qA s.heap.size) s s.heap := by
    rcases va_Zqof (A := qA s.heap.size) (hts _ (List.mem_append_right _ (show _ ∈ tables_1 from List.mem_append_right _ (List.mem_append_right _ (List.mem_append_left _ (List.mem_of_getElem? (i := 76) rfl)))))) (hgw _ ii_jp) (hfl _ (by decide +kernel)) (fun a ha h => absurd h.1 (by omega)) with h | ⟨t, h⟩
    · exact ⟨0, Or.inl h⟩
    · exact ⟨t, Or.inr h⟩
  obtain ⟨ex, hex77, hexK, hexV, hex90⟩ : ∃ ex : Nat → Nat, ex 77 = b ∧ (∀ i, i < 6 → ex (78 + i) = adK i) ∧ (∀ i, i < 6 → ex (84 + i) = adV i) ∧ ex 90 = t90 := by
    refine ⟨fun k => if k = 77 then b else if k < 84 then adK (k - 78) else if k < 90 then adV (k - 84) else t90, rfl, fun i hi => ?_, fun i hi => ?_, rfl⟩
    · show (if 78 + i = 77 then b else if 78 + i < 84 then adK (78 + i - 78) else _) = _
      rw [if_neg (by omega), if_pos (by omega), show 78 + i - 78 = i by omega]
    · show (if 84 + i = 77 then b else if 84 + i < 84 then _ else if 84 + i < 90 then adV (84 + i - 84) else _) = _
      rw [if_neg (by omega), if_neg (by omega), if_pos (by omega), show 84 + i - 84 = i by omega]
  have hSx : qSx s.heap.size ex s s.heap := by
    refine ⟨fun i q hq => ?_, ⟨fun i hi => ?_, fun i j hi hj h => ?_⟩, hCS, by rw [hex90]; exact hSF⟩
    · match i, hq with
      | 0, hq =>
        cases hq
        rw [hexK 0 (by omega)]
        exact vk_R.of (A := #[Value.ref b]) (hts _ (List.mem_append_right _ (show _ ∈ tables_1 from List.mem_append_right _ (List.mem_append_right _ (List.mem_append_left _ (List.mem_of_getElem? (i := 41) rfl)))))) (hvT 0 (by omega))
      | 1, hq =>
        cases hq
        rw [hexK 1 (by omega)]
        exact vk_R.of (A := #[Value.ref b]) (hts _ (List.mem_append_right _ (show _ ∈ tables_1 from List.mem_append_right _ (List.mem_append_right _ (List.mem_append_left _ (List.mem_of_getElem? (i := 42) rfl)))))) (hvT 1 (by omega))
      | 2, hq =>
        cases hq
        rw [hexK 2 (by omega)]
        exact vk_R.of (A := #[Value.ref b]) (hts _ (List.mem_append_right _ (show _ ∈ tables_1 from List.mem_append_right _ (List.mem_append_right _ (List.mem_append_left _ (List.mem_of_getElem? (i := 43) rfl)))))) (hvT 2 (by omega))
      | 3, hq =>
        cases hq
        rw [hexK 3 (by omega)]
        exact vk_R.of (A := #[Value.ref b]) (hts _ (List.mem_append_right _ (show _ ∈ tables_1 from List.mem_append_right _ (List.mem_append_right _ (List.mem_append_left _ (List.mem_of_getElem? (i := 44) rfl)))))) (hvT 3 (by omega))
      | 4, hq =>
        cases hq
        rw [hexK 4 (by omega)]
        exact vk_R.of (A := #[Value.ref b]) (hts _ (List.mem_append_right _ (show _ ∈ tables_1 from List.mem_append_right _ (List.mem_append_right _ (List.mem_append_left _ (List.mem_of_getElem? (i := 45) rfl)))))) (hvT 4 (by omega))
      | 5, hq =>
        cases hq
        rw [hexK 5 (by omega)]
        exact vk_R.of (A := #[Value.ref b]) (hts _ (List.mem_append_right _ (show _ ∈ tables_1 from List.mem_append_right _ (List.mem_append_right _ (List.mem_append_left _ (List.mem_of_getElem? (i := 46) rfl)))))) (hvT 5 (by omega))
      | i + 6, hq => simp at hq
    · show va_O "java/lang/String" (ex (78 + i)) _ _ _ ∧ va_OF "java/lang/String" "coder" "B" (.int 0) (ex (78 + i)) _ _ _ ∧ va_OF "java/lang/String" "value" "[B" (.ref (ex (84 + i))) (ex (78 + i)) _ _ _ ∧ va_T .byte (ex (84 + i)) _ _ _ _ _
      rw [hexK i hi, hexV i hi]
      exact hvS.1 i hi
    · have h2 : ex (78 + i) = ex (78 + j) := h
      rw [hexK i hi, hexK j hj] at h2
      exact hvS.2 i j hi hj h2
  have hXq : qX s.heap.size ex s s.heap := by
    refine ⟨Nat.le_refl _, fun w hw => ?_, fun Cn hC => ?_, fun q hq9 => ?_, fun q hq9 => ?_, fun w hw => ?_, hSx⟩
    · have h1 := hts w (List.mem_filter.mp hw).1
      have h2 := (List.mem_filter.mp hw).2
      cases w <;> first | exact absurd h2 Bool.false_ne_true | exact va_Nw.of rfl h1
    · rcases List.mem_cons.mp hC with h | hC
      · cases h
        exact va_AO.of (hts _ (List.mem_append_right _ (show _ ∈ tables_1 from List.mem_append_left _ (List.mem_of_getElem? (i := 96) rfl))))
      rcases List.mem_cons.mp hC with h | hC
      · cases h
        exact va_AO.of (hts _ (List.mem_append_right _ (show _ ∈ tables_1 from List.mem_append_left _ (List.mem_of_getElem? (i := 98) rfl))))
      cases hC
    · rcases List.mem_cons.mp hq9 with rfl | hq9
      · exact qZ_of (hts _ (List.mem_append_right _ (show _ ∈ tables_1 from List.mem_append_right _ (List.mem_append_left _ (List.mem_of_getElem? (i := 180) rfl))))) (hfl _ (by decide +kernel))
      rcases List.mem_cons.mp hq9 with rfl | hq9
      · exact qZ_of (hts _ (List.mem_append_right _ (show _ ∈ tables_1 from List.mem_append_right _ (List.mem_append_left _ (List.mem_of_getElem? (i := 182) rfl))))) (hfl _ (by decide +kernel))
      cases hq9
    · skip
      rcases List.mem_cons.mp hq9 with rfl | hq9
      · exact hfl (Cond.not (.castable "java/lang/IllegalStateException" "java/lang/IllegalArgumentException")) (by decide +kernel)
      rcases List.mem_cons.mp hq9 with rfl | hq9
      · exact hfl (Cond.not (.castable "java/lang/IndexOutOfBoundsException" "java/lang/IllegalArgumentException")) (by decide +kernel)
      rcases List.mem_cons.mp hq9 with rfl | hq9
      · exact hfl (Cond.not (.castable "java/lang/IllegalStateException" "java/lang/IndexOutOfBoundsException")) (by decide +kernel)
      rcases List.mem_cons.mp hq9 with rfl | hq9
      · exact hfl (Cond.not (.castable "java/lang/IllegalArgumentException" "java/util/NoSuchElementException")) (by decide +kernel)
      cases hq9
    · skip
      rcases List.mem_cons.mp hw with rfl | hw
      · exact va_tabs rfl rfl (hts _ (List.mem_append_right _ (show _ ∈ tables_1 from List.mem_append_right _ (List.mem_append_left _ (List.mem_of_getElem? (i := 156) rfl)))))
      rcases List.mem_cons.mp hw with rfl | hw
      · exact va_tabs rfl rfl (hts _ (List.mem_append_right _ (show _ ∈ tables_1 from List.mem_append_right _ (List.mem_append_left _ (List.mem_of_getElem? (i := 158) rfl)))))
      rcases List.mem_cons.mp hw with rfl | hw
      · exact va_tabs rfl rfl (hts _ (List.mem_append_right _ (show _ ∈ tables_1 from List.mem_append_right _ (List.mem_append_left _ (List.mem_of_getElem? (i := 160) rfl)))))
      rcases List.mem_cons.mp hw with rfl | hw
      · exact va_tabs rfl rfl (hts _ (List.mem_append_right _ (show _ ∈ tables_1 from List.mem_append_right _ (List.mem_append_left _ (List.mem_of_getElem? (i := 155) rfl)))))
      rcases List.mem_cons.mp hw with rfl | hw
      · exact va_tabs rfl rfl (hts _ (List.mem_append_right _ (show _ ∈ tables_1 from List.mem_append_right _ (List.mem_append_left _ (List.mem_of_getElem? (i := 223) rfl)))))
      rcases List.mem_cons.mp hw with rfl | hw
      · exact va_tabs rfl rfl (hts _ (List.mem_append_right _ (show _ ∈ tables_1 from List.mem_append_right _ (List.mem_append_right _ (List.mem_append_left _ (List.mem_of_getElem? (i := 227) rfl))))))
      rcases List.mem_cons.mp hw with rfl | hw
      · exact va_tabs rfl rfl (hts _ (List.mem_append_right _ (show _ ∈ tables_1 from List.mem_append_right _ (List.mem_append_right _ (List.mem_append_right _ (List.mem_append_left _ (List.mem_of_getElem? (i := 80) rfl)))))))
      cases hw
  have hl := lv_entry ([.ref b]) (n := 8) (Nat.le_of_ble_eq_true rfl)
  rw [lg_entry_eq]
  generalize (lg_sl ([.ref b]) ++ List.replicate (8 - (lg_sl ([.ref b])).length) Slot.unset).toArray = ls at hl ⊢
  have hl : lv_has ls 8 [(0, .ref b)] := hl
  have hl9 : lv_has ls 8 ([(0, Value.ref 77)].map (qp s.heap.size ex)) := by
    show lv_has ls 8 [(0, .ref (ex 77))]
    rw [hex77]
    exact hl
  refine W_room (R' := qrm 13 601024 7293034) (by decide) (by decide) (by decide) (by decide) ?_
  have C : qCx (qKL l b L xs) p (qrm 13 601024 7293034) s m #[Value.ref b] meth c s.heap.size ex (dC, dI) D3 := ⟨hx, hb, hml, hown, hgw, (fun h => nomatch h), hK, hXq, rfl, fun _ => ⟨rfl, Nat.le_of_ble_eq_true rfl⟩, hex77, hX, hbl⟩
  refine lw_head (f := fun _ => .inr (0, [])) (hq (fun v _ _ => v = some (.int 0)) (fun _ _ _ => False) (fun _ _ => rfl)) p e _ s m _ below meth c s.heap [] ls _ s.heap.size ex (dC, dI) D3 C (fun k q h => by simp [qw] at h) va_S.rf hl9 ⟨?_, fun En n kc ks f H locs pc ls rest hX9 => hX9.elim⟩
  intro v n kc ks f H locs pc ls9 hE hkc hks hP hS hret
  subst hE
  refine va_forget (fun q hq9 => (hS.2.2 q hq9).1) ?_
  refine W.widen (k := 601024) (n := 7293034) hkc hks ?_
  exact s1_ret9 hx hb hr hlocks hret.2
