/-! what it means for the claim -/
set_option maxHeartbeats 4000000 in
theorem s1_walk (l : Launch) (hfl : l.flags = flags0) (b : Addr) : MetFree l x (headSpec (Jvm.Cond.code x code maxLocals ret :: tables_1) room_1) (lw_P b s1_S) (fun _ _ _ _ _ => True) s1_Q := by
  refine MetFree.of_bodyS (code := code) (maxLocals := maxLocals) (ret := ret) (by decide) ?_ ?_
  · intro args s m h hn
    obtain ⟨meth, c, h1, h2, h3, h4, h5, h6, -, -⟩ := Cond.code_spec hn (atoms_spec (ws := Jvm.Cond.code x code maxLocals ret :: tables_1) h _ List.mem_cons_self)
    exact ⟨meth, c, h1, h2, h3, h4, h5, h6⟩
  · intro p e s m args below meth c s₁ B hml0 hP _
    obtain ⟨rfl, hx, hbd, hgv⟩ := hP
    obtain ⟨scr, harrAt, hlist, hof, hsmall⟩ := hx
    obtain ⟨hcb, hkn, -, -⟩ := State.arrayAt?_spec harrAt
    have hown : s.vm.findClass R_law = some m.cls := findClass_of_methodNamed B.named
    have hts0 : ∀ c ∈ (Jvm.Cond.code x code maxLocals ret :: tables_1), c.before #[Value.ref b] s = true := atoms_spec (ws := Jvm.Cond.code x code maxLocals ret :: tables_1) B.pre
    have hts : ∀ w ∈ lw_tbl, w.before #[Value.ref b] s = true := k2_hts_sels lw_privs (fun w hw => hts0 w (List.mem_cons_of_mem _ hw)) lw_privs_ok
    have hml : c.maxLocals = 8 := B.maxLocals_eq (hts0 _ List.mem_cons_self)
    have X₀ : Stand p l e room_1 s m #[Value.ref b] below meth c s₁ [] 0 0 := Stand.of_body B
    have hh0 : s₁.heap = s.heap := by rw [B.state]; rfl
    have hsz : scr.slots.size = s1_S.length := by rw [← Array.length_toList, hlist, List.length_map]
    have hval : ∀ j : Nat, j < s1_S.length → scr.slots[j]? = some (.int (s1_S.getD j 0)) := fun j hj => by
      rw [← Array.getElem?_toList, hlist]
      simp [hj]
    have hbl : b < s.heap.size := (Array.getElem?_eq_some_iff.mp hcb).1
    have hX : va_X b 20 s1_x s s.heap := ⟨scr, hcb, hof, hkn, hsz, hval⟩
    have K : W p l e room_1 s m #[Value.ref b] below meth c s₁.heap [] 0 0 (s1_Z below #[Value.ref b] s) (entryFrame m ([Value.ref b] : List Value).toArray 8) := by
      rw [hh0]
      exact s1_of l ⟨B.exec, B.bytes, B.returns, hml, hown, hts, hX, hbl, B.notSynchronized, hgv⟩ (fun E X hE => s1_loop hfl E X hE)
    obtain ⟨t, a1, o, b1, b2, b3⟩ := K s₁ rfl X₀
    exact ⟨t, o, a1, b1, b2, b3⟩
/-- from every start that the Statement allows and whose script is S1's, the law comes to its end and answers 0 -/
theorem s1_zero (l : Launch) (hfl : l.flags = flags0) {p : Program} {e : Env} {s : State} {m : MethodId} {args : Array Value} {below : List Frame} {b : Addr}
    (hst : Jvm.D.AtStart classFile x code maxLocals ret World_1 tables_1 room_1 Calls_1 rest_1 Pre_1 l p e s m args below) (hb : args = #[.ref b]) (hx : s.IntsAt b s1_S) :
    ∃ n : Nat, (∀ k, k < n → Within (stepsAlone p.tables e k s) below) ∧ Ended (stepsAlone p.tables e n s) below (.returned (some (.int 0))) := by
  obtain ⟨-, -, ha, -, hc, hk, hf, -, -, happ, -, -, hpre⟩ := hst
  obtain ⟨k, o, h1, -, h3, hQ⟩ := s1_walk l hfl b p e ha hc hk s m args below hf ((Spec.applies_iff_loose hf).mp happ).1 ⟨hb, hx, by decide, hpre⟩ trivial
  obtain ⟨rfl, -⟩ := hQ
  exact ⟨k, h1, h3⟩
/-- so where there is such a start the claim is false -/
theorem s1_false {l : Launch} (hfl : l.flags = flags0) {p : Program} {e : Env} {s : State} {m : MethodId} {args : Array Value} {below : List Frame} {b : Addr}
    (hst : Jvm.D.AtStart classFile x code maxLocals ret World_1 tables_1 room_1 Calls_1 rest_1 Pre_1 l p e s m args below) (hb : args = #[.ref b]) (hx : s.IntsAt b s1_S) : ¬ Claimed_1_2 := by
  intro hC
  obtain ⟨n, h1, h2⟩ := s1_zero l hfl hst hb hx
  obtain ⟨hli, hw, ha, -, hc, hk, hf, hfit, hheap, happ, hcl, hre, hpre⟩ := hst
  obtain ⟨n', o, g1, -, g2, g3, -⟩ := hC l hfl hli hw p e ha hc hk s m args below hf hfit hheap happ ⟨hcl, hre, hpre⟩
  have hn : n = n' := by
    rcases Nat.lt_trichotomy n n' with h | h | h
    · exact absurd (g1 n h) h2.not_within
    · exact h
    · exact absurd (h1 n' h) g2.not_within
  subst hn
  have ho := g2.outcome_unique h2
  subst ho
  have g4 : limb_1_2.after args s (.returned (some (.int 0))) (stepsAlone p.tables e n s) = true := g3
  have g5 := Cond.after_iff.mp g4
  rw [show limb_1_2 = Cond.eq .result (.int 1) from rfl, Cond.eq_ints (x := 0) (y := 1) rfl rfl] at g5
  exact absurd g5 (by decide)
