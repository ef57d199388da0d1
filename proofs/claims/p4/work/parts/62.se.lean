/-! a start of the Statement's own kind, with S1's script: the claim is false -/
def s1_cells : Array Value := ⟨s1_S.map Value.int⟩
def s1_st : State := start1.aboutOf s1_cells
theorem s1_eta : s1_st = s1_st.setVm start1.about.vm := rfl
theorem s1_eta0 : start1.about = start1.about.setVm start1.about.vm := rfl
theorem s1_move {c : Cond} (hc : c.onTables = true) (h : c.before start1.args0 start1.about = true) : c.before start1.args0 s1_st = true := by
  rw [s1_eta, Cond.onTables_vm (A' := start1.args0) (U' := start1.about) start1.about.vm c hc, ← s1_eta0]
  exact h
set_option maxRecDepth 16384 in
theorem s1_all : tables_1.all (fun c => c.onTables || c.before start1.args0 s1_st) = true := by decide +kernel
theorem s1_words : ∀ c ∈ (Cond.code x code maxLocals ret :: tables_1), c.before start1.args0 s1_st = true := by
  intro c hc
  by_cases hq : c.onTables = true
  · exact s1_move hq (start1.words c hc)
  · rcases List.mem_cons.mp hc with h | h
    · subst h
      exact absurd rfl hq
    · have h2 := List.all_eq_true.mp s1_all c h
      rcases (Bool.or_eq_true _ _).mp h2 with h3 | h3
      · exact absurd h3 hq
      · exact h3
set_option maxRecDepth 16384 in
theorem s1_start : Jvm.D.AtStart classFile x code maxLocals ret World_1 tables_1 room_1 Calls_1 rest_1 Pre_1 launch0 start1.p0 start1.e0 s1_st ⟨0, 0⟩ start1.args0 Lib.HandBits.below0 := by
  refine ⟨lists_1, trivial, launch0.admits_env _ _ _, launch0.least_env, fairChoices_fair.cas, fairChoices_fair.clock, rfl, by decide +kernel, by decide +kernel, (Spec.applies_iff rfl).mpr ⟨rfl, rfl, rfl, by decide +kernel, by decide +kernel, by decide +kernel, ?_, atoms_intro s1_words⟩, trivial, ?_, ?_⟩
  · exact launch0.hasRoom_least _ room_1 (by decide +kernel) (by decide +kernel) (by decide +kernel) (by decide +kernel) (by decide +kernel) (by decide +kernel)
  · show rest_1_c.before start1.args0 s1_st = true
    decide +kernel
  · show (Cond.and given_1 narrow_1).before start1.args0 s1_st = true
    decide +kernel
theorem s1_ints : s1_st.IntsAt 0 s1_S := ⟨_, rfl, rfl, ⟨(fun k h => nomatch h), _, rfl, _, rfl⟩, by decide⟩
/-- THE CLAIM IS FALSE, at S1's script -/
theorem s1_refuted : ¬ Claimed_1_2 := s1_false (l := launch0) rfl s1_start rfl s1_ints
theorem s1_refutes : ¬ (Claimed_1_1 ∧ Claimed_1_2) := fun h => s1_refuted h.2
