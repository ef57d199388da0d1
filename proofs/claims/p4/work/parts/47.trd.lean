/-! the places as functions: u_bl the first that is no blank, u_lt no letter, u_kd how many digits, u_e6 a sixth -/
def u_isd (c : Int32) : Bool := decide (¬ c < 48 ∧ ¬ 57 < c)
def u_bl (I : Nat → Nat → Int32) (a n : Nat) : Nat := skp (fun c => decide (c = 32)) (I 2) n (n + 1) a
def u_lt (I : Nat → Nat → Int32) (a n : Nat) : Nat := skp (fun c => decide (¬ u_let c = 0)) (I 2) n (n + 1) a
def u_kd (I : Nat → Nat → Int32) (a n : Nat) : Nat := skp u_isd (I 2) n 5 a - a
def u_e6 (I : Nat → Nat → Int32) (a n : Nat) : Bool := decide (a + u_kd I a n < n) && u_isd (I 2 (a + u_kd I a n))
theorem u_bl_ok (I : Nat → Nat → Int32) {a n : Nat} (h : a ≤ n) : a ≤ u_bl I a n ∧ (∀ i, a ≤ i → i < u_bl I a n → i < n ∧ I 2 i = 32) ∧ ¬ (u_bl I a n < n ∧ I 2 (u_bl I a n) = 32) ∧ u_bl I a n ≤ n := by
  have h1 : u_bl I a n ≤ n := skp_n h
  refine ⟨skp_ge _ _, fun i h2 h3 => ?_, fun h2 => ?_, h1⟩
  · have := skp_in _ _ i h2 h3
    exact ⟨this.1, of_decide_eq_true this.2⟩
  · exact skp_out (P := fun c => decide (c = 32)) (t := I 2) (n := n) (n + 1) a (by unfold u_bl at h1; omega) ⟨h2.1, decide_eq_true h2.2⟩
theorem u_lt_ok (I : Nat → Nat → Int32) {a n : Nat} (h : a ≤ n) : a ≤ u_lt I a n ∧ (∀ i, a ≤ i → i < u_lt I a n → i < n ∧ ¬ u_let (I 2 i) = 0) ∧ ¬ (u_lt I a n < n ∧ ¬ u_let (I 2 (u_lt I a n)) = 0) ∧ u_lt I a n ≤ n := by
  have h1 : u_lt I a n ≤ n := skp_n h
  refine ⟨skp_ge _ _, fun i h2 h3 => ?_, fun h2 => ?_, h1⟩
  · have := skp_in _ _ i h2 h3
    exact ⟨this.1, of_decide_eq_true this.2⟩
  · exact skp_out (P := fun c => decide (¬ u_let c = 0)) (t := I 2) (n := n) (n + 1) a (by unfold u_lt at h1; omega) ⟨h2.1, decide_eq_true h2.2⟩
theorem u_kd_ok (I : Nat → Nat → Int32) {a n : Nat} (h : a ≤ n) : (∀ k, k < u_kd I a n → u_dg I (a + k) n) ∧ u_kd I a n ≤ 5 ∧ (u_kd I a n < 5 → ¬ u_dg I (a + u_kd I a n) n) ∧ a + u_kd I a n ≤ n ∧ (u_e6 I a n = true ↔ u_dg I (a + u_kd I a n) n) := by
  have h0 : a ≤ skp u_isd (I 2) n 5 a := skp_ge _ _
  have h1 : skp u_isd (I 2) n 5 a ≤ n := skp_n h
  have h2 : skp u_isd (I 2) n 5 a ≤ a + 5 := skp_le _ _
  have h3 : a + u_kd I a n = skp u_isd (I 2) n 5 a := by unfold u_kd; omega
  refine ⟨fun k hk => ?_, by omega, fun hk hd => ?_, by omega, ?_⟩
  · have := skp_in (P := u_isd) (t := I 2) (n := n) 5 a (a + k) (by omega) (by omega)
    exact ⟨this.1, of_decide_eq_true this.2⟩
  · rw [h3] at hd
    exact skp_out (P := u_isd) (t := I 2) (n := n) 5 a (by omega) ⟨hd.1, decide_eq_true hd.2⟩
  · unfold u_e6
    rw [Bool.and_eq_true, decide_eq_true_iff]
    exact ⟨fun q => ⟨q.1, of_decide_eq_true q.2⟩, fun q => ⟨q.1, decide_eq_true q.2⟩⟩
theorem s_tr_skipBlanksF (l : Launch) (x : Bool) (I : Nat → Nat → Int32) (L : Nat → Nat → Int64) (a n : Nat) (ha : I 1 4 = nI a) (hn : I 1 3 = nI n) (ha2 : a ≤ n) (hn2 : n ≤ 60) : qSp l y_tr_skipBlanks b_tr_skipBlanks 1 none x 2 0 0 [.ref 1] 77 (fm I L) (qD none 77 (fm (wI I 1 4 (nI (u_bl I a n))) L)) := s_tr_skipBlanks l x I L a n ha hn ha2 hn2 _ (u_bl_ok I ha2).1 (u_bl_ok I ha2).2.1 (u_bl_ok I ha2).2.2.1 (u_bl_ok I ha2).2.2.2
theorem s_tr_skipLettersF (l : Launch) (x : Bool) (I : Nat → Nat → Int32) (L : Nat → Nat → Int64) (a n : Nat) (ha : I 1 4 = nI a) (hn : I 1 3 = nI n) (ha2 : a ≤ n) (hn2 : n ≤ 60) : qSp l y_tr_skipLetters b_tr_skipLetters 1 none x 2 0 0 [.ref 1] 77 (fm I L) (qD none 77 (fm (wI I 1 4 (nI (u_lt I a n))) L)) := s_tr_skipLetters l x I L a n ha hn ha2 hn2 _ (u_lt_ok I ha2).1 (u_lt_ok I ha2).2.1 (u_lt_ok I ha2).2.2.1 (u_lt_ok I ha2).2.2.2
theorem s_tr_readEndOfPartF (l : Launch) (x : Bool) (I : Nat → Nat → Int32) (L : Nat → Nat → Int64) (a n : Nat) (ha : I 1 4 = nI a) (hn : I 1 3 = nI n) (ha2 : a ≤ n) (hn2 : n ≤ 60) (w : Int32) : qSp l y_tr_readEndOfPart b_tr_readEndOfPart 2 none x 3 0 0 [.ref 1, .int w] 77 (fm I L) (qD none 77 (fm (u_ew I (u_bl I a n) n w) L)) := s_tr_readEndOfPart l x I L a n ha hn ha2 hn2 _ (u_bl_ok I ha2).1 (u_bl_ok I ha2).2.1 (u_bl_ok I ha2).2.2.1 (u_bl_ok I ha2).2.2.2 w
theorem s_tr_readNumberF (l : Launch) (x : Bool) (I : Nat → Nat → Int32) (L : Nat → Nat → Int64) (a n : Nat) (ha : I 1 4 = nI a) (hn : I 1 3 = nI n) (ha2 : a ≤ n) (hn2 : n ≤ 60) (low : Int32) : qSp l y_tr_readNumber b_tr_readNumber 4 (some .int) x 3 0 0 [.ref 1, .int low] 77 (fm I L) (qD (some (.int (u_nr I (u_bl I a n) (u_kd I (u_bl I a n) n) low (u_e6 I (u_bl I a n) n)))) 77 (fm (u_nw I (u_bl I a n) (u_kd I (u_bl I a n) n) low (u_e6 I (u_bl I a n) n)) L)) := s_tr_readNumber l x I L a n ha hn ha2 hn2 _ (u_bl_ok I ha2).1 (u_bl_ok I ha2).2.1 (u_bl_ok I ha2).2.2.1 (u_bl_ok I ha2).2.2.2 _ low (u_kd_ok I (u_bl_ok I ha2).2.2.2).1 (u_kd_ok I (u_bl_ok I ha2).2.2.2).2.1 (u_kd_ok I (u_bl_ok I ha2).2.2.2).2.2.1 (u_kd_ok I (u_bl_ok I ha2).2.2.2).2.2.2.1 _ (u_kd_ok I (u_bl_ok I ha2).2.2.2).2.2.2.2
