/-! the cells of the run by their logical numbers: I k j, L k j are the j-th int, long of cell k -/
def cellL (g : Nat → Int32) (h : Nat → Int64) : List va_E := [
  .inr (6, [.ref 1, .ref 7, .ref 8, .ref 9, .ref 14, .ref 20, .ref 25, .ref 26, .ref 27, .int (g 9), .long (h 10)]),
  .inr (5, [.ref 2, .ref 3, .ref 4, .int (g 3), .int (g 4), .int (g 5), .int (g 6)]),
  .inl (2, 60, .inl g),
  .inl (3, 6, .inl g),
  .inr (4, [.int (g 0), .int (g 1), .int (g 2), .int (g 3), .int (g 4), .int (g 5), .ref 5, .ref 6, .int (g 8)]),
  .inl (0, 4, .inl g),
  .inl (0, 4, .inl g),
  .inl (5, 3, .inr (.inr (.inr (.inr (fun j => if j < 3 then some (28 + 3 * j) else none))))),
  .inl (6, 5, .inr (.inr (.inr (.inr (fun j => if j < 5 then some (37 + 2 * j) else none))))),
  .inr (1, [.ref 10, .ref 11, .ref 12, .ref 13, .int (g 4)]),
  .inl (0, 80, .inl g),
  .inl (0, 80, .inl g),
  .inl (0, 80, .inl g),
  .inl (0, 80, .inl g),
  .inr (2, [.ref 15, .ref 16, .ref 17, .ref 18, .ref 19, .int (g 5)]),
  .inl (0, 50, .inl g),
  .inl (0, 50, .inl g),
  .inl (1, 50, .inr (.inl h)),
  .inl (0, 50, .inl g),
  .inl (1, 50, .inr (.inl h)),
  .inr (3, [.ref 21, .ref 22, .ref 23, .ref 24, .int (g 4)]),
  .inl (0, 10, .inl g),
  .inl (1, 10, .inr (.inl h)),
  .inl (0, 10, .inl g),
  .inl (0, 10, .inl g),
  .inl (0, 15, .inl g),
  .inl (0, 3, .inl g),
  .inl (1, 3, .inr (.inl h)),
  .inr (4, [.int (g 0), .int (g 1), .int (g 2), .int (g 3), .int (g 4), .int (g 5), .ref 29, .ref 30, .int (g 8)]),
  .inl (0, 4, .inl g),
  .inl (0, 4, .inl g),
  .inr (4, [.int (g 0), .int (g 1), .int (g 2), .int (g 3), .int (g 4), .int (g 5), .ref 32, .ref 33, .int (g 8)]),
  .inl (0, 4, .inl g),
  .inl (0, 4, .inl g),
  .inr (4, [.int (g 0), .int (g 1), .int (g 2), .int (g 3), .int (g 4), .int (g 5), .ref 35, .ref 36, .int (g 8)]),
  .inl (0, 4, .inl g),
  .inl (0, 4, .inl g),
  .inr (0, [.ref 38, .int (g 1), .int (g 2), .int (g 3), .long (h 4)]),
  .inl (4, 401, .inl g),
  .inr (0, [.ref 40, .int (g 1), .int (g 2), .int (g 3), .long (h 4)]),
  .inl (4, 401, .inl g),
  .inr (0, [.ref 42, .int (g 1), .int (g 2), .int (g 3), .long (h 4)]),
  .inl (4, 401, .inl g),
  .inr (0, [.ref 44, .int (g 1), .int (g 2), .int (g 3), .long (h 4)]),
  .inl (4, 401, .inl g),
  .inr (0, [.ref 46, .int (g 1), .int (g 2), .int (g 3), .long (h 4)]),
  .inl (4, 401, .inl g),
  .inr (7, [.int (g 0), .int (g 1), .int (g 2), .ref 48, .int (g 4), .ref 49, .ref 50, .ref 51, .ref 52, .ref 53, .ref 54, .ref 55, .ref 56, .ref 57, .ref 58, .ref 59, .ref 60, .ref 61, .ref 62, .ref 63, .ref 64, .ref 65, .ref 66, .int (g 23), .ref 67, .ref 68, .ref 69, .ref 70, .ref 71, .int (g 29), .ref 72, .ref 73, .ref 74, .ref 75, .int (g 34), .long (h 35), .int (g 36), .int (g 37), .int (g 38)]),
  .inl (0, 60, .inl g),
  .inl (0, 4, .inl g),
  .inl (0, 4, .inl g),
  .inl (0, 4, .inl g),
  .inl (0, 4, .inl g),
  .inl (0, 4, .inl g),
  .inl (0, 4, .inl g),
  .inl (0, 4, .inl g),
  .inl (0, 16, .inl g),
  .inl (0, 16, .inl g),
  .inl (0, 5, .inl g),
  .inl (0, 5, .inl g),
  .inl (0, 5, .inl g),
  .inl (1, 5, .inr (.inl h)),
  .inl (0, 2005, .inl g),
  .inl (0, 80, .inl g),
  .inl (0, 80, .inl g),
  .inl (0, 80, .inl g),
  .inl (0, 80, .inl g),
  .inl (0, 50, .inl g),
  .inl (0, 50, .inl g),
  .inl (0, 50, .inl g),
  .inl (1, 50, .inr (.inl h)),
  .inl (1, 50, .inr (.inl h)),
  .inl (0, 10, .inl g),
  .inl (0, 10, .inl g),
  .inl (0, 10, .inl g),
  .inl (1, 10, .inr (.inl h)),
  .inl (1, 1, .inr (.inl h))]
def cellOf (k : Nat) (g : Nat → Int32) (h : Nat → Int64) : va_E := (cellL g h).getD k (.inr (0, []))
theorem c_0 (g : Nat → Int32) (h : Nat → Int64) : cellOf 0 g h = .inr (6, [.ref 1, .ref 7, .ref 8, .ref 9, .ref 14, .ref 20, .ref 25, .ref 26, .ref 27, .int (g 9), .long (h 10)]) := rfl
theorem c_1 (g : Nat → Int32) (h : Nat → Int64) : cellOf 1 g h = .inr (5, [.ref 2, .ref 3, .ref 4, .int (g 3), .int (g 4), .int (g 5), .int (g 6)]) := rfl
theorem c_2 (g : Nat → Int32) (h : Nat → Int64) : cellOf 2 g h = .inl (2, 60, .inl g) := rfl
theorem c_3 (g : Nat → Int32) (h : Nat → Int64) : cellOf 3 g h = .inl (3, 6, .inl g) := rfl
theorem c_4 (g : Nat → Int32) (h : Nat → Int64) : cellOf 4 g h = .inr (4, [.int (g 0), .int (g 1), .int (g 2), .int (g 3), .int (g 4), .int (g 5), .ref 5, .ref 6, .int (g 8)]) := rfl
theorem c_5 (g : Nat → Int32) (h : Nat → Int64) : cellOf 5 g h = .inl (0, 4, .inl g) := rfl
theorem c_6 (g : Nat → Int32) (h : Nat → Int64) : cellOf 6 g h = .inl (0, 4, .inl g) := rfl
theorem c_7 (g : Nat → Int32) (h : Nat → Int64) : cellOf 7 g h = .inl (5, 3, .inr (.inr (.inr (.inr (fun j => if j < 3 then some (28 + 3 * j) else none))))) := rfl
theorem c_8 (g : Nat → Int32) (h : Nat → Int64) : cellOf 8 g h = .inl (6, 5, .inr (.inr (.inr (.inr (fun j => if j < 5 then some (37 + 2 * j) else none))))) := rfl
theorem c_9 (g : Nat → Int32) (h : Nat → Int64) : cellOf 9 g h = .inr (1, [.ref 10, .ref 11, .ref 12, .ref 13, .int (g 4)]) := rfl
theorem c_10 (g : Nat → Int32) (h : Nat → Int64) : cellOf 10 g h = .inl (0, 80, .inl g) := rfl
theorem c_11 (g : Nat → Int32) (h : Nat → Int64) : cellOf 11 g h = .inl (0, 80, .inl g) := rfl
theorem c_12 (g : Nat → Int32) (h : Nat → Int64) : cellOf 12 g h = .inl (0, 80, .inl g) := rfl
theorem c_13 (g : Nat → Int32) (h : Nat → Int64) : cellOf 13 g h = .inl (0, 80, .inl g) := rfl
theorem c_14 (g : Nat → Int32) (h : Nat → Int64) : cellOf 14 g h = .inr (2, [.ref 15, .ref 16, .ref 17, .ref 18, .ref 19, .int (g 5)]) := rfl
theorem c_15 (g : Nat → Int32) (h : Nat → Int64) : cellOf 15 g h = .inl (0, 50, .inl g) := rfl
theorem c_16 (g : Nat → Int32) (h : Nat → Int64) : cellOf 16 g h = .inl (0, 50, .inl g) := rfl
theorem c_17 (g : Nat → Int32) (h : Nat → Int64) : cellOf 17 g h = .inl (1, 50, .inr (.inl h)) := rfl
theorem c_18 (g : Nat → Int32) (h : Nat → Int64) : cellOf 18 g h = .inl (0, 50, .inl g) := rfl
theorem c_19 (g : Nat → Int32) (h : Nat → Int64) : cellOf 19 g h = .inl (1, 50, .inr (.inl h)) := rfl
theorem c_20 (g : Nat → Int32) (h : Nat → Int64) : cellOf 20 g h = .inr (3, [.ref 21, .ref 22, .ref 23, .ref 24, .int (g 4)]) := rfl
theorem c_21 (g : Nat → Int32) (h : Nat → Int64) : cellOf 21 g h = .inl (0, 10, .inl g) := rfl
theorem c_22 (g : Nat → Int32) (h : Nat → Int64) : cellOf 22 g h = .inl (1, 10, .inr (.inl h)) := rfl
theorem c_23 (g : Nat → Int32) (h : Nat → Int64) : cellOf 23 g h = .inl (0, 10, .inl g) := rfl
theorem c_24 (g : Nat → Int32) (h : Nat → Int64) : cellOf 24 g h = .inl (0, 10, .inl g) := rfl
theorem c_25 (g : Nat → Int32) (h : Nat → Int64) : cellOf 25 g h = .inl (0, 15, .inl g) := rfl
theorem c_26 (g : Nat → Int32) (h : Nat → Int64) : cellOf 26 g h = .inl (0, 3, .inl g) := rfl
theorem c_27 (g : Nat → Int32) (h : Nat → Int64) : cellOf 27 g h = .inl (1, 3, .inr (.inl h)) := rfl
theorem c_28 (g : Nat → Int32) (h : Nat → Int64) : cellOf 28 g h = .inr (4, [.int (g 0), .int (g 1), .int (g 2), .int (g 3), .int (g 4), .int (g 5), .ref 29, .ref 30, .int (g 8)]) := rfl
theorem c_29 (g : Nat → Int32) (h : Nat → Int64) : cellOf 29 g h = .inl (0, 4, .inl g) := rfl
theorem c_30 (g : Nat → Int32) (h : Nat → Int64) : cellOf 30 g h = .inl (0, 4, .inl g) := rfl
theorem c_31 (g : Nat → Int32) (h : Nat → Int64) : cellOf 31 g h = .inr (4, [.int (g 0), .int (g 1), .int (g 2), .int (g 3), .int (g 4), .int (g 5), .ref 32, .ref 33, .int (g 8)]) := rfl
theorem c_32 (g : Nat → Int32) (h : Nat → Int64) : cellOf 32 g h = .inl (0, 4, .inl g) := rfl
theorem c_33 (g : Nat → Int32) (h : Nat → Int64) : cellOf 33 g h = .inl (0, 4, .inl g) := rfl
theorem c_34 (g : Nat → Int32) (h : Nat → Int64) : cellOf 34 g h = .inr (4, [.int (g 0), .int (g 1), .int (g 2), .int (g 3), .int (g 4), .int (g 5), .ref 35, .ref 36, .int (g 8)]) := rfl
theorem c_35 (g : Nat → Int32) (h : Nat → Int64) : cellOf 35 g h = .inl (0, 4, .inl g) := rfl
theorem c_36 (g : Nat → Int32) (h : Nat → Int64) : cellOf 36 g h = .inl (0, 4, .inl g) := rfl
theorem c_37 (g : Nat → Int32) (h : Nat → Int64) : cellOf 37 g h = .inr (0, [.ref 38, .int (g 1), .int (g 2), .int (g 3), .long (h 4)]) := rfl
theorem c_38 (g : Nat → Int32) (h : Nat → Int64) : cellOf 38 g h = .inl (4, 401, .inl g) := rfl
theorem c_39 (g : Nat → Int32) (h : Nat → Int64) : cellOf 39 g h = .inr (0, [.ref 40, .int (g 1), .int (g 2), .int (g 3), .long (h 4)]) := rfl
theorem c_40 (g : Nat → Int32) (h : Nat → Int64) : cellOf 40 g h = .inl (4, 401, .inl g) := rfl
theorem c_41 (g : Nat → Int32) (h : Nat → Int64) : cellOf 41 g h = .inr (0, [.ref 42, .int (g 1), .int (g 2), .int (g 3), .long (h 4)]) := rfl
theorem c_42 (g : Nat → Int32) (h : Nat → Int64) : cellOf 42 g h = .inl (4, 401, .inl g) := rfl
theorem c_43 (g : Nat → Int32) (h : Nat → Int64) : cellOf 43 g h = .inr (0, [.ref 44, .int (g 1), .int (g 2), .int (g 3), .long (h 4)]) := rfl
theorem c_44 (g : Nat → Int32) (h : Nat → Int64) : cellOf 44 g h = .inl (4, 401, .inl g) := rfl
theorem c_45 (g : Nat → Int32) (h : Nat → Int64) : cellOf 45 g h = .inr (0, [.ref 46, .int (g 1), .int (g 2), .int (g 3), .long (h 4)]) := rfl
theorem c_46 (g : Nat → Int32) (h : Nat → Int64) : cellOf 46 g h = .inl (4, 401, .inl g) := rfl
theorem c_47 (g : Nat → Int32) (h : Nat → Int64) : cellOf 47 g h = .inr (7, [.int (g 0), .int (g 1), .int (g 2), .ref 48, .int (g 4), .ref 49, .ref 50, .ref 51, .ref 52, .ref 53, .ref 54, .ref 55, .ref 56, .ref 57, .ref 58, .ref 59, .ref 60, .ref 61, .ref 62, .ref 63, .ref 64, .ref 65, .ref 66, .int (g 23), .ref 67, .ref 68, .ref 69, .ref 70, .ref 71, .int (g 29), .ref 72, .ref 73, .ref 74, .ref 75, .int (g 34), .long (h 35), .int (g 36), .int (g 37), .int (g 38)]) := rfl
theorem c_48 (g : Nat → Int32) (h : Nat → Int64) : cellOf 48 g h = .inl (0, 60, .inl g) := rfl
theorem c_49 (g : Nat → Int32) (h : Nat → Int64) : cellOf 49 g h = .inl (0, 4, .inl g) := rfl
theorem c_50 (g : Nat → Int32) (h : Nat → Int64) : cellOf 50 g h = .inl (0, 4, .inl g) := rfl
theorem c_51 (g : Nat → Int32) (h : Nat → Int64) : cellOf 51 g h = .inl (0, 4, .inl g) := rfl
theorem c_52 (g : Nat → Int32) (h : Nat → Int64) : cellOf 52 g h = .inl (0, 4, .inl g) := rfl
theorem c_53 (g : Nat → Int32) (h : Nat → Int64) : cellOf 53 g h = .inl (0, 4, .inl g) := rfl
theorem c_54 (g : Nat → Int32) (h : Nat → Int64) : cellOf 54 g h = .inl (0, 4, .inl g) := rfl
theorem c_55 (g : Nat → Int32) (h : Nat → Int64) : cellOf 55 g h = .inl (0, 4, .inl g) := rfl
theorem c_56 (g : Nat → Int32) (h : Nat → Int64) : cellOf 56 g h = .inl (0, 16, .inl g) := rfl
theorem c_57 (g : Nat → Int32) (h : Nat → Int64) : cellOf 57 g h = .inl (0, 16, .inl g) := rfl
theorem c_58 (g : Nat → Int32) (h : Nat → Int64) : cellOf 58 g h = .inl (0, 5, .inl g) := rfl
theorem c_59 (g : Nat → Int32) (h : Nat → Int64) : cellOf 59 g h = .inl (0, 5, .inl g) := rfl
theorem c_60 (g : Nat → Int32) (h : Nat → Int64) : cellOf 60 g h = .inl (0, 5, .inl g) := rfl
theorem c_61 (g : Nat → Int32) (h : Nat → Int64) : cellOf 61 g h = .inl (1, 5, .inr (.inl h)) := rfl
theorem c_62 (g : Nat → Int32) (h : Nat → Int64) : cellOf 62 g h = .inl (0, 2005, .inl g) := rfl
theorem c_63 (g : Nat → Int32) (h : Nat → Int64) : cellOf 63 g h = .inl (0, 80, .inl g) := rfl
theorem c_64 (g : Nat → Int32) (h : Nat → Int64) : cellOf 64 g h = .inl (0, 80, .inl g) := rfl
theorem c_65 (g : Nat → Int32) (h : Nat → Int64) : cellOf 65 g h = .inl (0, 80, .inl g) := rfl
theorem c_66 (g : Nat → Int32) (h : Nat → Int64) : cellOf 66 g h = .inl (0, 80, .inl g) := rfl
theorem c_67 (g : Nat → Int32) (h : Nat → Int64) : cellOf 67 g h = .inl (0, 50, .inl g) := rfl
theorem c_68 (g : Nat → Int32) (h : Nat → Int64) : cellOf 68 g h = .inl (0, 50, .inl g) := rfl
theorem c_69 (g : Nat → Int32) (h : Nat → Int64) : cellOf 69 g h = .inl (0, 50, .inl g) := rfl
theorem c_70 (g : Nat → Int32) (h : Nat → Int64) : cellOf 70 g h = .inl (1, 50, .inr (.inl h)) := rfl
theorem c_71 (g : Nat → Int32) (h : Nat → Int64) : cellOf 71 g h = .inl (1, 50, .inr (.inl h)) := rfl
theorem c_72 (g : Nat → Int32) (h : Nat → Int64) : cellOf 72 g h = .inl (0, 10, .inl g) := rfl
theorem c_73 (g : Nat → Int32) (h : Nat → Int64) : cellOf 73 g h = .inl (0, 10, .inl g) := rfl
theorem c_74 (g : Nat → Int32) (h : Nat → Int64) : cellOf 74 g h = .inl (0, 10, .inl g) := rfl
theorem c_75 (g : Nat → Int32) (h : Nat → Int64) : cellOf 75 g h = .inl (1, 10, .inr (.inl h)) := rfl
theorem c_76 (g : Nat → Int32) (h : Nat → Int64) : cellOf 76 g h = .inl (1, 1, .inr (.inl h)) := rfl
def fm (I : Nat → Nat → Int32) (L : Nat → Nat → Int64) : Nat → va_E := fun k => cellOf k (I k) (L k)
/-- an int, a long is laid -/
def wI (I : Nat → Nat → Int32) (k j : Nat) (v : Int32) : Nat → Nat → Int32 := va_up I k (upd (I k) j v)
def wL (L : Nat → Nat → Int64) (k j : Nat) (v : Int64) : Nat → Nat → Int64 := va_up L k (vp_updL (L k) j v)
theorem fm_I {I : Nat → Nat → Int32} {L : Nat → Nat → Int64} {k j : Nat} {v : Int32} {e : va_E} (h : e = cellOf k (upd (I k) j v) (L k)) : va_up (fm I L) k e = fm (wI I k j v) L := by
  funext a
  by_cases ha : a = k
  · subst ha
    simp [va_up, fm, wI, h]
  · simp [va_up, fm, wI, ha]
theorem fm_L {I : Nat → Nat → Int32} {L : Nat → Nat → Int64} {k j : Nat} {v : Int64} {e : va_E} (h : e = cellOf k (I k) (vp_updL (L k) j v)) : va_up (fm I L) k e = fm I (wL L k j v) := by
  funext a
  by_cases ha : a = k
  · subst ha
    simp [va_up, fm, wL, h]
  · simp [va_up, fm, wL, ha]
theorem wI_at (I : Nat → Nat → Int32) (k j : Nat) (v : Int32) : wI I k j v k j = v := by simp [wI, va_up, upd]
theorem wI_ne {I : Nat → Nat → Int32} {k j a b : Nat} {v : Int32} (h : a ≠ k ∨ b ≠ j) : wI I k j v a b = I a b := by
  by_cases ha : a = k
  · subst ha
    have hb : b ≠ j := h.resolve_left (fun q => q rfl)
    simp [wI, va_up, upd, hb]
  · simp [wI, va_up, ha]
theorem wL_at (L : Nat → Nat → Int64) (k j : Nat) (v : Int64) : wL L k j v k j = v := by simp [wL, va_up, vp_updL]
theorem wL_ne {L : Nat → Nat → Int64} {k j a b : Nat} {v : Int64} (h : a ≠ k ∨ b ≠ j) : wL L k j v a b = L a b := by
  by_cases ha : a = k
  · subst ha
    have hb : b ≠ j := h.resolve_left (fun q => q rfl)
    simp [wL, va_up, vp_updL, hb]
  · simp [wL, va_up, ha]
/-- an answer and a world, just these -/
def qD (v : Option Value) (n : Nat) (f : Nat → va_E) : qE := fun v' n' f' => v = v' ∧ n = n' ∧ f = f'
theorem qR_sub {K : qK} {E : qE} {X : qXC} {pc : Nat} {lv lv' : List (Nat × Value)} {st : List Value} {n kc ks : Nat} {f : Nat → va_E} (is : List Nat) (h1 : lv_pick lv is = lv') (k : qR K E X pc lv' st n kc ks f) : qR K E X pc lv st n kc ks f := by
  intro p e R s m args below meth c H locs ls Q z ex D D3 C hP hS hl hE
  refine k p e R s m args below meth c H locs ls Q z ex D D3 C hP hS ?_ hE
  refine lv_sub hl is ?_
  rw [← h1]
  unfold lv_pick
  rw [List.map_filterMap]
  congr 1
  funext i
  rw [List.getElem?_map]
theorem qR_st {K : qK} {E : qE} {X : qXC} {pc : Nat} {lv lv' : List (Nat × Value)} {st st' : List Value} {n kc ks : Nat} {f f' : Nat → va_E} (h1 : lv = lv') (h2 : st = st') (h3 : f = f') (k : qR K E X pc lv' st' n kc ks f') : qR K E X pc lv st n kc ks f := by
  subst h1; subst h2; subst h3
  exact k

theorem lgc_cases (x y : Int64) : (x.toInt < y.toInt ∧ lg_cmp x y = -1) ∨ (x.toInt = y.toInt ∧ lg_cmp x y = 0) ∨ (y.toInt < x.toInt ∧ lg_cmp x y = 1) := by
  unfold lg_cmp
  by_cases h1 : x > y
  · exact Or.inr (Or.inr ⟨Int64.lt_iff_toInt_lt.mp h1, if_pos h1⟩)
  · have g1 : ¬ y.toInt < x.toInt := fun q => h1 (Int64.lt_iff_toInt_lt.mpr q)
    by_cases h2 : x = y
    · exact Or.inr (Or.inl ⟨by rw [h2], by rw [if_neg h1, if_pos h2]⟩)
    · have g2 : ¬ x.toInt = y.toInt := fun q => h2 (Int64.toInt_inj.mp q)
      exact Or.inl ⟨by omega, by rw [if_neg h1, if_neg h2]⟩
theorem lgc_eq (x y : Int64) : (lg_cmp x y = 0) ↔ x = y := by
  simp only [Int64.lt_iff_toInt_lt, Int64.le_iff_toInt_le, ← Int64.toInt_inj]
  rcases lgc_cases x y with ⟨h, e⟩ | ⟨h, e⟩ | ⟨h, e⟩ <;> rw [e]
  · exact ⟨fun q => absurd q (by decide), fun q => by omega⟩
  · exact ⟨fun _ => by omega, fun _ => by decide⟩
  · exact ⟨fun q => absurd q (by decide), fun q => by omega⟩
theorem lgc_lt (x y : Int64) : (lg_cmp x y < 0) ↔ x < y := by
  simp only [Int64.lt_iff_toInt_lt, Int64.le_iff_toInt_le, ← Int64.toInt_inj]
  rcases lgc_cases x y with ⟨h, e⟩ | ⟨h, e⟩ | ⟨h, e⟩ <;> rw [e]
  · exact ⟨fun _ => by omega, fun _ => by decide⟩
  · exact ⟨fun q => absurd q (by decide), fun q => by omega⟩
  · exact ⟨fun q => absurd q (by decide), fun q => by omega⟩
theorem lgc_ge (x y : Int64) : (0 ≤ lg_cmp x y) ↔ y ≤ x := by
  simp only [Int64.lt_iff_toInt_lt, Int64.le_iff_toInt_le, ← Int64.toInt_inj]
  rcases lgc_cases x y with ⟨h, e⟩ | ⟨h, e⟩ | ⟨h, e⟩ <;> rw [e]
  · exact ⟨fun q => absurd q (by decide), fun q => by omega⟩
  · exact ⟨fun _ => by omega, fun _ => by decide⟩
  · exact ⟨fun _ => by omega, fun _ => by decide⟩
theorem lgc_gt (x y : Int64) : (0 < lg_cmp x y) ↔ y < x := by
  simp only [Int64.lt_iff_toInt_lt, Int64.le_iff_toInt_le, ← Int64.toInt_inj]
  rcases lgc_cases x y with ⟨h, e⟩ | ⟨h, e⟩ | ⟨h, e⟩ <;> rw [e]
  · exact ⟨fun q => absurd q (by decide), fun q => by omega⟩
  · exact ⟨fun q => absurd q (by decide), fun q => by omega⟩
  · exact ⟨fun _ => by omega, fun _ => by decide⟩
theorem lgc_le (x y : Int64) : (lg_cmp x y ≤ 0) ↔ x ≤ y := by
  simp only [Int64.lt_iff_toInt_lt, Int64.le_iff_toInt_le, ← Int64.toInt_inj]
  rcases lgc_cases x y with ⟨h, e⟩ | ⟨h, e⟩ | ⟨h, e⟩ <;> rw [e]
  · exact ⟨fun _ => by omega, fun _ => by decide⟩
  · exact ⟨fun _ => by omega, fun _ => by decide⟩
  · exact ⟨fun q => absurd q (by decide), fun q => by omega⟩
theorem b01 (c : Prop) [Decidable c] : ((if c then (1 : Int32) else 0) = 0) ↔ ¬ c := by by_cases h : c <;> simp [h]
theorem qFit_i (v : Int32) : qFit .int (.int v) := fun _ _ => ⟨rfl, rfl⟩
theorem qFit_l (v : Int64) : qFit .long (.long v) := fun _ _ => ⟨rfl, rfl⟩
section QM
variable {K : qK} {E : qE} {X : qXC} {pc : Nat} {lv : List (Nat × Value)} {st : List Value} {n kc ks : Nat} {I : Nat → Nat → Int32} {L : Nat → Nat → Int64}
theorem qr_putI {idx ci j q : Nat} {ty : FieldType} {fs : List Value} {v : Int32} (hd : decode (kcc K) pc = .ok (.putfield idx, 3)) (hF : qFl (kown K) idx ci j ty false) (hq : q < n) (hq5 : q < 77) (hf : fm I L q = .inr (ci, fs)) (hl2 : j < fs.length) (hv : qFit ty (.int v)) (hs : ∀ w : Int32, (Sum.inr (ci, fs.set j (.int w)) : va_E) = cellOf q (upd (I q) j w) (L q)) (k : qR K E X (pc + 3) lv st n kc ks (fm (wI I q j v) L)) : qR K E X pc lv (.int v :: .ref q :: st) n kc ks (fm I L) :=
  qr_put hd hF hq hq5 hf hl2 hv (fm_I (hs v)) k
theorem qr_putL {idx ci j q : Nat} {ty : FieldType} {fs : List Value} {v : Int64} (hd : decode (kcc K) pc = .ok (.putfield idx, 3)) (hF : qFl (kown K) idx ci j ty false) (hq : q < n) (hq5 : q < 77) (hf : fm I L q = .inr (ci, fs)) (hl2 : j < fs.length) (hv : qFit ty (.long v)) (hs : ∀ w : Int64, (Sum.inr (ci, fs.set j (.long w)) : va_E) = cellOf q (I q) (vp_updL (L q) j w)) (k : qR K E X (pc + 3) lv st n kc ks (fm I (wL L q j v))) : qR K E X pc lv (.long v :: .ref q :: st) n kc ks (fm I L) :=
  qr_put hd hF hq hq5 hf hl2 hv (fm_L (hs v)) k
theorem qr_iastM {q len j : Nat} {i : Int32} {x : Int32} (hd : decode (kcc K) pc = .ok (.iastore, 1)) (hq : q < n) (hq5 : q < 77) (hf : fm I L q = .inl (0, len, .inl (I q))) (hi : vp_in i len) (hj : i.toNatClampNeg = j) (hs : ∀ w : Int32, (Sum.inl (0, len, .inl (upd (I q) j w)) : va_E) = cellOf q (upd (I q) j w) (L q)) (k : qR K E X (pc + 1) lv st n kc ks (fm (wI I q j x) L)) : qR K E X pc lv (.int x :: .int i :: .ref q :: st) n kc ks (fm I L) := by
  subst hj
  exact qr_iast hd hq hq5 hf hi (fm_I (hs _)) k
theorem qr_iastMN {q len j : Nat} {x : Int32} (hd : decode (kcc K) pc = .ok (.iastore, 1)) (hq : q < n) (hq5 : q < 77) (hf : fm I L q = .inl (0, len, .inl (I q))) (hj : j < len) (hlen : len < 2 ^ 31) (hs : ∀ w : Int32, (Sum.inl (0, len, .inl (upd (I q) j w)) : va_E) = cellOf q (upd (I q) j w) (L q)) (k : qR K E X (pc + 1) lv st n kc ks (fm (wI I q j x) L)) : qR K E X pc lv (.int x :: .int (nI j) :: .ref q :: st) n kc ks (fm I L) :=
  qr_iastM hd hq hq5 hf (vp_in_nI hj hlen) (nI_clamp (Nat.lt_trans hj hlen)) hs k
theorem qr_lastM {q len j : Nat} {i : Int32} {x : Int64} (hd : decode (kcc K) pc = .ok (.lastore, 1)) (hq : q < n) (hq5 : q < 77) (hf : fm I L q = .inl (1, len, .inr (.inl (L q)))) (hi : vp_in i len) (hj : i.toNatClampNeg = j) (hs : ∀ w : Int64, (Sum.inl (1, len, .inr (.inl (vp_updL (L q) j w))) : va_E) = cellOf q (I q) (vp_updL (L q) j w)) (k : qR K E X (pc + 1) lv st n kc ks (fm I (wL L q j x))) : qR K E X pc lv (.long x :: .int i :: .ref q :: st) n kc ks (fm I L) := by
  subst hj
  exact qr_last hd hq hq5 hf hi (fm_L (hs _)) k
theorem qr_lastMN {q len j : Nat} {x : Int64} (hd : decode (kcc K) pc = .ok (.lastore, 1)) (hq : q < n) (hq5 : q < 77) (hf : fm I L q = .inl (1, len, .inr (.inl (L q)))) (hj : j < len) (hlen : len < 2 ^ 31) (hs : ∀ w : Int64, (Sum.inl (1, len, .inr (.inl (vp_updL (L q) j w))) : va_E) = cellOf q (I q) (vp_updL (L q) j w)) (k : qR K E X (pc + 1) lv st n kc ks (fm I (wL L q j x))) : qR K E X pc lv (.long x :: .int (nI j) :: .ref q :: st) n kc ks (fm I L) :=
  qr_lastM hd hq hq5 hf (vp_in_nI hj hlen) (nI_clamp (Nat.lt_trans hj hlen)) hs k
theorem qr_castM {q len j : Nat} {i : Int32} {x : Int32} (hd : decode (kcc K) pc = .ok (.castore, 1)) (hq : q < n) (hq5 : q < 77) (hf : fm I L q = .inl (2, len, .inl (I q))) (hi : vp_in i len) (hj : i.toNatClampNeg = j) (hs : ∀ w : Int32, (Sum.inl (2, len, .inl (upd (I q) j w)) : va_E) = cellOf q (upd (I q) j w) (L q)) (k : qR K E X (pc + 1) lv st n kc ks (fm (wI I q j (vp_nar .char x)) L)) : qR K E X pc lv (.int x :: .int i :: .ref q :: st) n kc ks (fm I L) := by
  subst hj
  exact qr_cast hd hq hq5 hf hi (fm_I (hs _)) k
theorem qr_castMN {q len j : Nat} {x : Int32} (hd : decode (kcc K) pc = .ok (.castore, 1)) (hq : q < n) (hq5 : q < 77) (hf : fm I L q = .inl (2, len, .inl (I q))) (hj : j < len) (hlen : len < 2 ^ 31) (hs : ∀ w : Int32, (Sum.inl (2, len, .inl (upd (I q) j w)) : va_E) = cellOf q (upd (I q) j w) (L q)) (k : qR K E X (pc + 1) lv st n kc ks (fm (wI I q j (vp_nar .char x)) L)) : qR K E X pc lv (.int x :: .int (nI j) :: .ref q :: st) n kc ks (fm I L) :=
  qr_castM hd hq hq5 hf (vp_in_nI hj hlen) (nI_clamp (Nat.lt_trans hj hlen)) hs k
theorem qr_zastM {q len j : Nat} {i : Int32} {x : Int32} (hd : decode (kcc K) pc = .ok (.bastore, 1)) (hq : q < n) (hq5 : q < 77) (hf : fm I L q = .inl (3, len, .inl (I q))) (hi : vp_in i len) (hj : i.toNatClampNeg = j) (hs : ∀ w : Int32, (Sum.inl (3, len, .inl (upd (I q) j w)) : va_E) = cellOf q (upd (I q) j w) (L q)) (k : qR K E X (pc + 1) lv st n kc ks (fm (wI I q j (vp_nar .boolean x)) L)) : qR K E X pc lv (.int x :: .int i :: .ref q :: st) n kc ks (fm I L) := by
  subst hj
  exact qr_zast hd hq hq5 hf hi (fm_I (hs _)) k
theorem qr_zastMN {q len j : Nat} {x : Int32} (hd : decode (kcc K) pc = .ok (.bastore, 1)) (hq : q < n) (hq5 : q < 77) (hf : fm I L q = .inl (3, len, .inl (I q))) (hj : j < len) (hlen : len < 2 ^ 31) (hs : ∀ w : Int32, (Sum.inl (3, len, .inl (upd (I q) j w)) : va_E) = cellOf q (upd (I q) j w) (L q)) (k : qR K E X (pc + 1) lv st n kc ks (fm (wI I q j (vp_nar .boolean x)) L)) : qR K E X pc lv (.int x :: .int (nI j) :: .ref q :: st) n kc ks (fm I L) :=
  qr_zastM hd hq hq5 hf (vp_in_nI hj hlen) (nI_clamp (Nat.lt_trans hj hlen)) hs k
theorem qr_bastM {q len j : Nat} {i : Int32} {x : Int32} (hd : decode (kcc K) pc = .ok (.bastore, 1)) (hq : q < n) (hq5 : q < 77) (hf : fm I L q = .inl (4, len, .inl (I q))) (hi : vp_in i len) (hj : i.toNatClampNeg = j) (hs : ∀ w : Int32, (Sum.inl (4, len, .inl (upd (I q) j w)) : va_E) = cellOf q (upd (I q) j w) (L q)) (k : qR K E X (pc + 1) lv st n kc ks (fm (wI I q j (vp_nar .byte x)) L)) : qR K E X pc lv (.int x :: .int i :: .ref q :: st) n kc ks (fm I L) := by
  subst hj
  exact qr_bast hd hq hq5 hf hi (fm_I (hs _)) k
theorem qr_bastMN {q len j : Nat} {x : Int32} (hd : decode (kcc K) pc = .ok (.bastore, 1)) (hq : q < n) (hq5 : q < 77) (hf : fm I L q = .inl (4, len, .inl (I q))) (hj : j < len) (hlen : len < 2 ^ 31) (hs : ∀ w : Int32, (Sum.inl (4, len, .inl (upd (I q) j w)) : va_E) = cellOf q (upd (I q) j w) (L q)) (k : qR K E X (pc + 1) lv st n kc ks (fm (wI I q j (vp_nar .byte x)) L)) : qR K E X pc lv (.int x :: .int (nI j) :: .ref q :: st) n kc ks (fm I L) :=
  qr_bastM hd hq hq5 hf (vp_in_nI hj hlen) (nI_clamp (Nat.lt_trans hj hlen)) hs k
end QM

