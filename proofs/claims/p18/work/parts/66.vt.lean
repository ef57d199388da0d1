/-! both sides, held together -/
section PT20
variable {I J M I1 I2 J' M' : qJ} {K N L L' L1 L2 K' N' : rLg} {c z zp T t F G D ne n P pe : Nat} {d tt on v : Int32} {a : Int64}
/-- what a run reaches: each side's own, and the two sides held together -/
def r_IR (I : qJ) (L : rLg) : Prop := Inv I ∧ r_RR I I L L
theorem IR_fin (hI : Inv I) (h1 : CF I I1) (h2 : MF I1 I2) (hR : r_RR I1 I2 L' L2) (hL : ∀ k, k < 47 → L2 k = L' k) : r_IR I2 L2 :=
  ⟨Inv_M (Inv_C hI h1) h2, RR_congr hR (fun k hk => h2.2 k hk) (fun _ _ => rfl) hL (fun _ _ _ => rfl)⟩
theorem IR_mid (h : r_IR I L) (h1 : CF I I1) (hL : ∀ k, 47 ≤ k → k ≠ 76 → L1 k = L k) : r_RR I I1 L L1 :=
  RR_congr h.2 (fun _ _ => rfl) (fun k hk => h1.2 k hk) (fun _ _ => rfl) hL
theorem IR_w (h : r_IR I L) : r_IR (wI I 47 0 v) L :=
  IR_fin h.1 (CF_self h.1.1) (MF_w (MF_self h.1.2) (by omega)) (RR_w0 h.2 (by omega)) (fun _ _ => rfl)
theorem IR_q (h : r_IR I L) : r_IR (wI I 47 0 v) (wL L 76 0 a) :=
  IR_fin h.1 (CF_self h.1.1) (MF_w (MF_self h.1.2) (by omega)) (RR_w0 (RR_congr h.2 (fun _ _ => rfl) (fun _ _ => rfl) (fun _ _ => rfl) (fun k _ hk => wL_c9 hk)) (by omega)) (fun k hk => wL_c9 (by omega))
theorem IR_0 : Inv I0 → r_IR I0 L0 := fun h => ⟨h, RR_0⟩
/-- frames of the longs -/
theorem po_fr {x : Int32} {cr : Int64} {b : Nat} (h : b ≠ 19) : ∀ k, (u_po J K x cr k).2 b = K b
  | 0 => rfl
  | k + 1 => by
    rw [u_po]
    split
    · exact po_fr h k
    split
    · dsimp only
      rw [wL_c9 h]
      exact po_fr h k
    · exact po_fr h k
theorem spend_fr {b : Nat} (h : b ≠ 19) (h2 : b ≠ 37 + 2 * c) : (u_spend J K c z).2 b = K b := by
  unfold u_spend u_spL
  split
  · exact po_fr h z
  · dsimp only
    rw [wL_c9 h2]
    exact po_fr h z
theorem se_fr {b : Nat} (h : b ≠ 61) (h2 : b ≠ 71) : ∀ k, (m_se M N c k).2 b = N b
  | 0 => rfl
  | k + 1 => by
    rw [m_se]
    split
    · exact se_fr h h2 k
    split
    · split
      · exact se_fr h h2 k
      · dsimp only
        rw [wL_c9 h, wL_c9 h2]
        exact se_fr h h2 k
    · exact se_fr h h2 k
theorem id_fr {M9 : Nat} {b : Nat} (h : 47 ≤ b) (hc : c < 5) : (u_id J K c P F G T M9 ne z).2 b = K b := by
  unfold u_id
  split
  · rfl
  split
  · exact funext fun j => cuL_ne (by omega) _
  · rw [spend_fr (by omega) (by omega)]
    unfold u_id3L u_id2L
    split
    · rw [wL_c9 (by omega), wL_c9 (by omega)]
      exact funext fun j => cuL_ne (by omega) _
    · rw [wL_c9 (by omega), wL_c9 (by omega), wL_c9 (by omega)]
      exact funext fun j => cuL_ne (by omega) _
theorem rp_fr {FD : Nat → Nat} {s : qIL} {b : Nat} (h : 47 ≤ b) (hc : c < 5) : ∀ P, (u_rp FD T ne c s P).2 b = s.2 b
  | 0 => rfl
  | P + 1 => by
    rw [u_rp, u_r1]
    exact (id_fr h hc).trans (rp_fr h hc P)
theorem rc_fr {FD : Nat → Nat} {s : qIL} {b : Nat} (h : 47 ≤ b) : ∀ c, c ≤ 5 → (u_rc FD T ne pe s c).2 b = s.2 b
  | 0, _ => rfl
  | c + 1, hc => by
    rw [u_rc]
    exact (rp_fr h (by omega) pe).trans (rc_fr h c (by omega))
theorem mr1_fr {s : qIM} {b : Nat} (h : b < 47) : (m_r1 T ne c P s).2 b = s.2 b := by
  unfold m_r1
  split
  · rfl
  split
  · rfl
  · dsimp only
    unfold m_setL
    rw [se_fr (by omega) (by omega)]
    unfold m_rL
    split
    · rw [wL_c9 (by omega), wL_c9 (by omega)]
    · rw [wL_c9 (by omega), wL_c9 (by omega), wL_c9 (by omega)]
theorem mrp_fr {s : qIM} {b : Nat} (h : b < 47) : ∀ P, (m_rp T ne c s P).2 b = s.2 b
  | 0 => rfl
  | P + 1 => by
    rw [m_rp]
    exact (mr1_fr h).trans (mrp_fr h P)
theorem mrc_fr {s : qIM} {b : Nat} (h : b < 47) : ∀ c, (m_rc T ne pe s c).2 b = s.2 b
  | 0 => rfl
  | c + 1 => by
    rw [m_rc]
    exact (mrp_fr h pe).trans (mrc_fr h c)
/-- the steps, as the law asks them: the reference runs behind the class -/
theorem x_subscribe {t : Int32} (h : r_IR I L) (hc : c < 5) (ht : t = -1 ∨ ¬ noT t) {I1 I2 : qJ} (h1 : I1 = wI (wI I (37 + 2 * c) 1 t) (37 + 2 * c) 2 (if I (37 + 2 * c) 3 = 3 then 1 else 0)) (h2 : I2 = wI (wI (wI I1 47 0 0) 58 c t) 59 c (if I1 60 c = 3 then 1 else 0)) : I2 47 0 = 0 ∧ I (37 + 2 * c) 1 = I1 58 c ∧ ∀ a, r_IR I2 (wL L 76 0 a) := by
  have hC : CF I I1 := by subst h1; exact CF_B (CF_w (CF_self h.1.1) (by omega)) hc (by split; exact Or.inr rfl; exact Or.inl rfl)
  have hM : MF I1 I2 := by subst h2; exact MF_w (MF_w (MF_w (MF_self (Inv_C h.1 hC).2) (by omega)) (by omega)) (by omega)
  refine ⟨by rw [h2, wI_ne (by omega), wI_ne (by omega), wI_at], ?_, fun a => ?_⟩
  · rw [hC.2 58 (by omega)]
    exact (h.2.2.2.2.1 c hc).1
  · have hm : r_RR I I1 L (wL L 76 0 a) := IR_mid h hC (fun k _ hk => wL_c9 hk)
    have := RR_sub hm hc ht
    rw [← h1, ← h2] at this
    exact IR_fin h.1 hC hM this (fun k hk => wL_c9 (by omega))
theorem x_pause (h : r_IR I L) (hc : c < 5) (hon : qB on) {I1 I2 : qJ} (h1 : I1 = wI I (37 + 2 * c) 2 on) (h2 : I2 = wI (wI I1 47 0 0) 59 c (if on = 0 then 0 else 1)) : I2 47 0 = 0 ∧ (if I (37 + 2 * c) 2 = on then 0 else 1 : Int32) = (if (if I1 59 c = 1 then 1 else 0) = on then 0 else 1) ∧ ∀ a, r_IR I2 (wL L 76 0 a) := by
  have hC : CF I I1 := by subst h1; exact CF_B (CF_self h.1.1) hc hon
  have hM : MF I1 I2 := by subst h2; exact MF_w (MF_w (MF_self (Inv_C h.1 hC).2) (by omega)) (by omega)
  refine ⟨by rw [h2, wI_ne (by omega), wI_at], ?_, fun a => ?_⟩
  · rw [hC.2 59 (by omega), ← (h.2.2.2.2.1 c hc).2.1]
    rcases h.1.1.2.2.2.2.2.2.2 c hc with r | r
    · rw [r, if_neg (show ¬ (0 : Int32) = 1 by decide)]
    · rw [r, if_pos (show (1 : Int32) = 1 from rfl)]
  · have hm : r_RR I I1 L (wL L 76 0 a) := IR_mid h hC (fun k _ hk => wL_c9 hk)
    have := RR_pau hm hc hon
    rw [← h1, ← h2] at this
    exact IR_fin h.1 hC hM this (fun k hk => wL_c9 (by omega))
theorem x_event {key cc day u : Int32} (h : r_IR I L) (hne : I 9 4 = nI ne) (hne2 : ne < 80) (hu : 1 ≤ u.toInt ∧ u.toInt ≤ 10000) (hd : ∃ d, d ≤ 400 ∧ day = nI d) {I1 I2 : qJ} (h1 : I1 = wI (wI (wI (wI (wI I 10 ne key) 11 ne cc) 12 ne day) 13 ne u) 9 4 (nI (ne + 1))) (h2 : I2 = wI (wI (wI (wI (wI (wI I1 47 0 0) 63 ne key) 64 ne cc) 65 ne day) 66 ne u) 47 23 (nI (ne + 1))) : CF I I1 ∧ I2 47 0 = 0 ∧ ∀ a, r_IR I2 (wL L 76 0 a) := by
  have hC : CF I I1 := by
    subst h1
    exact CF_gen (CF_w (CF_w (CF_w (CF_w (CF_self h.1.1) (by omega)) (by omega)) (by omega)) (by omega)) (by omega) (by omega) (by omega) (fun _ _ => ⟨ne + 1, by omega, rfl⟩) (by omega) (by omega) (by omega) (by omega) (by omega)
  have hM : MF I1 I2 := by
    subst h2
    exact MF_gen (MF_w (MF_gen (MF_w (MF_w (MF_w (MF_self (Inv_C h.1 hC).2) (by omega)) (by omega)) (by omega)) (by omega) (by omega) (by omega) (by omega) (by omega) (fun _ => hd) (by omega) (by omega) (by omega)) (by omega)) (by omega) (by omega) (by omega) (by omega) (fun _ _ => ⟨ne + 1, by omega, rfl⟩) (by omega) (by omega) (by omega) (by omega)
  refine ⟨hC, by rw [h2, wI_ne (by omega), wI_ne (by omega), wI_ne (by omega), wI_ne (by omega), wI_ne (by omega), wI_at], fun a => ?_⟩
  have hm : r_RR I I1 L (wL L 76 0 a) := IR_mid h hC (fun k _ hk => wL_c9 hk)
  have := RR_ev (key := key) (cc := cc) (day := day) hm hne hne2 hu
  rw [← h1, ← h2] at this
  exact IR_fin h.1 hC hM this (fun k hk => wL_c9 (by omega))
theorem x_plan {cc : Int32} (h : r_IR I L) (hzp : I 20 4 = nI z) (hz2 : z < 10) (hc : c < 5) (hcc : cc = nI c) (hd : 1 ≤ d.toInt ∧ d.toInt ≤ 400) (ha : 1 ≤ a.toInt ∧ a.toInt ≤ 1000000) {I1 I2 : qJ} {b : Int64} {L1 L2 : rLg} (h1 : I1 = wI (wI (wI (wI I 21 z cc) 23 z d) 24 z (I 0 9)) 20 4 (nI (z + 1))) (hL1 : L1 = wL (wL (wL L 0 10 (L 0 10 + a)) 22 z a) 76 0 b) (h2 : I2 = wI (wI (wI (wI (wI I1 47 0 0) 72 z cc) 73 z d) 74 z (I1 47 2)) 47 34 (nI (z + 1))) (hL2 : L2 = wL (wL L1 47 35 (L1 47 35 + a)) 75 z a) : I1 47 34 = nI z ∧ I2 47 0 = 0 ∧ L2 76 0 = b ∧ r_IR I2 L2 := by
  have hC : CF I I1 := by
    subst h1
    exact CF_gen (CF_w (CF_w (CF_w (CF_self h.1.1) (by omega)) (by omega)) (by omega)) (by omega) (by omega) (by omega) (by omega) (by omega) (by omega) (fun _ _ => ⟨z + 1, by omega, rfl⟩) (by omega) (by omega)
  have hz47 : I1 47 34 = nI z := by
    rw [hC.2 47 (by omega), ← h.2.2.2.2.2.2.2.2.1]
    exact hzp
  have hM : MF I1 I2 := by
    subst h2
    exact MF_plan (MF_w (MF_self (Inv_C h.1 hC).2) (by omega)) ((wI_ne (by omega)).trans hz47) hz2 (by rw [Int32.le_iff_toInt_le, k32_1]; exact hd.1)
  refine ⟨hz47, by rw [h2, wI_ne (by omega), wI_ne (by omega), wI_ne (by omega), wI_ne (by omega), wI_at], by rw [hL2, wL_ne9 (by omega), wL_ne9 (by omega), hL1, wL_at9], ?_⟩
  have hm : r_RR I I1 L L1 := IR_mid h hC (fun k hk hk2 => by rw [hL1, wL_c9 hk2, wL_c9 (by omega), wL_c9 (by omega)])
  have := RR_pl (a := a) hm hzp hz2 hc hcc hd ha
  rw [← h1, ← h2, ← hL2] at this
  exact IR_fin h.1 hC hM this (fun k hk => by rw [hL2, wL_c9 (by omega), wL_c9 (by omega), hL1, wL_c9 (by omega)])
theorem x_pay (h : r_IR I L) (hc : c < 5) (hz : I 14 5 = nI z) {K1 L1 N2 L2 : rLg} {I1 I2 : qJ} {b : Int64} (hK1 : K1 = wL (wL L 0 10 (L 0 10 + a)) (37 + 2 * c) 4 (wL L 0 10 (L 0 10 + a) (37 + 2 * c) 4 + a)) (h1 : I1 = (u_spend I K1 c z).1) (hL1 : L1 = wL (u_spend I K1 c z).2 76 0 b) (hN2 : N2 = wL (wL L1 47 35 (L1 47 35 + a)) 61 c (L1 61 c + a)) (h2 : I2 = m_setI (wI I1 47 0 0) N2 c z) (hL2 : L2 = m_setL (wI I1 47 0 0) N2 c z) : I1 47 29 = nI z ∧ I2 47 0 = 0 ∧ L2 76 0 = b ∧ ((u_spend I K1 c z).2 (37 + 2 * c) 4 - L (37 + 2 * c) 4) = L2 61 c - L1 61 c ∧ r_IR I2 L2 := by
  have hC : CF I I1 := by subst h1; exact CF_spend (CF_self h.1.1) hc
  have hM : MF I1 I2 := by subst h2; exact MF_setI (MF_w (MF_self (Inv_C h.1 hC).2) (by omega))
  have hm : r_RR I I1 L L1 := IR_mid h hC (fun k hk hk2 => by rw [hL1, wL_c9 hk2, spend_fr (by omega) (by omega), hK1, wL_c9 (by omega), wL_c9 (by omega)])
  have hz47 : I1 47 29 = nI z := by rw [← hm.2.2.2.2.2.2.1.1]; exact hz
  have hR := RR_spend (z := z) (RR_py (a := a) hm hc) hc
  rw [← hK1, ← hN2, ← h1, ← h2, ← hL2] at hR
  have h470 : I2 47 0 = 0 := by
    rw [h2]
    unfold m_setI
    split
    · rw [wI_at]
    · rw [m_look_ne (by omega) (by omega), wI_at]
  refine ⟨hz47, h470, ?_, ?_, ?_⟩
  · rw [hL2]
    unfold m_setL
    rw [se_fr (by omega) (by omega), hN2, wL_ne9 (by omega), wL_ne9 (by omega), hL1, wL_at9]
  · have e1 := (hR.2.2.2.1 c hc).2.2.2.1
    have e2 := (h.2.2.2.2.1 c hc).2.2.2.1
    have e3 : L1 61 c = L 61 c := by rw [hL1, wL_ne9 (by omega), spend_fr (by omega) (by omega), hK1, wL_ne9 (by omega), wL_ne9 (by omega)]
    rw [e1, e2, e3]
  · refine IR_fin h.1 hC hM hR (fun k hk => ?_)
    rw [hL2]
    unfold m_setL
    rw [se_fr (by omega) (by omega), hN2, wL_c9 (by omega), wL_c9 (by omega), hL1, wL_c9 (by omega)]
theorem x_tick (h : r_IR I L) (hT : I 0 9 = nI T) (hz : I 14 5 = nI z) {k : Nat} (hk : T + k ≤ 400) {I1 I2 : qJ} {b : Int64} (h1 : I1 = u_tk I L z k) (h2 : I2 = m_tk (wI I1 47 0 0) (wL L 76 0 b) z T k) : I1 47 29 = nI z ∧ I1 47 2 = nI T ∧ I2 47 0 = 0 ∧ r_IR I2 (wL L 76 0 b) := by
  have hC : CF I I1 := by subst h1; exact CF_tk (CF_self h.1.1) hT k hk
  have hM : MF I1 I2 := by subst h2; exact MF_tk (MF_w (MF_self (Inv_C h.1 hC).2) (by omega)) k hk
  have hm : r_RR I I1 L (wL L 76 0 b) := IR_mid h hC (fun k _ hk => wL_c9 hk)
  have hR := RR_tk (z := z) (RR_w0 (j := 0) (v := 0) hm (by omega)) (CF_self h.1.1) hT k hk
  rw [← h1, ← h2] at hR
  refine ⟨by rw [← hm.2.2.2.2.2.2.1.1]; exact hz, by rw [← hm.1.1]; exact hT, by rw [h2, m_tk_0, wI_at], ?_⟩
  exact IR_fin h.1 hC hM hR (fun k hk => wL_c9 (by omega))
theorem x_text (w : Int64) (h : r_IR I L) (hn : I 1 3 = nI n) (hn8 : n + u_cN w 8 ≤ 60) {I1 I2 : qJ} (h1 : I1 = u_ap I w n 8) (h2 : I2 = m_ap (wI I1 47 0 0) w n 8) : I1 47 4 = nI n ∧ I2 47 0 = 0 ∧ ∀ b, r_IR I2 (wL L 76 0 b) := by
  have hC : CF I I1 := by subst h1; exact CF_ap (CF_self h.1.1) 8 hn8
  have hM : MF I1 I2 := by
    subst h2
    exact MF_ap (MF_w (MF_self (Inv_C h.1 hC).2) (by omega)) (by rw [m_ln_8, ← cN_eq]; exact hn8) 8 (Nat.le_refl _)
  refine ⟨by rw [hC.2 47 (by omega), ← h.2.2.1.1]; exact hn, by rw [h2, m_ap_0, wI_at], fun b => ?_⟩
  have hm : r_RR I I1 L (wL L 76 0 b) := IR_mid h hC (fun k _ hk => wL_c9 hk)
  have hR := RR_tx (n := n) w hm
  rw [← h1, ← h2] at hR
  exact IR_fin h.1 hC hM hR (fun k hk => wL_c9 (by omega))
theorem x_tariff (h : r_IR I L) (hn : I 1 3 = nI n) (hn2 : n ≤ 60) (ht : t < 3) (htt : tt = nI t) :
    (u_ra9 I n 1 6 = -2 ∧ (u_tr I n t) 47 4 = nI n ∧ (m_tf (u_tr I n t) n tt).2 47 0 = 0 ∧ u_ra9 I n 1 5 = (m_tf (u_tr I n t) n tt).1 ∧ ∀ b, r_IR (m_tf (u_tr I n t) n tt).2 (wL L 76 0 b)) ∨
    (¬ u_ra9 I n 1 6 = -2 ∧ (u_ra9 I n) 47 4 = nI n ∧ (m_tf (u_ra9 I n) n tt).2 47 0 = 1 ∧ r_IR (m_tf (u_ra9 I n) n tt).2 L) := by
  have hC1 : CF I (u_tr I n t) := CF_tr (CF_self h.1.1) hn2 ht
  have hC2 : CF I (u_ra9 I n) := (CF_ra9 (CF_self h.1.1) hn2).1
  have hn1 : ∀ {X : qJ}, CF I X → X 47 4 = nI n := fun hX => by rw [hX.2 47 (by omega), ← h.2.2.1.1]; exact hn
  by_cases q : u_ra9 I n 1 6 = -2
  · left
    have hm : ∀ b, r_RR I (u_tr I n t) L (wL L 76 0 b) := fun b => IR_mid h hC1 (fun k _ hk => wL_c9 hk)
    have hT : ∀ b, r_RR (u_tr I n t) (m_tf (u_tr I n t) n tt).2 L (wL L 76 0 b) ∧ (m_tf (u_tr I n t) n tt).2 47 0 = 0 ∧ u_ra9 I n 1 5 = (m_tf (u_tr I n t) n tt).1 := fun b => by
      rcases tf_eq (hm b) hn hn2 ht htt with r | r
      · exact r.2
      · exact absurd q r.1
    refine ⟨q, hn1 hC1, (hT 0).2.1, (hT 0).2.2, fun b => ?_⟩
    exact IR_fin h.1 hC1 (MF_tf (MF_self (Inv_C h.1 hC1).2) (hn1 hC1) hn2 tt) (hT b).1 (fun k hk => wL_c9 (by omega))
  · right
    have hm : r_RR I (u_ra9 I n) L L := IR_mid h hC2 (fun _ _ _ => rfl)
    rcases tf_eq hm hn hn2 ht htt with r | r
    · exact absurd r.1 q
    · exact ⟨q, hn1 hC2, r.2.2, IR_fin h.1 hC2 (MF_tf (MF_self (Inv_C h.1 hC2).2) (hn1 hC2) hn2 tt) r.2.1 (fun _ _ => rfl)⟩
theorem x_tariff0 (h : r_IR I L) (hn : I 1 3 = nI n) (hn2 : n ≤ 60) (ht : noT tt) : (wI I 1 6 (-2)) 47 4 = nI n ∧ (m_tf (wI I 1 6 (-2)) n tt).2 47 0 = 1 ∧ r_IR (m_tf (wI I 1 6 (-2)) n tt).2 L := by
  have hC : CF I (wI I 1 6 (-2)) := CF_w (CF_self h.1.1) (by omega)
  have hn1 : (wI I 1 6 (-2)) 47 4 = nI n := by rw [hC.2 47 (by omega), ← h.2.2.1.1]; exact hn
  have hm : r_RR I (wI I 1 6 (-2)) L L := IR_mid h hC (fun _ _ _ => rfl)
  have hR := tf_no (n := n) hm ht
  exact ⟨hn1, hR.2, IR_fin h.1 hC (MF_tf (MF_self (Inv_C h.1 hC).2) hn1 hn2 tt) hR.1 (fun _ _ => rfl)⟩
theorem x_charge (h : r_IR I L) (hc : c < 5) (hT : I 0 9 = nI T) (hT2 : T ≤ 400) (hne : I 9 4 = nI ne) (hne2 : ne ≤ 80) (hP : P < 14) {I1 : qJ} {L1 : rLg} {b : Int64} (h1 : I1 = u_cd I c (FD0 P) T (min (FD0 (P + 1) - FD0 P) (T + 1 - FD0 P))) (hL1 : L1 = wL (u_cuL I1 L c (FD0 P) (FD0 (P + 1)) T ne) 76 0 b) : Inv I1 ∧ I1 47 2 = nI T ∧ I1 47 23 = nI ne ∧ u_charge I L c (FD0 P) (FD0 (P + 1)) T (min (FD0 (P + 1) - FD0 P) (T + 1 - FD0 P)) ne = m_due I1 T c (mF P) (mD P) ne ∧ r_IR (wI I1 47 0 0) L1 := by
  have hC : CF I I1 := by subst h1; exact CF_cd (CF_self h.1.1) _
  obtain ⟨t1, t2, t3, t4, t5, -, -⟩ := FD_tab P hP
  have hm : r_RR I I1 L L1 := IR_mid h hC (fun k hk hk2 => by rw [hL1, wL_c9 hk2]; exact funext fun j => cuL_ne (by omega) _)
  have hI1 := Inv_C h.1 hC
  refine ⟨hI1, by rw [← hm.1.1]; exact hT, by rw [← hm.2.2.2.2.2.1.1]; exact hne, ?_, ?_⟩
  · rw [charge_eq hm h.1.1.2.2.2.2.2.2.2 hc hT hT2 t3 t5 t4 hne hne2 (mE_of hI1.2 hne2), t2, t1]
  · have hR : r_RR I1 I1 (u_cuL I1 L c (FD0 P) (FD0 (P + 1)) T ne) L1 := by
      have := RR_cd (c := c) (F := FD0 P) (G := FD0 (P + 1)) (T := T) (i := min (FD0 (P + 1) - FD0 P) (T + 1 - FD0 P)) (e := ne) hm
      rw [← h1] at this
      exact this
    exact IR_fin h.1 hC (MF_w (MF_self hI1.2) (by omega)) (RR_w0 hR (by omega)) (fun k hk => by rw [hL1, wL_c9 (by omega)])
theorem x_use {u : Int32} (h : r_IR I L) (ht : t < 3) (hu : ¬ u < 0 ∧ ¬ 1000000 < u) : u_use I (28 + 3 * t) (29 + 3 * t) (30 + 3 * t) (ctz I t) (Int32.toInt64 u) 1 1 = m_use I t (Int32.toInt64 u) := by
  have hT := h.2.2.2.1 t ht
  unfold m_use
  have one : ∀ a : Int32, u_share (Int32.toInt64 a) (Int32.toInt64 1) (Int32.toInt64 1) = Int32.toInt64 a := fun a => by
    rw [share_eq _ _ (by decide)]
    rw [show Int32.toInt64 1 = 1 by decide, Int64.mul_one]
    apply Int64.toInt_inj.mp
    have := a.toInt_lt
    have := a.le_toInt
    rw [Int64.toInt_div, Int32.toInt_toInt64, k64_1, Int.tdiv_one, Int.bmod_def]
    omega
  rw [← hT.2.1.1, ← hT.2.2.1.1]
  simp only [Int32.lt_iff_toInt_lt, k32_0, show (1000000 : Int32).toInt = 1000000 by decide] at hu
  exact use_eq hT (one _) (one _) (by rw [Int32.toInt_toInt64]; omega) (by rw [Int32.toInt_toInt64]; omega) (by rw [Int32.toInt_toInt64]; exact hT.2.1.2.1) (by rw [Int32.toInt_toInt64]; have := hT.2.1.2.2; omega)
theorem x_run (h : r_IR I L) (hT : I 0 9 = nI T) (hT2 : T ≤ 400) (hne : I 9 4 = nI ne) (hne2 : ne ≤ 80) (hpe : pe ≤ 14) {I1 I2 : qJ} {L1 L2 : rLg} (h1 : I1 = (u_rc FD0 T ne pe (I, L) 5).1) (hL1 : L1 = (u_rc FD0 T ne pe (I, L) 5).2) (h2 : I2 = (m_rc T ne pe (wI I1 47 0 0, L1) 5).1) (hL2 : L2 = (m_rc T ne pe (wI I1 47 0 0, L1) 5).2) : Inv I1 ∧ I1 47 2 = nI T ∧ I1 47 23 = nI ne ∧ nI (zof I1) - nI (zof I) = m_mk I1 (m_rc T ne pe (wI I1 47 0 0, L1) 5) ∧ r_IR I2 L2 := by
  have hC : CF I I1 := by subst h1; exact CF_rc (s := (I, L)) (CF_self h.1.1) 5 (Nat.le_refl _)
  have hI1 := Inv_C h.1 hC
  have hM0 : MF I1 (wI I1 47 0 0) := MF_w (MF_self hI1.2) (by omega)
  have hM : MF I1 I2 := by subst h2; exact MF_rc (s := (wI I1 47 0 0, L1)) hM0 5
  have hm : r_RR I I1 L L1 := IR_mid h hC (fun k hk hk2 => by rw [hL1]; exact rc_fr (s := (I, L)) hk 5 (Nat.le_refl _))
  have hR := RR_rc (s := (I, L)) (r := (wI I1 47 0 0, L1)) (RR_w0 (j := 0) (v := 0) hm (by omega)) (CF_self h.1.1) hM0 hT hT2 hne hne2 hpe 5 (Nat.le_refl _)
  rw [← h1, ← h2, ← hL1, ← hL2] at hR
  refine ⟨hI1, by rw [← hm.1.1]; exact hT, by rw [← hm.2.2.2.2.2.1.1]; exact hne, ?_, IR_fin h.1 hC hM hR (fun k hk => by rw [hL2]; exact mrc_fr (s := (wI I1 47 0 0, L1)) hk 5)⟩
  unfold m_mk
  rw [← h2]
  unfold mzof zof
  rw [← hR.2.2.2.2.2.2.1.1, ← hm.2.2.2.2.2.2.1.1]
end PT20
