section COPY
variable {z : Nat} {sh : SH} {mi : MI} {mr : MR} {a b : Nat}
theorem NmC.copy {m m' : MI} {x y : Nat} {l : List Nm} (h : NmC m y l) (hl : l.length ≤ 2) (h1 : m' x 1 = m y 1) (h2 : ∀ j, j < 2 → m' (x + 1) j = m (y + 1) j) : NmC m' x l := ⟨by rw [h1]; exact h.1, fun i v hv => by rw [h2 i (by have := gl_lt hv; omega)]; exact h.2 i v hv⟩
theorem c_setts (hL : LSt sh mr a) (hB : LSt sh mr b) (hab : b + 43 ≤ a ∨ a + 43 ≤ b) {se : Se} (hS : SeC mi b se) (hse : okSe se) : Mi mX6_copySettings 2 [.ref a, .ref b] z sh mi mr (fun v m => v = none ∧ SeC m a se ∧ Oth mi m a (a + 5)) := by
  obtain ⟨l0, ⟨l1, l2⟩, ⟨l3, l4⟩, -⟩ := id hL
  obtain ⟨k0, ⟨k1, k2⟩, ⟨k3, k4⟩, -⟩ := id hB
  have la0 := l2.1
  have lb0 := l4.1
  obtain ⟨s0, s1, s2, s3, s4, s5⟩ := id hS
  have K30 : ∀ m : MI, m a 0 = nI (en 32 se.1) → NmC m (a + 1) se.2.1 → NmC m (a + 3) se.2.2.1 → Oth mi m a (a + 5) → Wp yX6_copySettings cX6_copySettings 2 none (EI 2 z sh mr (fun v m => v = none ∧ SeC m a se ∧ Oth mi m a (a + 5))) 0 0 30 [.ref a, .ref b] [] z sh m mr := by
    intro m m0 m1 m2 hO
    have b3 : m b 3 = nI se.2.2.2.1 := by rw [hO b (by omega)]; exact s3
    have b4 : m b 4 = nI se.2.2.2.2.1 := by rw [hO b (by omega)]; exact s4
    have b5 : m b 5 = nI se.2.2.2.2.2 := by rw [hO b (by omega)]; exact s5
    refine r_aload_n 0 dX6_copySettings_30 rfl rfl ?_
    refine r_aload_n 1 dX6_copySettings_31 rfl rfl ?_
    refine r_getV dX6_copySettings_32 fl_RX6_21 rfl (by assumption) (by first | assumption | exact up2_same _ _ _ _ | exact (Eq.trans (up2_ne _ _ (by omega)) (by first | assumption | exact up2_same _ _ _ _)) | exact (Eq.trans (up2_ne _ _ (by omega)) (Eq.trans (up2_ne _ _ (by omega)) (by first | assumption | exact up2_same _ _ _ _))) | exact (Eq.trans (up2_ne _ _ (by omega)) (Eq.trans (up2_ne _ _ (by omega)) (Eq.trans (up2_ne _ _ (by omega)) (by first | assumption | exact up2_same _ _ _ _)))) | exact (Eq.trans (up2_ne _ _ (by omega)) (Eq.trans (up2_ne _ _ (by omega)) (Eq.trans (up2_ne _ _ (by omega)) (Eq.trans (up2_ne _ _ (by omega)) (by first | assumption | exact up2_same _ _ _ _))))) | rfl) ?_
    refine r_putI dX6_copySettings_35 fl_RX6_21 rfl rfl rfl (by assumption) ?_
    refine r_aload_n 0 dX6_copySettings_38 rfl rfl ?_
    refine r_aload_n 1 dX6_copySettings_39 rfl rfl ?_
    refine r_getV dX6_copySettings_40 fl_RX6_25 rfl (by assumption) (by first | assumption | exact up2_same _ _ _ _ | exact (Eq.trans (up2_ne _ _ (by omega)) (by first | assumption | exact up2_same _ _ _ _)) | exact (Eq.trans (up2_ne _ _ (by omega)) (Eq.trans (up2_ne _ _ (by omega)) (by first | assumption | exact up2_same _ _ _ _))) | exact (Eq.trans (up2_ne _ _ (by omega)) (Eq.trans (up2_ne _ _ (by omega)) (Eq.trans (up2_ne _ _ (by omega)) (by first | assumption | exact up2_same _ _ _ _)))) | exact (Eq.trans (up2_ne _ _ (by omega)) (Eq.trans (up2_ne _ _ (by omega)) (Eq.trans (up2_ne _ _ (by omega)) (Eq.trans (up2_ne _ _ (by omega)) (by first | assumption | exact up2_same _ _ _ _))))) | rfl) ?_
    refine r_putI dX6_copySettings_43 fl_RX6_25 rfl rfl rfl (by assumption) ?_
    refine r_aload_n 0 dX6_copySettings_46 rfl rfl ?_
    refine r_aload_n 1 dX6_copySettings_47 rfl rfl ?_
    refine r_getV dX6_copySettings_48 fl_RX6_28 rfl (by assumption) (by first | assumption | exact up2_same _ _ _ _ | exact (Eq.trans (up2_ne _ _ (by omega)) (by first | assumption | exact up2_same _ _ _ _)) | exact (Eq.trans (up2_ne _ _ (by omega)) (Eq.trans (up2_ne _ _ (by omega)) (by first | assumption | exact up2_same _ _ _ _))) | exact (Eq.trans (up2_ne _ _ (by omega)) (Eq.trans (up2_ne _ _ (by omega)) (Eq.trans (up2_ne _ _ (by omega)) (by first | assumption | exact up2_same _ _ _ _)))) | exact (Eq.trans (up2_ne _ _ (by omega)) (Eq.trans (up2_ne _ _ (by omega)) (Eq.trans (up2_ne _ _ (by omega)) (Eq.trans (up2_ne _ _ (by omega)) (by first | assumption | exact up2_same _ _ _ _))))) | rfl) ?_
    refine r_putI dX6_copySettings_51 fl_RX6_28 rfl rfl rfl (by assumption) ?_
    refine r_vret dX6_copySettings_54 rfl (Nat.le_of_ble_eq_true rfl) (Nat.le_of_ble_eq_true rfl) ?_
    refine ⟨rfl, rfl, rfl, rfl, ⟨?_, m1.keep ?_ ?_, m2.keep ?_ ?_, ?_, ?_, ?_⟩, ((hO.up (by omega) (by omega)).up (by omega) (by omega)).up (by omega) (by omega)⟩
    · rw [up2_ne _ _ (Or.inr (by omega)), up2_ne _ _ (Or.inr (by omega)), up2_ne _ _ (Or.inr (by omega))]; exact m0
    · rw [up2_row _ _ (by omega), up2_row _ _ (by omega), up2_row _ _ (by omega)]
    · rw [up2_row _ _ (by omega), up2_row _ _ (by omega), up2_row _ _ (by omega)]
    · rw [up2_row _ _ (by omega), up2_row _ _ (by omega), up2_row _ _ (by omega)]
    · rw [up2_row _ _ (by omega), up2_row _ _ (by omega), up2_row _ _ (by omega)]
    · rw [up2_ne _ _ (Or.inr (by omega)), up2_ne _ _ (Or.inr (by omega)), up2_same]
    · rw [up2_ne _ _ (Or.inr (by omega)), up2_same]
    · exact up2_same _ _ _ _
  refine Mv.of pnX6_copySettings (Nat.le_of_ble_eq_true rfl) rfl ?_
  refine r_aload_n 0 dX6_copySettings_0 rfl rfl ?_
  refine r_aload_n 1 dX6_copySettings_1 rfl rfl ?_
  refine r_getV dX6_copySettings_2 fl_RX6_62 rfl (by assumption) (by first | assumption | exact up2_same _ _ _ _ | exact (Eq.trans (up2_ne _ _ (by omega)) (by first | assumption | exact up2_same _ _ _ _)) | exact (Eq.trans (up2_ne _ _ (by omega)) (Eq.trans (up2_ne _ _ (by omega)) (by first | assumption | exact up2_same _ _ _ _))) | exact (Eq.trans (up2_ne _ _ (by omega)) (Eq.trans (up2_ne _ _ (by omega)) (Eq.trans (up2_ne _ _ (by omega)) (by first | assumption | exact up2_same _ _ _ _)))) | exact (Eq.trans (up2_ne _ _ (by omega)) (Eq.trans (up2_ne _ _ (by omega)) (Eq.trans (up2_ne _ _ (by omega)) (Eq.trans (up2_ne _ _ (by omega)) (by first | assumption | exact up2_same _ _ _ _))))) | rfl) ?_
  refine r_putI dX6_copySettings_5 fl_RX6_62 rfl rfl rfl (by assumption) ?_
  refine r_aload_n 0 dX6_copySettings_8 rfl rfl ?_
  refine r_getR dX6_copySettings_9 fl_RX6_12 rfl (by assumption) (by assumption) ?_
  refine r_aload_n 1 dX6_copySettings_12 rfl rfl ?_
  refine r_getR dX6_copySettings_13 fl_RX6_12 rfl (by assumption) (by assumption) ?_
  refine r_callVw [_] dX6_copySettings_16 ok_RX6_92 ivX2_copyFrom (by assumption) ⟨_, _, rfl⟩ rfl rfl (Nat.le_of_ble_eq_true rfl) (by refine ⟨?_, ?_, ?_, ?_⟩ <;> exact Nat.le_of_ble_eq_true rfl) (c_nmCopy l2 k2) ?_
  intro m ⟨g1, g2, g3⟩
  refine r_aload_n 0 dX6_copySettings_19 rfl rfl ?_
  refine r_getR dX6_copySettings_20 fl_RX6_18 rfl (by assumption) (by assumption) ?_
  refine r_aload_n 1 dX6_copySettings_23 rfl rfl ?_
  refine r_getR dX6_copySettings_24 fl_RX6_18 rfl (by assumption) (by assumption) ?_
  refine r_callVw [_] dX6_copySettings_27 ok_RX6_92 ivX2_copyFrom (by assumption) ⟨_, _, rfl⟩ rfl rfl (Nat.le_of_ble_eq_true rfl) (by refine ⟨?_, ?_, ?_, ?_⟩ <;> exact Nat.le_of_ble_eq_true rfl) (c_nmCopy l4 k4) ?_
  intro m' ⟨f1, f2, f3⟩
  refine K30 m' ?_ ?_ ?_ ?_
  · rw [f1 a (by omega) (by omega), g1 a (by omega) (by omega), up2_same]
  · exact (s1.copy hse.2.1.1 (by rw [g2, up2_row _ _ (by omega)]) (fun j hj => by rw [g3 j hj, up2_row _ _ (by omega)])).keep (f1 _ (by omega) (by omega)) (f1 _ (by omega) (by omega))
  · exact s2.copy hse.2.2.1.1 (by rw [f2, g1 _ (by omega) (by omega), up2_row _ _ (by omega)]) (fun j hj => by rw [f3 j hj, g1 _ (by omega) (by omega), up2_row _ _ (by omega)])
  · intro x hx
    rw [f1 x (by omega) (by omega), g1 x (by omega) (by omega), up2_row _ _ (by omega)]
theorem KnC.copy {m m' : MI} {x y : Nat} {l : Kn} (h : KnC m y l) (hl : l.length ≤ 16) (h1 : m' x 3 = m y 3) (h2 : ∀ r j, 1 ≤ r → r ≤ 3 → j < 16 → m' (x + r) j = m (y + r) j) : KnC m' x l := ⟨by rw [h1]; exact h.1, fun i v hv => by
  have := gl_lt hv
  rw [h2 1 i (by omega) (by omega) (by omega), h2 2 i (by omega) (by omega) (by omega), h2 3 i (by omega) (by omega) (by omega)]; exact h.2 i v hv⟩
theorem c_stCopy (hL : LSt sh mr a) (hB : LSt sh mr b) (hab : b + 43 ≤ a ∨ a + 43 ≤ b) {st : St} (hS : StC mi mr b st) {now : Nat} (hok : okSt st now) (hR : KpR mr (a + 6)) : Mi mX6_copyFrom 3 [.ref a, .ref b] z sh mi mr (fun v m => v = none ∧ StC m mr a st ∧ Oth mi m a (a + 43)) := by
  obtain ⟨l0, ⟨l1, l2⟩, ⟨l3, l4⟩, ⟨l5, l6⟩, ⟨l7, l8⟩, ⟨l9, l10⟩, ⟨l11, l12⟩, ⟨l13, l14⟩, ⟨l15, l16⟩⟩ := id hL
  obtain ⟨k0, ⟨k1, k2⟩, ⟨k3, k4⟩, ⟨k5, k6⟩, ⟨k7, k8⟩, ⟨k9, k10⟩, ⟨k11, k12⟩, ⟨k13, k14⟩, ⟨k15, k16⟩⟩ := id hB
  have p0 := l8.1
  have p1 := l10.1
  have p2 := l12.1
  obtain ⟨e1, e2, e3, e4, e5, e6⟩ := id hS
  obtain ⟨o1, o2, o3, o4, o5⟩ := id hok
  refine Mv.of pnX6_copyFrom (Nat.le_of_ble_eq_true rfl) rfl ?_
  refine r_aload_n 0 dX6_copyFrom_0 rfl rfl ?_
  refine r_aload_n 1 dX6_copyFrom_1 rfl rfl ?_
  refine r_callVw [_] dX6_copyFrom_2 ok_RX6_65 ivX6_copySettings (by assumption) ⟨_, _, rfl⟩ rfl rfl (Nat.le_of_ble_eq_true rfl) (by refine ⟨?_, ?_, ?_, ?_⟩ <;> exact Nat.le_of_ble_eq_true rfl) (c_setts hL hB hab e1 o1) ?_
  intro m1 ⟨g1, g2⟩
  have hS1 := hS.keep (m' := m1) o3.1 (fun y h1 h2 => g2 y (by omega))
  obtain ⟨m2, hm2⟩ : ∃ m2, m2 = cpRow m1 (b + 5) (a + 5) 9 := ⟨_, rfl⟩
  have hm2x : ∀ x, x ≠ a + 5 → m2 x = m1 x := fun x hx => by rw [hm2]; unfold cpRow; rw [if_neg hx]
  have hS2 := hS1.keep (m' := m2) o3.1 (fun y h1 h2 => hm2x y (by omega))
  have hT2 : TaC m2 a st.2.1 := fun w hw => by rw [hm2]; unfold cpRow; rw [if_pos rfl, if_pos hw]; exact hS1.2.1 w hw
  refine r_aload_n 1 dX6_copyFrom_5 rfl rfl ?_
  refine r_getR dX6_copyFrom_6 fl_RX6_31 rfl (by assumption) (by assumption) ?_
  refine r_iconst (v := nI 0) dX6_copyFrom_9 (by decide) ?_
  refine r_aload_n 0 dX6_copyFrom_10 rfl rfl ?_
  refine r_getR dX6_copyFrom_11 fl_RX6_31 rfl (by assumption) (by assumption) ?_
  refine r_iconst (v := nI 0) dX6_copyFrom_14 (by decide) ?_
  refine r_bipush (v := nI 9) dX6_copyFrom_15 (by decide) ?_
  refine r_acopy dX6_copyFrom_17 ml_RX6_69 x_nat x_sta x_sys (by assumption) (by assumption) (by decide) ⟨(Nat.le_of_ble_eq_true rfl), (Nat.le_of_ble_eq_true rfl)⟩ ?_
  rw [← hm2]
  refine r_aload_n 0 dX6_copyFrom_20 rfl rfl ?_
  refine r_getR dX6_copyFrom_21 fl_RX6_38 rfl (by assumption) (by assumption) ?_
  refine r_aload_n 1 dX6_copyFrom_24 rfl rfl ?_
  refine r_getR dX6_copyFrom_25 fl_RX6_38 rfl (by assumption) (by assumption) ?_
  refine r_callVw [_] dX6_copyFrom_28 ok_RX6_75 ivX0_copyFrom (by assumption) ⟨_, _, rfl⟩ rfl rfl (Nat.le_of_ble_eq_true rfl) (by refine ⟨?_, ?_, ?_, ?_⟩ <;> exact Nat.le_of_ble_eq_true rfl) (c_kpCopy l8 k8 (by omega) hS2.2.2.1 hR e4 o3.1 (fun q hq => (o3.2 q hq).1)) ?_
  intro m3 ⟨f1, f2⟩
  have hS3 := hS2.keep (m' := m3) o3.1 (fun y h1 h2 => f2 y (by omega))
  refine r_aload_n 0 dX6_copyFrom_31 rfl rfl ?_
  refine r_getR dX6_copyFrom_32 fl_RX6_45 rfl (by assumption) (by assumption) ?_
  refine r_aload_n 1 dX6_copyFrom_35 rfl rfl ?_
  refine r_getR dX6_copyFrom_36 fl_RX6_45 rfl (by assumption) (by assumption) ?_
  refine r_callVw [_] dX6_copyFrom_39 ok_RX6_79 ivX1_copyFrom (by assumption) ⟨_, _, rfl⟩ rfl rfl (Nat.le_of_ble_eq_true rfl) (by refine ⟨?_, ?_, ?_, ?_⟩ <;> exact Nat.le_of_ble_eq_true rfl) (c_knCopy l10 k10) ?_
  intro m4 ⟨d1, d2, d3⟩
  have hS4 := hS3.keep (m' := m4) o3.1 (fun y h1 h2 => d1 y (by omega))
  refine r_aload_n 0 dX6_copyFrom_42 rfl rfl ?_
  refine r_getR dX6_copyFrom_43 fl_RX6_52 rfl (by assumption) (by assumption) ?_
  refine r_aload_n 1 dX6_copyFrom_46 rfl rfl ?_
  refine r_getR dX6_copyFrom_47 fl_RX6_52 rfl (by assumption) (by assumption) ?_
  refine r_callVw [_] dX6_copyFrom_50 ok_RX6_82 ivX4_copyFrom (by assumption) ⟨_, _, rfl⟩ rfl rfl (Nat.le_of_ble_eq_true rfl) (by refine ⟨?_, ?_, ?_, ?_⟩ <;> exact Nat.le_of_ble_eq_true rfl) (c_copyPk l12 k12) ?_
  intro m5 ⟨c1, c2, c3, c4, c5⟩
  refine r_aload_n 0 dX6_copyFrom_53 rfl rfl ?_
  refine r_aload_n 1 dX6_copyFrom_54 rfl rfl ?_
  refine r_getV dX6_copyFrom_55 fl_RX6_85 rfl (by assumption) (by rfl) ?_
  refine r_putI dX6_copyFrom_58 fl_RX6_85 rfl rfl rfl (by assumption) ?_
  refine r_vret dX6_copyFrom_61 rfl (Nat.le_of_ble_eq_true rfl) (Nat.le_of_ble_eq_true rfl) ?_
  refine ⟨rfl, rfl, rfl, rfl, ⟨?_, ?_, ?_, hR, ?_, fun p t e => ?_⟩, fun x hx => ?_⟩
  · exact g1.keep (fun k hk => by rw [up2_ne _ _ (Or.inr hk), c1 a (by omega) (by omega), d1 a (by omega), f2 a (by omega), hm2x a (by omega)]) (fun y y1 y2 => by rw [up2_row _ _ (by omega), c1 y (by omega) (by omega), d1 y (by omega), f2 y (by omega), hm2x y (by omega)])
  · exact hT2.keep (by rw [up2_row _ _ (by omega), c1 _ (by omega) (by omega), d1 _ (by omega), f2 _ (by omega)])
  · exact f1.keep hR o3.1 (fun y y1 y2 => by rw [up2_row _ _ (by omega), c1 y (by omega) (by omega), d1 y (by omega)])
  · exact (hS3.2.2.2.2.1.copy o4.1 d2 d3).keep (fun y y1 y2 => by rw [up2_row _ _ (by omega), c1 y (by omega) (by omega)])
  · obtain ⟨w1, w2⟩ := hS4.2.2.2.2.2 p t e
    exact ⟨(w1.copy (o5 p t e).1.2.2.1 c2 c3 c4 c5).keep (up2_row _ _ (by omega)) (up2_row _ _ (by omega)), by rw [up2_same, c1 b (by omega) (by omega)]; exact w2⟩
  · rw [up2_row _ _ (by omega), c1 x (by omega) (by omega), d1 x (by omega), f2 x (by omega), hm2x x (by omega), g2 x (by omega)]
theorem c_begin (hL : LSt sh mr a) (hB : LSt sh mr b) (hab : b + 43 ≤ a ∨ a + 43 ≤ b) {se : Se} (hS : SeC mi b se) (hse : okSe se) (hR : KpR mr (a + 6)) : Mi mX6_beginLike 3 [.ref a, .ref b] z sh mi mr (fun v m => v = none ∧ StC m mr a (se, (fun _ => 0), [], [], none) ∧ Oth mi m a (a + 43)) := by
  obtain ⟨l0, ⟨l1, l2⟩, ⟨l3, l4⟩, ⟨l5, l6⟩, ⟨l7, l8⟩, ⟨l9, l10⟩, ⟨l11, l12⟩, ⟨l13, l14⟩, ⟨l15, l16⟩⟩ := id hL
  have p0 := l8.1
  have p1 := l10.1
  have H : ∀ k i : Nat, ∀ m : MI, i + k = 9 → SeC m a se → Oth mi m a (a + 43) → (∀ w, w < i → m (a + 5) w = nI 0) → Wp yX6_beginLike cX6_beginLike 3 none (EI 3 z sh mr (fun v m => v = none ∧ StC m mr a (se, (fun _ => 0), [], [], none) ∧ Oth mi m a (a + 43))) 0 0 7 [.ref a, .ref b, .int (nI i)] [] z sh m mr := by
    intro k
    induction k with
    | zero =>
      intro i m hi hSe hO hT
      refine r_iload_n 2 dX6_beginLike_7 rfl rfl ?_
      refine r_bipush (v := nI 9) dX6_beginLike_8 (by decide) ?_
      refine r_icmpN_ge 26 dX6_beginLike_10 (by decide) (by omega) (by omega) (fun h10 => ?_) (fun h10 => ?_)
      · refine r_aload_n 0 dX6_beginLike_26 rfl rfl ?_
        refine r_getR dX6_beginLike_27 fl_RX6_38 rfl (by assumption) (by assumption) ?_
        refine r_callVw [] dX6_beginLike_30 ok_RX6_88 ivX0_clear (by assumption) ⟨_, _, rfl⟩ rfl rfl (Nat.le_of_ble_eq_true rfl) (by refine ⟨?_, ?_, ?_, ?_⟩ <;> exact Nat.le_of_ble_eq_true rfl) (c_kpClear l8) ?_
        intro m2 hm2
        refine r_aload_n 0 dX6_beginLike_33 rfl rfl ?_
        refine r_getR dX6_beginLike_34 fl_RX6_45 rfl (by assumption) (by assumption) ?_
        refine r_callVw [] dX6_beginLike_37 ok_RX6_91 ivX1_clear (by assumption) ⟨_, _, rfl⟩ rfl rfl (Nat.le_of_ble_eq_true rfl) (by refine ⟨?_, ?_, ?_, ?_⟩ <;> exact Nat.le_of_ble_eq_true rfl) (c_knClear l10) ?_
        intro m3 hm3
        refine r_vret dX6_beginLike_40 rfl (Nat.le_of_ble_eq_true rfl) (Nat.le_of_ble_eq_true rfl) ?_
        refine ⟨rfl, rfl, rfl, rfl, ⟨?_, fun w hw => ?_, ⟨?_, fun i q hq => by simp at hq⟩, hR, ⟨?_, fun i q hq => by simp at hq⟩, fun p t e => by simp at e⟩, ?_⟩
        · exact hSe.keep (fun k hk => by rw [hm3, hm2, up2_row _ _ (by omega), up2_row _ _ (by omega)]) (fun y y1 y2 => by rw [hm3, hm2, up2_row _ _ (by omega), up2_row _ _ (by omega)])
        · rw [hm3, hm2, up2_row _ _ (by omega), up2_row _ _ (by omega)]; exact hT w (by omega)
        · rw [hm3, hm2, up2_row _ _ (by omega), up2_same]; rfl
        · rw [hm3, up2_same]; rfl
        · rw [hm3, hm2]; exact (hO.up (by omega) (by omega)).up (by omega) (by omega)
      · omega
    | succ k ih =>
      intro i m hi hSe hO hT
      refine r_iload_n 2 dX6_beginLike_7 rfl rfl ?_
      refine r_bipush (v := nI 9) dX6_beginLike_8 (by decide) ?_
      refine r_icmpN_ge 26 dX6_beginLike_10 (by decide) (by omega) (by omega) (fun h10 => ?_) (fun h10 => ?_)
      · omega
      · refine r_aload_n 0 dX6_beginLike_13 rfl rfl ?_
        refine r_getR dX6_beginLike_14 fl_RX6_31 rfl (by assumption) (by assumption) ?_
        refine r_iload_n 2 dX6_beginLike_17 rfl rfl ?_
        refine r_iconst (v := nI 0) dX6_beginLike_18 (by decide) ?_
        refine r_iast dX6_beginLike_19 (by assumption) (by omega) (by omega) ?_
        refine r_iincN 2 (b := 1) (ls2 := [_, _, _]) dX6_beginLike_20 rfl (by decide) (by decide) rfl ?_
        refine r_goto 7 dX6_beginLike_23 (by decide) ?_
        refine ih (i + 1) _ (by omega) (hSe.keep (fun k hk => by rw [up2_row _ _ (by omega)]) (fun y y1 y2 => up2_row _ _ (by omega))) (hO.up (by omega) (by omega)) (fun w hw => ?_)
        by_cases e : w = i
        · subst e; exact up2_same _ _ _ _
        · rw [up2_ne _ _ (Or.inr e)]; exact hT w (by omega)
  refine Mv.of pnX6_beginLike (Nat.le_of_ble_eq_true rfl) rfl ?_
  refine r_aload_n 0 dX6_beginLike_0 rfl rfl ?_
  refine r_aload_n 1 dX6_beginLike_1 rfl rfl ?_
  refine r_callVw [_] dX6_beginLike_2 ok_RX6_65 ivX6_copySettings (by assumption) ⟨_, _, rfl⟩ rfl rfl (Nat.le_of_ble_eq_true rfl) (by refine ⟨?_, ?_, ?_, ?_⟩ <;> exact Nat.le_of_ble_eq_true rfl) (c_setts hL hB hab hS hse) ?_
  intro m1 ⟨g1, g2⟩
  refine r_iconst (v := nI 0) dX6_beginLike_5 (by decide) ?_
  refine r_istore_n 2 (ls2 := [_, _, _]) dX6_beginLike_6 rfl (by decide) (Nat.le_of_ble_eq_true rfl) rfl ?_
  exact H 9 0 m1 rfl g1 (g2.wide (by omega) (by omega)) (fun w hw => by omega)
end COPY
