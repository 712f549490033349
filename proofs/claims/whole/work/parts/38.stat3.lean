section STAT3
variable {z : Nat} {sh : SH} {mi : MI} {mr : MR} {a : Nat}
theorem c_startNo (hL : LSt sh mr a) {st : St} (hS : StC mi mr a st) {now : Nat} (hok : okSt st now) (hnow : now < 2 ^ 28) (hd : duIx st.2.2.1 now = st.2.2.1.length) : Mp mX6_startSending 3 [.ref a, .int (nI now)] z sh mi mr (nI 0) := by
  obtain ⟨l0, ⟨l1, l2⟩, ⟨l3, l4⟩, ⟨l5, l6⟩, ⟨l7, l8⟩, ⟨l9, l10⟩, ⟨l11, l12⟩, ⟨l13, l14⟩, ⟨l15, l16⟩⟩ := id hL
  obtain ⟨k0, k1, k2⟩ := id l8
  obtain ⟨e1, e2, e3, e4, e5, e6⟩ := id hS
  obtain ⟨o1, o2, o3, o4, o5⟩ := id hok
  refine Mv.of pnX6_startSending (Nat.le_of_ble_eq_true rfl) rfl ?_
  refine r_aload_n 0 dX6_startSending_0 rfl rfl ?_
  refine r_getR dX6_startSending_1 fl_RX6_38 rfl (by assumption) (by assumption) ?_
  refine r_iload_n 1 dX6_startSending_4 rfl rfl ?_
  refine r_aload_n 0 dX6_startSending_5 rfl rfl ?_
  refine r_getR dX6_startSending_6 fl_RX6_56 rfl (by assumption) (by assumption) ?_
  refine r_callVp [_, _] dX6_startSending_9 ok_RX6_110 ivX0_takeDue (by assumption) ⟨_, _, rfl⟩ rfl rfl (Nat.le_of_ble_eq_true rfl) (by refine ⟨?_, ?_, ?_, ?_⟩ <;> exact Nat.le_of_ble_eq_true rfl) (c_takeNo l8 e3 o3.1 (fun q hq => by have := (o3.2 q hq).2; omega) (by omega) hd) ?_
  refine r_ifN_ne 17 dX6_startSending_12 (by decide) (by omega) (fun h12 => ?_) (fun h12 => ?_)
  · exact absurd rfl h12
  · refine r_iconst (v := nI 0) dX6_startSending_15 (by decide) ?_
    refine r_zret dX6_startSending_16 rfl (by first | exact b2_nar _ | decide) (Nat.le_of_ble_eq_true rfl) (Nat.le_of_ble_eq_true rfl) ?_
    exact ⟨rfl, rfl, rfl, rfl, rfl⟩
theorem c_startYes (hL : LSt sh mr a) {st : St} (hS : StC mi mr a st) {now : Nat} (hok : okSt st now) (hnow : now < 2 ^ 28) (hd : duIx st.2.2.1 now < st.2.2.1.length) : Mm mX6_startSending 3 [.ref a, .int (nI now)] z sh mi mr (fun v m r => v = some (.int (nI 1)) ∧ StC m r a (aftS st now) ∧ (∀ p, sentP st now = some p → PkC m (a + 39) p) ∧ Oth mi m a (a + 43) ∧ ∀ x, x ≠ a + 7 → r x = mr x) := by
  obtain ⟨l0, ⟨l1, l2⟩, ⟨l3, l4⟩, ⟨l5, l6⟩, ⟨l7, l8⟩, ⟨l9, l10⟩, ⟨l11, l12⟩, ⟨l13, l14⟩, ⟨l15, l16⟩⟩ := id hL
  obtain ⟨k0, k1, k2⟩ := id l8
  obtain ⟨e1, e2, e3, e4, e5, e6⟩ := id hS
  obtain ⟨o1, o2, o3, o4, o5⟩ := id hok
  have t0 := e2 0 (by omega)
  refine Mv.of pnX6_startSending (Nat.le_of_ble_eq_true rfl) rfl ?_
  refine r_aload_n 0 dX6_startSending_0 rfl rfl ?_
  refine r_getR dX6_startSending_1 fl_RX6_38 rfl (by assumption) (by assumption) ?_
  refine r_iload_n 1 dX6_startSending_4 rfl rfl ?_
  refine r_aload_n 0 dX6_startSending_5 rfl rfl ?_
  refine r_getR dX6_startSending_6 fl_RX6_56 rfl (by assumption) (by assumption) ?_
  refine r_callVmx [_, _] dX6_startSending_9 ok_RX6_110 ivX0_takeDue (by assumption) ⟨_, _, rfl⟩ rfl rfl (Nat.le_of_ble_eq_true rfl) (by refine ⟨?_, ?_, ?_, ?_⟩ <;> exact Nat.le_of_ble_eq_true rfl) (c_takeDue l8 l14 (by omega) e3 e4 o3.1 (fun q hq => ⟨(o3.2 q hq).1, by have := (o3.2 q hq).2; omega⟩) (by omega) hd) ?_
  intro m r ⟨g1, g2, g3, g4, g5⟩
  have r6 : r a 6 = some (a + 5) := by rw [g5 a (by omega)]; exact l5
  have m0 : m (a + 5) 0 = nI (st.2.1 0) := by rw [g4 (a + 5) (by omega) (by omega) (by omega)]; exact t0
  refine r_ifN_ne 17 dX6_startSending_12 (by decide) (by omega) (fun h12 => ?_) (fun h12 => ?_)
  · refine r_aload_n 0 dX6_startSending_17 rfl rfl ?_
    refine r_getR dX6_startSending_18 fl_RX6_31 rfl (by assumption) (by assumption) ?_
    refine r_iconst (v := nI 0) dX6_startSending_21 (by decide) ?_
    refine r_dup2 dX6_startSending_22 rfl rfl ?_
    refine r_ialdV dX6_startSending_23 (by assumption) (by omega) (by omega) (by first | assumption | exact up2_same _ _ _ _ | exact (Eq.trans (up2_ne _ _ (by omega)) (by first | assumption | exact up2_same _ _ _ _)) | exact (Eq.trans (up2_ne _ _ (by omega)) (Eq.trans (up2_ne _ _ (by omega)) (by first | assumption | exact up2_same _ _ _ _))) | exact (Eq.trans (up2_ne _ _ (by omega)) (Eq.trans (up2_ne _ _ (by omega)) (Eq.trans (up2_ne _ _ (by omega)) (by first | assumption | exact up2_same _ _ _ _)))) | exact (Eq.trans (up2_ne _ _ (by omega)) (Eq.trans (up2_ne _ _ (by omega)) (Eq.trans (up2_ne _ _ (by omega)) (Eq.trans (up2_ne _ _ (by omega)) (by first | assumption | exact up2_same _ _ _ _))))) | rfl) ?_
    refine r_iconst (v := nI 1) dX6_startSending_24 (by decide) ?_
    refine r_iaddN dX6_startSending_25 ?_
    refine r_iast dX6_startSending_26 (by assumption) (by omega) (by omega) ?_
    refine r_iconst (v := nI 1) dX6_startSending_27 (by decide) ?_
    refine r_zret dX6_startSending_28 rfl (by first | exact b2_nar _ | decide) (Nat.le_of_ble_eq_true rfl) (Nat.le_of_ble_eq_true rfl) ?_
    have hSt : StC m r a (st.1, st.2.1, st.2.2.1.eraseIdx (duIx st.2.2.1 now), st.2.2.2) := ⟨e1.keep (fun k hk => by rw [g4 a (by omega) (by omega) (by omega)]) (fun y y1 y2 => g4 y (by omega) (by omega) (by omega)), e2.keep (g4 _ (by omega) (by omega) (by omega)), g1, g2, e5.keep (fun y y1 y2 => g4 y (by omega) (by omega) (by omega)), e6.keep (by rw [g4 a (by omega) (by omega) (by omega)]) (g4 _ (by omega) (by omega) (by omega)) (g4 _ (by omega) (by omega) (by omega))⟩
    have hlen : (st.2.2.1.eraseIdx (duIx st.2.2.1 now)).length ≤ 12 := Nat.le_trans (List.length_eraseIdx_le _ _) o3.1
    refine ⟨rfl, rfl, rfl, ?_, fun p hp => ?_, fun x hx => ?_, g5⟩
    · have := hSt.tal (w := 0) hlen
      unfold aftS
      rw [if_pos hd]
      exact this
    · unfold sentP at hp
      obtain ⟨q, hq⟩ := gl_ex hd
      rw [hq] at hp
      cases hp
      exact (g3 q hq).keep (up2_row _ _ (by omega)) (up2_row _ _ (by omega))
    · rw [up2_row _ _ (by omega)]; exact g4 x (by omega) (by omega) (by omega)
  · omega
theorem c_hear {b : Nat} (hL : LSt sh mr a) (hB : LPk sh mr b) (hb : b + 2 ≤ a ∨ a + 43 ≤ b) {st : St} (hS : StC mi mr a st) {now : Nat} (hok : okSt st now) (hnow : now < 2 ^ 28) {p : Pk} (hP : PkC mi b p) (hp : okP p) : Mi mX6_hear 3 [.ref a, .ref b, .int (nI now)] z sh mi mr (fun v m => v = none ∧ StC m mr a (hears st p now) ∧ Oth mi m a (a + 43)) := by
  obtain ⟨l0, ⟨l1, l2⟩, ⟨l3, l4⟩, ⟨l5, l6⟩, ⟨l7, l8⟩, ⟨l9, l10⟩, ⟨l11, l12⟩, ⟨l13, l14⟩, ⟨l15, l16⟩⟩ := id hL
  obtain ⟨k0, k1, k2⟩ := id l8
  obtain ⟨q0, q1, q2⟩ := id l10
  obtain ⟨b0, b1, b2'⟩ := id hB
  obtain ⟨c0, c1, c2⟩ := id l16
  obtain ⟨d0, d1, d2⟩ := id l12
  obtain ⟨e1, e2, e3, e4, e5, e6⟩ := id hS
  obtain ⟨o1, o2, o3, o4, o5⟩ := id hok
  have hkl := o3.1
  have hol : (knOld st.2.2.2.1 now st.1.2.2.2.2.2).length ≤ 16 := Nat.le_trans (List.length_filter_le _ _) o4.1
  have hoq : ∀ q ∈ knOld st.2.2.2.1 now st.1.2.2.2.2.2, okL 3 q.1 ∧ okL 4 q.2.1 := fun q hq => by
    have := o4.2.1 q (List.mem_filter.mp hq).1
    exact ⟨this.1, this.2.1⟩
  obtain ⟨s1, hs1⟩ : ∃ s1 : St, s1 = (st.1, bump st.2.1 1, st.2.2.1, knOld st.2.2.2.1 now st.1.2.2.2.2.2, some (p, now)) := ⟨_, rfl⟩
  have hhe : hears st p now = look s1 p now := by rw [hs1]; rfl
  have u1 : s1.1 = st.1 := by rw [hs1]
  have u3 : s1.2.2.1 = st.2.2.1 := by rw [hs1]
  have u4 : s1.2.2.2.1 = knOld st.2.2.2.1 now st.1.2.2.2.2.2 := by rw [hs1]
  have uT : ∀ w, w < 9 → s1.2.1 w ≤ now + 1 := fun w hw => by
    rw [hs1]; show bump st.2.1 1 w ≤ _
    unfold bump
    have := o2 w hw
    split <;> omega
  have uC : okL 3 s1.1.1 := by rw [u1]; exact o1.1
  have uS : okSe s1.1 := by rw [u1]; exact o1
  have uL : s1.2.2.1.length ≤ 12 := by rw [u3]; exact hkl
  rw [hhe]
  have T : ∀ {m : MI} {s2 : St}, StC m mr a s2 → s2.2.1 = s1.2.1 → ∀ w, w < 9 → m (a + 5) w = nI (s1.2.1 w) := fun h e w hw => by rw [← e]; exact h.2.1 w hw
  -- what is known has been added: s2 stands for the station with it
  have K112 : ∀ (m : MI), StC m mr a (s1.1, s1.2.1, s1.2.2.1, knAdd s1.2.2.2.1 p now, s1.2.2.2.2) → PkC m b p → Oth mi m a (a + 43) → ¬ ownP s1.1.1 p = true → ¬ knIx s1.2.2.2.1 p < s1.2.2.2.1.length → unIx p.2.2 < p.2.2.length → Wp yX6_hear cX6_hear 4 none (EI 3 z sh mr (fun v m => v = none ∧ StC m mr a (look s1 p now) ∧ Oth mi m a (a + 43))) 0 0 112 [.ref a, .ref b, .int (nI now), .int (nI (unIx p.2.2))] [] z sh m mr := by
    intro m hSt hPm hO hown hkn hun
    obtain ⟨w, hw, hwu⟩ := fi_lt (l := p.2.2) (p := fun w => !w.2.2) hun
    have hw : p.2.2[unIx p.2.2]? = some w := hw
    cases hc : chg s1.1 p (unIx p.2.2) with
    | none =>
      have hlook : look s1 p now = (s1.1, bump s1.2.1 6, s1.2.2.1, knAdd s1.2.2.2.1 p now, s1.2.2.2.2) := by unfold look; rw [if_neg hown, if_neg hkn, if_neg (by omega), hc]
      refine r_aload_n 0 dX6_hear_112 rfl rfl ?_
      refine r_getR dX6_hear_113 fl_RX6_59 rfl (by assumption) (by assumption) ?_
      refine r_aload_n 1 dX6_hear_116 rfl rfl ?_
      refine r_callVw [_] dX6_hear_117 ok_RX6_82 ivX4_copyFrom (by assumption) ⟨_, _, rfl⟩ rfl rfl (Nat.le_of_ble_eq_true rfl) (by refine ⟨?_, ?_, ?_, ?_⟩ <;> exact Nat.le_of_ble_eq_true rfl) (c_copyPk l16 hB) ?_
      intro m2 ⟨g1, g2, g3, g4, g5⟩
      have hSt2 := hSt.aux uL (m1 := m2) (fun x hx => g1 x (by omega) (by omega))
      refine r_aload_n 0 dX6_hear_120 rfl rfl ?_
      refine r_aload_n 0 dX6_hear_121 rfl rfl ?_
      refine r_getR dX6_hear_122 fl_RX6_59 rfl (by assumption) (by assumption) ?_
      refine r_iload_n 3 dX6_hear_125 rfl rfl ?_
      refine r_callVi [_, _] dX6_hear_126 ok_RX6_126 ivX6_changeIfMeant (by assumption) ⟨_, _, rfl⟩ rfl rfl (Nat.le_of_ble_eq_true rfl) (by refine ⟨?_, ?_, ?_, ?_⟩ <;> exact Nat.le_of_ble_eq_true rfl) (c_change hL l16 hSt2.1 uS (hPm.copy hp.2.2.1 g2 g3 g4 g5) hp hw) ?_
      intro v m3 h
      rw [show chg (s1.1, s1.2.1, s1.2.2.1, knAdd s1.2.2.2.1 p now, s1.2.2.2.2).1 p (unIx p.2.2) = none from hc] at h
      obtain ⟨h1, rfl⟩ := h
      have hSt3 := hSt2.aux uL (m1 := m3) (fun x hx => h1 x (by omega) (by omega))
      have t6 := T hSt3 rfl 6 (by omega)
      refine r_ifN_ne 144 dX6_hear_129 (by decide) (by omega) (fun h129 => ?_) (fun h129 => ?_)
      · exact absurd rfl h129
      · refine r_aload_n 0 dX6_hear_132 rfl rfl ?_
        refine r_getR dX6_hear_133 fl_RX6_31 rfl (by assumption) (by assumption) ?_
        refine r_bipush (v := nI 6) dX6_hear_136 (by decide) ?_
        refine r_dup2 dX6_hear_138 rfl rfl ?_
        refine r_ialdV dX6_hear_139 (by assumption) (by omega) (by omega) (by first | assumption | exact up2_same _ _ _ _ | exact (Eq.trans (up2_ne _ _ (by omega)) (by first | assumption | exact up2_same _ _ _ _)) | exact (Eq.trans (up2_ne _ _ (by omega)) (Eq.trans (up2_ne _ _ (by omega)) (by first | assumption | exact up2_same _ _ _ _))) | exact (Eq.trans (up2_ne _ _ (by omega)) (Eq.trans (up2_ne _ _ (by omega)) (Eq.trans (up2_ne _ _ (by omega)) (by first | assumption | exact up2_same _ _ _ _)))) | exact (Eq.trans (up2_ne _ _ (by omega)) (Eq.trans (up2_ne _ _ (by omega)) (Eq.trans (up2_ne _ _ (by omega)) (Eq.trans (up2_ne _ _ (by omega)) (by first | assumption | exact up2_same _ _ _ _))))) | rfl) ?_
        refine r_iconst (v := nI 1) dX6_hear_140 (by decide) ?_
        refine r_iaddN dX6_hear_141 ?_
        refine r_iast dX6_hear_142 (by assumption) (by omega) (by omega) ?_
        refine r_vret dX6_hear_143 rfl (Nat.le_of_ble_eq_true rfl) (Nat.le_of_ble_eq_true rfl) ?_
        refine ⟨rfl, rfl, rfl, rfl, by rw [hlook]; exact hSt3.tal (w := 6) uL, fun x hx => ?_⟩
        rw [up2_row _ _ (by omega), h1 x (by omega) (by omega), g1 x (by omega) (by omega)]; exact hO x hx
    | some p' =>
      have hlook : look s1 p now = if s1.2.2.1.length < 12 then (s1.1, bump s1.2.1 5, s1.2.2.1 ++ [(p', now + s1.1.2.2.2.2.1)], knAdd s1.2.2.2.1 p now, s1.2.2.2.2) else (s1.1, bump (bump s1.2.1 5) 8, s1.2.2.1, knAdd s1.2.2.2.1 p now, s1.2.2.2.2) := by unfold look; rw [if_neg hown, if_neg hkn, if_neg (by omega), hc]
      have K144 : ∀ m3 : MI, StC m3 mr a (s1.1, s1.2.1, s1.2.2.1, knAdd s1.2.2.2.1 p now, s1.2.2.2.2) → PkC m3 (a + 41) p' → okP p' → Oth mi m3 a (a + 43) → Wp yX6_hear cX6_hear 4 none (EI 3 z sh mr (fun v m => v = none ∧ StC m mr a (look s1 p now) ∧ Oth mi m a (a + 43))) 0 0 144 [.ref a, .ref b, .int (nI now), .int (nI (unIx p.2.2))] [] z sh m3 mr := by
        intro m3 hSt3 hP3 hp' hO3
        have t5 := T hSt3 rfl 5 (by omega)
        have hSt4 := hSt3.tal (w := 5) uL
        obtain ⟨m4, hm4⟩ : ∃ m4, m4 = up2 m3 (a + 5) 5 (nI (s1.2.1 5 + 1)) := ⟨_, rfl⟩
        have hSt4 : StC m4 mr a (s1.1, bump s1.2.1 5, s1.2.2.1, knAdd s1.2.2.2.1 p now, s1.2.2.2.2) := by rw [hm4]; exact hSt4
        have hO4 : Oth mi m4 a (a + 43) := by rw [hm4]; exact hO3.up (by omega) (by omega)
        have hP4 : PkC m4 (a + 41) p' := by rw [hm4]; exact hP3.keep (up2_row _ _ (by omega)) (up2_row _ _ (by omega))
        have hde : m4 a 4 = nI s1.1.2.2.2.2.1 := hSt4.1.2.2.2.2.1
        have hkk : m4 (a + 6) 2 = nI s1.2.2.1.length := hSt4.2.2.1.1
        have t8 : m4 (a + 5) 8 = nI (s1.2.1 8) := by rw [hm4, up2_ne _ _ (Or.inr (by omega))]; exact T hSt3 rfl 8 (by omega)
        by_cases h12 : s1.2.2.1.length < 12
        · rw [if_pos h12] at hlook
          refine r_aload_n 0 dX6_hear_144 rfl rfl ?_
          refine r_getR dX6_hear_145 fl_RX6_31 rfl (by assumption) (by assumption) ?_
          refine r_iconst (v := nI 5) dX6_hear_148 (by decide) ?_
          refine r_dup2 dX6_hear_149 rfl rfl ?_
          refine r_ialdV dX6_hear_150 (by assumption) (by omega) (by omega) (by first | assumption | exact up2_same _ _ _ _ | exact (Eq.trans (up2_ne _ _ (by omega)) (by first | assumption | exact up2_same _ _ _ _)) | exact (Eq.trans (up2_ne _ _ (by omega)) (Eq.trans (up2_ne _ _ (by omega)) (by first | assumption | exact up2_same _ _ _ _))) | exact (Eq.trans (up2_ne _ _ (by omega)) (Eq.trans (up2_ne _ _ (by omega)) (Eq.trans (up2_ne _ _ (by omega)) (by first | assumption | exact up2_same _ _ _ _)))) | exact (Eq.trans (up2_ne _ _ (by omega)) (Eq.trans (up2_ne _ _ (by omega)) (Eq.trans (up2_ne _ _ (by omega)) (Eq.trans (up2_ne _ _ (by omega)) (by first | assumption | exact up2_same _ _ _ _))))) | rfl) ?_
          refine r_iconst (v := nI 1) dX6_hear_151 (by decide) ?_
          refine r_iaddN dX6_hear_152 ?_
          refine r_iast dX6_hear_153 (by assumption) (by omega) (by omega) ?_
          rw [← hm4]
          refine r_aload_n 0 dX6_hear_154 rfl rfl ?_
          refine r_getR dX6_hear_155 fl_RX6_38 rfl (by assumption) (by assumption) ?_
          refine r_aload_n 0 dX6_hear_158 rfl rfl ?_
          refine r_getR dX6_hear_159 fl_RX6_59 rfl (by assumption) (by assumption) ?_
          refine r_iload_n 2 dX6_hear_162 rfl rfl ?_
          refine r_aload_n 0 dX6_hear_163 rfl rfl ?_
          refine r_getV dX6_hear_164 fl_RX6_25 rfl (by assumption) (by first | assumption | exact up2_same _ _ _ _ | exact (Eq.trans (up2_ne _ _ (by omega)) (by first | assumption | exact up2_same _ _ _ _)) | exact (Eq.trans (up2_ne _ _ (by omega)) (Eq.trans (up2_ne _ _ (by omega)) (by first | assumption | exact up2_same _ _ _ _))) | exact (Eq.trans (up2_ne _ _ (by omega)) (Eq.trans (up2_ne _ _ (by omega)) (Eq.trans (up2_ne _ _ (by omega)) (by first | assumption | exact up2_same _ _ _ _)))) | exact (Eq.trans (up2_ne _ _ (by omega)) (Eq.trans (up2_ne _ _ (by omega)) (Eq.trans (up2_ne _ _ (by omega)) (Eq.trans (up2_ne _ _ (by omega)) (by first | assumption | exact up2_same _ _ _ _))))) | rfl) ?_
          refine r_iaddN dX6_hear_167 ?_
          refine r_callVx [_, _] dX6_hear_168 ok_RX6_95 ivX0_add (by assumption) ⟨_, _, rfl⟩ rfl rfl (Nat.le_of_ble_eq_true rfl) (by refine ⟨?_, ?_, ?_, ?_⟩ <;> exact Nat.le_of_ble_eq_true rfl) (c_kpAdd l8 l16 (by omega) hSt4.2.2.1 e4 h12 hP4 hp'.2.2.1) ?_
          intro m5 ⟨g1, g2⟩
          refine r_ifN_ne 185 dX6_hear_171 (by decide) (by omega) (fun h171 => ?_) (fun h171 => ?_)
          · refine r_vret dX6_hear_185 rfl (Nat.le_of_ble_eq_true rfl) (Nat.le_of_ble_eq_true rfl) ?_
            exact ⟨rfl, rfl, rfl, rfl, by rw [hlook]; exact hSt4.kp (mr1 := mr) (g2.wide (by omega) (by omega)) g1 e4, hO4.trans (g2.wide (by omega) (by omega))⟩
          · omega
        · rw [if_neg h12] at hlook
          refine r_aload_n 0 dX6_hear_144 rfl rfl ?_
          refine r_getR dX6_hear_145 fl_RX6_31 rfl (by assumption) (by assumption) ?_
          refine r_iconst (v := nI 5) dX6_hear_148 (by decide) ?_
          refine r_dup2 dX6_hear_149 rfl rfl ?_
          refine r_ialdV dX6_hear_150 (by assumption) (by omega) (by omega) (by first | assumption | exact up2_same _ _ _ _ | exact (Eq.trans (up2_ne _ _ (by omega)) (by first | assumption | exact up2_same _ _ _ _)) | exact (Eq.trans (up2_ne _ _ (by omega)) (Eq.trans (up2_ne _ _ (by omega)) (by first | assumption | exact up2_same _ _ _ _))) | exact (Eq.trans (up2_ne _ _ (by omega)) (Eq.trans (up2_ne _ _ (by omega)) (Eq.trans (up2_ne _ _ (by omega)) (by first | assumption | exact up2_same _ _ _ _)))) | exact (Eq.trans (up2_ne _ _ (by omega)) (Eq.trans (up2_ne _ _ (by omega)) (Eq.trans (up2_ne _ _ (by omega)) (Eq.trans (up2_ne _ _ (by omega)) (by first | assumption | exact up2_same _ _ _ _))))) | rfl) ?_
          refine r_iconst (v := nI 1) dX6_hear_151 (by decide) ?_
          refine r_iaddN dX6_hear_152 ?_
          refine r_iast dX6_hear_153 (by assumption) (by omega) (by omega) ?_
          rw [← hm4]
          refine r_aload_n 0 dX6_hear_154 rfl rfl ?_
          refine r_getR dX6_hear_155 fl_RX6_38 rfl (by assumption) (by assumption) ?_
          refine r_aload_n 0 dX6_hear_158 rfl rfl ?_
          refine r_getR dX6_hear_159 fl_RX6_59 rfl (by assumption) (by assumption) ?_
          refine r_iload_n 2 dX6_hear_162 rfl rfl ?_
          refine r_aload_n 0 dX6_hear_163 rfl rfl ?_
          refine r_getV dX6_hear_164 fl_RX6_25 rfl (by assumption) (by first | assumption | exact up2_same _ _ _ _ | exact (Eq.trans (up2_ne _ _ (by omega)) (by first | assumption | exact up2_same _ _ _ _)) | exact (Eq.trans (up2_ne _ _ (by omega)) (Eq.trans (up2_ne _ _ (by omega)) (by first | assumption | exact up2_same _ _ _ _))) | exact (Eq.trans (up2_ne _ _ (by omega)) (Eq.trans (up2_ne _ _ (by omega)) (Eq.trans (up2_ne _ _ (by omega)) (by first | assumption | exact up2_same _ _ _ _)))) | exact (Eq.trans (up2_ne _ _ (by omega)) (Eq.trans (up2_ne _ _ (by omega)) (Eq.trans (up2_ne _ _ (by omega)) (Eq.trans (up2_ne _ _ (by omega)) (by first | assumption | exact up2_same _ _ _ _))))) | rfl) ?_
          refine r_iaddN dX6_hear_167 ?_
          refine r_callVx [_, _] dX6_hear_168 ok_RX6_95 ivX0_add (by assumption) ⟨_, _, rfl⟩ rfl rfl (Nat.le_of_ble_eq_true rfl) (by refine ⟨?_, ?_, ?_, ?_⟩ <;> exact Nat.le_of_ble_eq_true rfl) (c_kpFull l8 hkk (by omega) (by omega)) ?_
          intro m5 hm5
          subst hm5
          refine r_ifN_ne 185 dX6_hear_171 (by decide) (by omega) (fun h171 => ?_) (fun h171 => ?_)
          · first | exact absurd rfl h171 | (refine r_vret dX6_hear_185 rfl (Nat.le_refl _) (Nat.le_refl _) ?_; refine ⟨rfl, rfl, rfl, rfl, ?_, hO4.up (by omega) (by omega)⟩; rw [hlook]; have := hSt4.tal (w := 8) uL; rw [show (s1.1, bump s1.2.1 5, s1.2.2.1, knAdd s1.2.2.2.1 p now, s1.2.2.2.2).2.1 8 = s1.2.1 8 from rfl] at this; exact this)
          · refine r_aload_n 0 dX6_hear_174 rfl rfl ?_
            refine r_getR dX6_hear_175 fl_RX6_31 rfl (by assumption) (by assumption) ?_
            refine r_bipush (v := nI 8) dX6_hear_178 (by decide) ?_
            refine r_dup2 dX6_hear_180 rfl rfl ?_
            refine r_ialdV dX6_hear_181 (by assumption) (by omega) (by omega) (by first | assumption | exact up2_same _ _ _ _ | exact (Eq.trans (up2_ne _ _ (by omega)) (by first | assumption | exact up2_same _ _ _ _)) | exact (Eq.trans (up2_ne _ _ (by omega)) (Eq.trans (up2_ne _ _ (by omega)) (by first | assumption | exact up2_same _ _ _ _))) | exact (Eq.trans (up2_ne _ _ (by omega)) (Eq.trans (up2_ne _ _ (by omega)) (Eq.trans (up2_ne _ _ (by omega)) (by first | assumption | exact up2_same _ _ _ _)))) | exact (Eq.trans (up2_ne _ _ (by omega)) (Eq.trans (up2_ne _ _ (by omega)) (Eq.trans (up2_ne _ _ (by omega)) (Eq.trans (up2_ne _ _ (by omega)) (by first | assumption | exact up2_same _ _ _ _))))) | rfl) ?_
            refine r_iconst (v := nI 1) dX6_hear_182 (by decide) ?_
            refine r_iaddN dX6_hear_183 ?_
            refine r_iast dX6_hear_184 (by assumption) (by omega) (by omega) ?_
            first | exact absurd rfl h171 | (refine r_vret dX6_hear_185 rfl (Nat.le_refl _) (Nat.le_refl _) ?_; refine ⟨rfl, rfl, rfl, rfl, ?_, hO4.up (by omega) (by omega)⟩; rw [hlook]; have := hSt4.tal (w := 8) uL; rw [show (s1.1, bump s1.2.1 5, s1.2.2.1, knAdd s1.2.2.2.1 p now, s1.2.2.2.2).2.1 8 = s1.2.1 8 from rfl] at this; exact this)
      refine r_aload_n 0 dX6_hear_112 rfl rfl ?_
      refine r_getR dX6_hear_113 fl_RX6_59 rfl (by assumption) (by assumption) ?_
      refine r_aload_n 1 dX6_hear_116 rfl rfl ?_
      refine r_callVw [_] dX6_hear_117 ok_RX6_82 ivX4_copyFrom (by assumption) ⟨_, _, rfl⟩ rfl rfl (Nat.le_of_ble_eq_true rfl) (by refine ⟨?_, ?_, ?_, ?_⟩ <;> exact Nat.le_of_ble_eq_true rfl) (c_copyPk l16 hB) ?_
      intro m2 ⟨g1, g2, g3, g4, g5⟩
      have hSt2 := hSt.aux uL (m1 := m2) (fun x hx => g1 x (by omega) (by omega))
      refine r_aload_n 0 dX6_hear_120 rfl rfl ?_
      refine r_aload_n 0 dX6_hear_121 rfl rfl ?_
      refine r_getR dX6_hear_122 fl_RX6_59 rfl (by assumption) (by assumption) ?_
      refine r_iload_n 3 dX6_hear_125 rfl rfl ?_
      refine r_callVi [_, _] dX6_hear_126 ok_RX6_126 ivX6_changeIfMeant (by assumption) ⟨_, _, rfl⟩ rfl rfl (Nat.le_of_ble_eq_true rfl) (by refine ⟨?_, ?_, ?_, ?_⟩ <;> exact Nat.le_of_ble_eq_true rfl) (c_change hL l16 hSt2.1 uS (hPm.copy hp.2.2.1 g2 g3 g4 g5) hp hw) ?_
      intro v m3 h
      rw [show chg (s1.1, s1.2.1, s1.2.2.1, knAdd s1.2.2.2.1 p now, s1.2.2.2.2).1 p (unIx p.2.2) = some p' from hc] at h
      obtain ⟨h1, rfl, h2, h3⟩ := h
      have hSt3 := hSt2.aux uL (m1 := m3) (fun x hx => h1 x (by omega) (by omega))
      have hO3 : Oth mi m3 a (a + 43) := fun x hx => by rw [h1 x (by omega) (by omega), g1 x (by omega) (by omega)]; exact hO x hx
      refine r_ifN_ne 144 dX6_hear_129 (by decide) (by omega) (fun h129 => ?_) (fun h129 => ?_)
      · exact K144 m3 hSt3 h2 h3 hO3
      · omega
  have K57 : ∀ (m : MI), StC m mr a s1 → PkC m b p → Oth mi m a (a + 43) → ¬ ownP s1.1.1 p = true → Wp yX6_hear cX6_hear 4 none (EI 3 z sh mr (fun v m => v = none ∧ StC m mr a (look s1 p now) ∧ Oth mi m a (a + 43))) 0 0 57 [.ref a, .ref b, .int (nI now)] [] z sh m mr := by
    intro m hSt hPm hO hown
    have hpl := c_placeOf (z := z) l10 hB hSt.2.2.2.2.1 (by rw [u4]; exact hol) (fun q hq => hoq q (by rw [← u4]; exact hq)) hPm hp
    have t3 := T hSt rfl 3 (by omega)
    by_cases hk : knIx s1.2.2.2.1 p < s1.2.2.2.1.length
    · rw [if_pos hk] at hpl
      have hlook : look s1 p now = (s1.1, bump s1.2.1 3, s1.2.2) := by unfold look; rw [if_neg hown, if_pos hk]
      have hkl2 : s1.2.2.2.1.length ≤ 16 := by rw [u4]; exact hol
      refine r_aload_n 0 dX6_hear_57 rfl rfl ?_
      refine r_getR dX6_hear_58 fl_RX6_45 rfl (by assumption) (by assumption) ?_
      refine r_aload_n 1 dX6_hear_61 rfl rfl ?_
      refine r_callVp [_] dX6_hear_62 ok_RX6_99 ivX1_placeOf (by assumption) ⟨_, _, rfl⟩ rfl rfl (Nat.le_of_ble_eq_true rfl) (by refine ⟨?_, ?_, ?_, ?_⟩ <;> exact Nat.le_of_ble_eq_true rfl) (hpl) ?_
      refine r_bipush (v := -6) dX6_hear_65 (by decide) ?_
      refine r_icmp_eq 81 dX6_hear_67 (by decide) (fun h67 => ?_) (fun h67 => ?_)
      · exact absurd h67 (nI_ne6 (by omega))
      · refine r_aload_n 0 dX6_hear_70 rfl rfl ?_
        refine r_getR dX6_hear_71 fl_RX6_31 rfl (by assumption) (by assumption) ?_
        refine r_iconst (v := nI 3) dX6_hear_74 (by decide) ?_
        refine r_dup2 dX6_hear_75 rfl rfl ?_
        refine r_ialdV dX6_hear_76 (by assumption) (by omega) (by omega) (by first | assumption | exact up2_same _ _ _ _ | exact (Eq.trans (up2_ne _ _ (by omega)) (by first | assumption | exact up2_same _ _ _ _)) | exact (Eq.trans (up2_ne _ _ (by omega)) (Eq.trans (up2_ne _ _ (by omega)) (by first | assumption | exact up2_same _ _ _ _))) | exact (Eq.trans (up2_ne _ _ (by omega)) (Eq.trans (up2_ne _ _ (by omega)) (Eq.trans (up2_ne _ _ (by omega)) (by first | assumption | exact up2_same _ _ _ _)))) | exact (Eq.trans (up2_ne _ _ (by omega)) (Eq.trans (up2_ne _ _ (by omega)) (Eq.trans (up2_ne _ _ (by omega)) (Eq.trans (up2_ne _ _ (by omega)) (by first | assumption | exact up2_same _ _ _ _))))) | rfl) ?_
        refine r_iconst (v := nI 1) dX6_hear_77 (by decide) ?_
        refine r_iaddN dX6_hear_78 ?_
        refine r_iast dX6_hear_79 (by assumption) (by omega) (by omega) ?_
        refine r_vret dX6_hear_80 rfl (Nat.le_of_ble_eq_true rfl) (Nat.le_of_ble_eq_true rfl) ?_
        exact ⟨rfl, rfl, rfl, rfl, by rw [hlook]; exact hSt.tal (w := 3) uL, hO.up (by omega) (by omega)⟩
    · rw [if_neg hk] at hpl
      have hfu := fun (m2 : MI) (h : PkC m2 b p) => c_firstUnspent (z := z) (sh := sh) (mr := mr) hB h hp
      by_cases hu : unIx p.2.2 < p.2.2.length
      · skip
        refine r_aload_n 0 dX6_hear_57 rfl rfl ?_
        refine r_getR dX6_hear_58 fl_RX6_45 rfl (by assumption) (by assumption) ?_
        refine r_aload_n 1 dX6_hear_61 rfl rfl ?_
        refine r_callVp [_] dX6_hear_62 ok_RX6_99 ivX1_placeOf (by assumption) ⟨_, _, rfl⟩ rfl rfl (Nat.le_of_ble_eq_true rfl) (by refine ⟨?_, ?_, ?_, ?_⟩ <;> exact Nat.le_of_ble_eq_true rfl) (hpl) ?_
        refine r_bipush (v := -6) dX6_hear_65 (by decide) ?_
        refine r_icmp_eq 81 dX6_hear_67 (by decide) (fun h67 => ?_) (fun h67 => ?_)
        · refine r_aload_n 0 dX6_hear_81 rfl rfl ?_
          refine r_getR dX6_hear_82 fl_RX6_45 rfl (by assumption) (by assumption) ?_
          refine r_aload_n 1 dX6_hear_85 rfl rfl ?_
          refine r_iload_n 2 dX6_hear_86 rfl rfl ?_
          refine r_callVw [_, _] dX6_hear_87 ok_RX6_107 ivX1_add (by assumption) ⟨_, _, rfl⟩ rfl rfl (Nat.le_of_ble_eq_true rfl) (by refine ⟨?_, ?_, ?_, ?_⟩ <;> exact Nat.le_of_ble_eq_true rfl) (c_knAdd l10 hB hSt.2.2.2.2.1 (by rw [u4]; exact hol) hPm) ?_
          intro m2 ⟨g1, g2⟩
          have hSt2 := hSt.kn uL g2 g1
          have hPm2 : PkC m2 b p := hPm.keep (g2 b (by omega)) (g2 (b + 1) (by omega))
          have hf := hfu m2 hPm2
          rw [if_pos hu] at hf
          refine r_aload_n 1 dX6_hear_90 rfl rfl ?_
          refine r_callVp [] dX6_hear_91 ok_RX6_122 ivX4_firstUnspent (by assumption) ⟨_, _, rfl⟩ rfl rfl (Nat.le_of_ble_eq_true rfl) (by refine ⟨?_, ?_, ?_, ?_⟩ <;> exact Nat.le_of_ble_eq_true rfl) (hf) ?_
          refine r_istore_n 3 (ls2 := [_, _, _, _]) dX6_hear_94 rfl (by decide) (Nat.le_of_ble_eq_true rfl) rfl ?_
          refine r_iload_n 3 dX6_hear_95 rfl rfl ?_
          refine r_bipush (v := -6) dX6_hear_96 (by decide) ?_
          refine r_icmp_ne 112 dX6_hear_98 (by decide) (fun h98 => ?_) (fun h98 => ?_)
          · exact K112 m2 hSt2 hPm2 (hO.trans (g2.wide (by omega) (by omega))) hown hk hu
          · exact absurd h98 (nI_ne6 (by have := hp.2.2.1; omega))
        · exact absurd rfl h67
      · have hul : unIx p.2.2 = p.2.2.length := by have := List.findIdx_le_length (p := fun w : Wd => !w.2.2) (xs := p.2.2); unfold unIx at hu ⊢; omega
        have hlook : look s1 p now = (s1.1, bump s1.2.1 4, s1.2.2.1, knAdd s1.2.2.2.1 p now, s1.2.2.2.2) := by unfold look; rw [if_neg hown, if_neg hk, if_pos hul]
        refine r_aload_n 0 dX6_hear_57 rfl rfl ?_
        refine r_getR dX6_hear_58 fl_RX6_45 rfl (by assumption) (by assumption) ?_
        refine r_aload_n 1 dX6_hear_61 rfl rfl ?_
        refine r_callVp [_] dX6_hear_62 ok_RX6_99 ivX1_placeOf (by assumption) ⟨_, _, rfl⟩ rfl rfl (Nat.le_of_ble_eq_true rfl) (by refine ⟨?_, ?_, ?_, ?_⟩ <;> exact Nat.le_of_ble_eq_true rfl) (hpl) ?_
        refine r_bipush (v := -6) dX6_hear_65 (by decide) ?_
        refine r_icmp_eq 81 dX6_hear_67 (by decide) (fun h67 => ?_) (fun h67 => ?_)
        · refine r_aload_n 0 dX6_hear_81 rfl rfl ?_
          refine r_getR dX6_hear_82 fl_RX6_45 rfl (by assumption) (by assumption) ?_
          refine r_aload_n 1 dX6_hear_85 rfl rfl ?_
          refine r_iload_n 2 dX6_hear_86 rfl rfl ?_
          refine r_callVw [_, _] dX6_hear_87 ok_RX6_107 ivX1_add (by assumption) ⟨_, _, rfl⟩ rfl rfl (Nat.le_of_ble_eq_true rfl) (by refine ⟨?_, ?_, ?_, ?_⟩ <;> exact Nat.le_of_ble_eq_true rfl) (c_knAdd l10 hB hSt.2.2.2.2.1 (by rw [u4]; exact hol) hPm) ?_
          intro m2 ⟨g1, g2⟩
          have hSt2 := hSt.kn uL g2 g1
          have hPm2 : PkC m2 b p := hPm.keep (g2 b (by omega)) (g2 (b + 1) (by omega))
          have hf := hfu m2 hPm2
          rw [if_neg hu] at hf
          have t4 := T hSt2 rfl 4 (by omega)
          refine r_aload_n 1 dX6_hear_90 rfl rfl ?_
          refine r_callVp [] dX6_hear_91 ok_RX6_122 ivX4_firstUnspent (by assumption) ⟨_, _, rfl⟩ rfl rfl (Nat.le_of_ble_eq_true rfl) (by refine ⟨?_, ?_, ?_, ?_⟩ <;> exact Nat.le_of_ble_eq_true rfl) (hf) ?_
          refine r_istore_n 3 (ls2 := [_, _, _, _]) dX6_hear_94 rfl (by decide) (Nat.le_of_ble_eq_true rfl) rfl ?_
          refine r_iload_n 3 dX6_hear_95 rfl rfl ?_
          refine r_bipush (v := -6) dX6_hear_96 (by decide) ?_
          refine r_icmp_ne 112 dX6_hear_98 (by decide) (fun h98 => ?_) (fun h98 => ?_)
          · exact absurd rfl h98
          · refine r_aload_n 0 dX6_hear_101 rfl rfl ?_
            refine r_getR dX6_hear_102 fl_RX6_31 rfl (by assumption) (by assumption) ?_
            refine r_iconst (v := nI 4) dX6_hear_105 (by decide) ?_
            refine r_dup2 dX6_hear_106 rfl rfl ?_
            refine r_ialdV dX6_hear_107 (by assumption) (by omega) (by omega) (by first | assumption | exact up2_same _ _ _ _ | exact (Eq.trans (up2_ne _ _ (by omega)) (by first | assumption | exact up2_same _ _ _ _)) | exact (Eq.trans (up2_ne _ _ (by omega)) (Eq.trans (up2_ne _ _ (by omega)) (by first | assumption | exact up2_same _ _ _ _))) | exact (Eq.trans (up2_ne _ _ (by omega)) (Eq.trans (up2_ne _ _ (by omega)) (Eq.trans (up2_ne _ _ (by omega)) (by first | assumption | exact up2_same _ _ _ _)))) | exact (Eq.trans (up2_ne _ _ (by omega)) (Eq.trans (up2_ne _ _ (by omega)) (Eq.trans (up2_ne _ _ (by omega)) (Eq.trans (up2_ne _ _ (by omega)) (by first | assumption | exact up2_same _ _ _ _))))) | rfl) ?_
            refine r_iconst (v := nI 1) dX6_hear_108 (by decide) ?_
            refine r_iaddN dX6_hear_109 ?_
            refine r_iast dX6_hear_110 (by assumption) (by omega) (by omega) ?_
            refine r_vret dX6_hear_111 rfl (Nat.le_of_ble_eq_true rfl) (Nat.le_of_ble_eq_true rfl) ?_
            exact ⟨rfl, rfl, rfl, rfl, by rw [hlook]; exact hSt2.tal (w := 4) uL, (hO.trans (g2.wide (by omega) (by omega))).up (by omega) (by omega)⟩
        · exact absurd rfl h67
  have K35 : ∀ (m : MI), StC m mr a s1 → PkC m b p → Oth mi m a (a + 43) → Wp yX6_hear cX6_hear 4 none (EI 3 z sh mr (fun v m => v = none ∧ StC m mr a (look s1 p now) ∧ Oth mi m a (a + 43))) 0 0 35 [.ref a, .ref b, .int (nI now)] [] z sh m mr := by
    intro m hSt hPm hO
    have hca : m a 0 = nI (en 32 s1.1.1) := hSt.1.1
    have t2 := T hSt rfl 2 (by omega)
    refine r_aload_n 1 dX6_hear_35 rfl rfl ?_
    refine r_aload_n 0 dX6_hear_36 rfl rfl ?_
    refine r_getV dX6_hear_37 fl_RX6_62 rfl (by assumption) (by first | assumption | exact up2_same _ _ _ _ | exact (Eq.trans (up2_ne _ _ (by omega)) (by first | assumption | exact up2_same _ _ _ _)) | exact (Eq.trans (up2_ne _ _ (by omega)) (Eq.trans (up2_ne _ _ (by omega)) (by first | assumption | exact up2_same _ _ _ _))) | exact (Eq.trans (up2_ne _ _ (by omega)) (Eq.trans (up2_ne _ _ (by omega)) (Eq.trans (up2_ne _ _ (by omega)) (by first | assumption | exact up2_same _ _ _ _)))) | exact (Eq.trans (up2_ne _ _ (by omega)) (Eq.trans (up2_ne _ _ (by omega)) (Eq.trans (up2_ne _ _ (by omega)) (Eq.trans (up2_ne _ _ (by omega)) (by first | assumption | exact up2_same _ _ _ _))))) | rfl) ?_
    refine r_callVp [_] dX6_hear_40 ok_RX6_118 ivX4_wasSentBy (by assumption) ⟨_, _, rfl⟩ rfl rfl (Nat.le_of_ble_eq_true rfl) (by refine ⟨?_, ?_, ?_, ?_⟩ <;> exact Nat.le_of_ble_eq_true rfl) (c_wasSentBy hB hPm hp uC) ?_
    refine r_ifB_eq 57 dX6_hear_43 (by decide) (fun h43 => ?_) (fun h43 => ?_)
    · exact K57 m hSt hPm hO (by rw [h43]; decide)
    · refine r_aload_n 0 dX6_hear_46 rfl rfl ?_
      refine r_getR dX6_hear_47 fl_RX6_31 rfl (by assumption) (by assumption) ?_
      refine r_iconst (v := nI 2) dX6_hear_50 (by decide) ?_
      refine r_dup2 dX6_hear_51 rfl rfl ?_
      refine r_ialdV dX6_hear_52 (by assumption) (by omega) (by omega) (by first | assumption | exact up2_same _ _ _ _ | exact (Eq.trans (up2_ne _ _ (by omega)) (by first | assumption | exact up2_same _ _ _ _)) | exact (Eq.trans (up2_ne _ _ (by omega)) (Eq.trans (up2_ne _ _ (by omega)) (by first | assumption | exact up2_same _ _ _ _))) | exact (Eq.trans (up2_ne _ _ (by omega)) (Eq.trans (up2_ne _ _ (by omega)) (Eq.trans (up2_ne _ _ (by omega)) (by first | assumption | exact up2_same _ _ _ _)))) | exact (Eq.trans (up2_ne _ _ (by omega)) (Eq.trans (up2_ne _ _ (by omega)) (Eq.trans (up2_ne _ _ (by omega)) (Eq.trans (up2_ne _ _ (by omega)) (by first | assumption | exact up2_same _ _ _ _))))) | rfl) ?_
      refine r_iconst (v := nI 1) dX6_hear_53 (by decide) ?_
      refine r_iaddN dX6_hear_54 ?_
      refine r_iast dX6_hear_55 (by assumption) (by omega) (by omega) ?_
      refine r_vret dX6_hear_56 rfl (Nat.le_of_ble_eq_true rfl) (Nat.le_of_ble_eq_true rfl) ?_
      refine ⟨rfl, rfl, rfl, rfl, ?_, hO.up (by omega) (by omega)⟩
      unfold look
      rw [if_pos h43]
      exact hSt.tal (w := 2) uL
  refine Mv.of pnX6_hear (Nat.le_of_ble_eq_true rfl) rfl ?_
  refine r_aload_n 0 dX6_hear_0 rfl rfl ?_
  refine r_getR dX6_hear_1 fl_RX6_52 rfl (by assumption) (by assumption) ?_
  refine r_aload_n 1 dX6_hear_4 rfl rfl ?_
  refine r_callVw [_] dX6_hear_5 ok_RX6_82 ivX4_copyFrom (by assumption) ⟨_, _, rfl⟩ rfl rfl (Nat.le_of_ble_eq_true rfl) (by refine ⟨?_, ?_, ?_, ?_⟩ <;> exact Nat.le_of_ble_eq_true rfl) (c_copyPk l12 hB) ?_
  intro m1 ⟨g1, g2, g3, g4, g5⟩
  have hA := (hS.lat (t := now) hkl (m1 := m1) (fun x h1 h2 => g1 x h1 h2) (hP.copy hp.2.2.1 g2 g3 g4 g5)).tal (w := 1) hkl
  have t1 : m1 (a + 5) 1 = nI (st.2.1 1) := by rw [g1 _ (by omega) (by omega)]; exact e2 1 (by omega)
  have w1 : m1 a 5 = nI st.1.2.2.2.2.2 := by rw [g1 _ (by omega) (by omega)]; exact e1.2.2.2.2.2
  refine r_aload_n 0 dX6_hear_8 rfl rfl ?_
  refine r_iload_n 2 dX6_hear_9 rfl rfl ?_
  refine r_putI dX6_hear_10 fl_RX6_85 rfl rfl rfl (by assumption) ?_
  refine r_aload_n 0 dX6_hear_13 rfl rfl ?_
  refine r_getR dX6_hear_14 fl_RX6_31 rfl (by assumption) (by assumption) ?_
  refine r_iconst (v := nI 1) dX6_hear_17 (by decide) ?_
  refine r_dup2 dX6_hear_18 rfl rfl ?_
  refine r_ialdV dX6_hear_19 (by assumption) (by omega) (by omega) (by first | assumption | exact up2_same _ _ _ _ | exact (Eq.trans (up2_ne _ _ (by omega)) (by first | assumption | exact up2_same _ _ _ _)) | exact (Eq.trans (up2_ne _ _ (by omega)) (Eq.trans (up2_ne _ _ (by omega)) (by first | assumption | exact up2_same _ _ _ _))) | exact (Eq.trans (up2_ne _ _ (by omega)) (Eq.trans (up2_ne _ _ (by omega)) (Eq.trans (up2_ne _ _ (by omega)) (by first | assumption | exact up2_same _ _ _ _)))) | exact (Eq.trans (up2_ne _ _ (by omega)) (Eq.trans (up2_ne _ _ (by omega)) (Eq.trans (up2_ne _ _ (by omega)) (Eq.trans (up2_ne _ _ (by omega)) (by first | assumption | exact up2_same _ _ _ _))))) | rfl) ?_
  refine r_iconst (v := nI 1) dX6_hear_20 (by decide) ?_
  refine r_iaddN dX6_hear_21 ?_
  refine r_iast dX6_hear_22 (by assumption) (by omega) (by omega) ?_
  refine r_aload_n 0 dX6_hear_23 rfl rfl ?_
  refine r_getR dX6_hear_24 fl_RX6_45 rfl (by assumption) (by assumption) ?_
  refine r_iload_n 2 dX6_hear_27 rfl rfl ?_
  refine r_aload_n 0 dX6_hear_28 rfl rfl ?_
  refine r_getV dX6_hear_29 fl_RX6_28 rfl (by assumption) (by first | assumption | exact up2_same _ _ _ _ | exact (Eq.trans (up2_ne _ _ (by omega)) (by first | assumption | exact up2_same _ _ _ _)) | exact (Eq.trans (up2_ne _ _ (by omega)) (Eq.trans (up2_ne _ _ (by omega)) (by first | assumption | exact up2_same _ _ _ _))) | exact (Eq.trans (up2_ne _ _ (by omega)) (Eq.trans (up2_ne _ _ (by omega)) (Eq.trans (up2_ne _ _ (by omega)) (by first | assumption | exact up2_same _ _ _ _)))) | exact (Eq.trans (up2_ne _ _ (by omega)) (Eq.trans (up2_ne _ _ (by omega)) (Eq.trans (up2_ne _ _ (by omega)) (Eq.trans (up2_ne _ _ (by omega)) (by first | assumption | exact up2_same _ _ _ _))))) | rfl) ?_
  refine r_callVw [_, _] dX6_hear_32 ok_RX6_114 ivX1_dropOld (by assumption) ⟨_, _, rfl⟩ rfl rfl (Nat.le_of_ble_eq_true rfl) (by refine ⟨?_, ?_, ?_, ?_⟩ <;> exact Nat.le_of_ble_eq_true rfl) (c_dropOld l10 hA.2.2.2.2.1 o4.1 (by omega) o1.2.2.2.2.2 (fun q hq => (o4.2.1 q hq).2.2)) ?_
  intro m2 ⟨f1, f2⟩
  refine K35 m2 ?_ ?_ ?_
  · rw [hs1]; exact hA.kn hkl f2 f1
  · exact hP.keep (by rw [f2 b (by omega), up2_row _ _ (by omega), up2_row _ _ (by omega), g1 b (by omega) (by omega)]) (by rw [f2 (b + 1) (by omega), up2_row _ _ (by omega), up2_row _ _ (by omega), g1 (b + 1) (by omega) (by omega)])
  · intro x hx
    rw [f2 x (by omega), up2_row _ _ (by omega), up2_row _ _ (by omega), g1 x (by omega) (by omega)]
end STAT3
