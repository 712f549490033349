section STAT2
variable {z : Nat} {sh : SH} {mi : MI} {mr : MR} {a : Nat}
theorem StC.lat {m m1 : MI} {st : St} {p : Pk} {t : Nat} (h : StC m mr a st) (hl : st.2.2.1.length ≤ 12) (hx : ∀ x, x ≠ a + 37 → x ≠ a + 38 → m1 x = m x) (hP : PkC m1 (a + 37) p) : StC (up2 m1 a 10 (nI t)) mr a (st.1, st.2.1, st.2.2.1, st.2.2.2.1, some (p, t)) := by
  obtain ⟨h1, h2, h3, h4, h5, h6⟩ := h
  refine ⟨h1.keep (fun k hk => by rw [up2_ne _ _ (Or.inr hk), hx a (by omega) (by omega)]) (fun y g1 g2 => by rw [up2_row _ _ (by omega), hx y (by omega) (by omega)]), h2.keep (by rw [up2_row _ _ (by omega), hx _ (by omega) (by omega)]), h3.keep h4 hl (fun y g1 g2 => by rw [up2_row _ _ (by omega), hx y (by omega) (by omega)]), h4, h5.keep (fun y g1 g2 => by rw [up2_row _ _ (by omega), hx y (by omega) (by omega)]), fun p' t' e => ?_⟩
  cases e
  exact ⟨hP.keep (up2_row _ _ (by omega)) (up2_row _ _ (by omega)), up2_same _ _ _ _⟩
theorem StC.kn {m m1 : MI} {st : St} {l : Kn} (h : StC m mr a st) (hl : st.2.2.1.length ≤ 12) (ho : Oth m m1 (a + 33) (a + 37)) (hk : KnC m1 (a + 33) l) : StC m1 mr a (st.1, st.2.1, st.2.2.1, l, st.2.2.2.2) := by
  obtain ⟨h1, h2, h3, h4, h5, h6⟩ := h
  exact ⟨h1.keep (fun k hk => by rw [ho a (by omega)]) (fun y g1 g2 => ho y (by omega)), h2.keep (ho _ (by omega)), h3.keep h4 hl (fun y g1 g2 => ho y (by omega)), h4, hk, h6.keep (by rw [ho a (by omega)]) (ho _ (by omega)) (ho _ (by omega))⟩
theorem StC.kp {m m1 : MI} {mr1 : MR} {st : St} {l : Kp} (h : StC m mr a st) (ho : Oth m m1 (a + 6) (a + 33)) (hk : KpC m1 mr1 (a + 6) l) (hr : KpR mr1 (a + 6)) : StC m1 mr1 a (st.1, st.2.1, l, st.2.2.2) := by
  obtain ⟨h1, h2, h3, h4, h5, h6⟩ := h
  exact ⟨h1.keep (fun k hk => by rw [ho a (by omega)]) (fun y g1 g2 => ho y (by omega)), h2.keep (ho _ (by omega)), hk, hr, h5.keep (fun y g1 g2 => ho y (by omega)), h6.keep (by rw [ho a (by omega)]) (ho _ (by omega)) (ho _ (by omega))⟩
/-- the rows of what is sent, of what is changed -/
theorem StC.aux {m m1 : MI} {st : St} (h : StC m mr a st) (hl : st.2.2.1.length ≤ 12) (hx : ∀ x, x < a + 39 → m1 x = m x) : StC m1 mr a st := by
  obtain ⟨h1, h2, h3, h4, h5, h6⟩ := h
  exact ⟨h1.keep (fun k hk => by rw [hx a (by omega)]) (fun y g1 g2 => hx y (by omega)), h2.keep (hx _ (by omega)), h3.keep h4 hl (fun y g1 g2 => hx y (by omega)), h4, h5.keep (fun y g1 g2 => hx y (by omega)), h6.keep (by rw [hx a (by omega)]) (hx _ (by omega)) (hx _ (by omega))⟩
theorem nI_ne6 {k : Nat} (h : k < 2 ^ 31) : nI k ≠ -6 := fun e => by
  have h1 := nI_toInt h
  rw [e] at h1
  have h2 : (-6 : Int32).toInt = -6 := by decide
  omega
theorem c_orig {b : Nat} (hL : LSt sh mr a) (hB : LPk sh mr b) (hb : b + 2 ≤ a ∨ a + 43 ≤ b) {st : St} (hS : StC mi mr a st) {now : Nat} (hok : okSt st now) (h12 : st.2.2.1.length < 12) (hnow : now < 2 ^ 28) {p : Pk} (hP : PkC mi b p) (hp : okP p) : Mi mX6_originate 3 [.ref a, .ref b, .int (nI now)] z sh mi mr (fun v m => v = none ∧ StC m mr a (orig st p now) ∧ Oth mi m a (a + 43)) := by
  obtain ⟨l0, ⟨l1, l2⟩, ⟨l3, l4⟩, ⟨l5, l6⟩, ⟨l7, l8⟩, ⟨l9, l10⟩, ⟨l11, l12⟩, ⟨l13, l14⟩, ⟨l15, l16⟩⟩ := id hL
  obtain ⟨k0, k1, k2⟩ := id l8
  obtain ⟨q0, q1, q2⟩ := id l10
  obtain ⟨e1, e2, e3, e4, e5, e6⟩ := id hS
  obtain ⟨o1, o2, o3, o4, o5⟩ := id hok
  have K25 : ∀ (m : MI) (l : Kn), l = st.2.2.2.1.eraseIdx (knIx st.2.2.2.1 p) → StC m mr a (st.1, st.2.1, st.2.2.1 ++ [(p, now)], l, st.2.2.2.2) → PkC m b p → Oth mi m a (a + 43) → Wp yX6_originate cX6_originate 3 none (EI 3 z sh mr (fun v m => v = none ∧ StC m mr a (orig st p now) ∧ Oth mi m a (a + 43))) 0 0 25 [.ref a, .ref b, .int (nI now)] [] z sh m mr := by
    intro m l hl hSt hPm hO
    have hll : l.length ≤ 16 := by rw [hl]; exact Nat.le_trans (List.length_eraseIdx_le _ _) o4.1
    refine r_aload_n 0 dX6_originate_25 rfl rfl ?_
    refine r_getR dX6_originate_26 fl_RX6_45 rfl (by assumption) (by assumption) ?_
    refine r_aload_n 1 dX6_originate_29 rfl rfl ?_
    refine r_iload_n 2 dX6_originate_30 rfl rfl ?_
    refine r_callVw [_, _] dX6_originate_31 ok_RX6_107 ivX1_add (by assumption) ⟨_, _, rfl⟩ rfl rfl (Nat.le_of_ble_eq_true rfl) (by refine ⟨?_, ?_, ?_, ?_⟩ <;> exact Nat.le_of_ble_eq_true rfl) (c_knAdd l10 hB hSt.2.2.2.2.1 hll hPm) ?_
    intro m2 ⟨g1, g2⟩
    refine r_vret dX6_originate_34 rfl (Nat.le_of_ble_eq_true rfl) (Nat.le_of_ble_eq_true rfl) ?_
    refine ⟨rfl, rfl, rfl, rfl, ?_, hO.trans (g2.wide (by omega) (by omega))⟩
    have := hSt.kn (by show (st.2.2.1 ++ [(p, now)]).length ≤ 12; simp; omega) g2 g1
    rw [hl] at this
    exact this
  have K22a : ∀ {m : MI}, knIx st.2.2.2.1 p < st.2.2.2.1.length → StC m mr a (st.1, st.2.1, st.2.2.1 ++ [(p, now)], st.2.2.2) → PkC m b p → Oth mi m a (a + 43) → Wp yX6_originate cX6_originate 3 none (EI 3 z sh mr (fun v m => v = none ∧ StC m mr a (orig st p now) ∧ Oth mi m a (a + 43))) 0 0 22 [.ref a, .ref b, .int (nI now)] [.int (nI (knIx st.2.2.2.1 p)), .ref (a + 33)] z sh m mr := by
    intro m hk hSt hPm hO
    refine r_callVw [_] dX6_originate_22 ok_RX6_103 ivX1_removeAt (by assumption) ⟨_, _, rfl⟩ rfl rfl (Nat.le_of_ble_eq_true rfl) (by refine ⟨?_, ?_, ?_, ?_⟩ <;> exact Nat.le_of_ble_eq_true rfl) (c_knRem l10 hSt.2.2.2.2.1 o4.1 hk) ?_
    intro m2 ⟨g1, g2⟩
    exact K25 m2 _ rfl (hSt.kn (by show (st.2.2.1 ++ [(p, now)]).length ≤ 12; simp; omega) g2 g1) (hPm.keep (g2 b (by omega)) (g2 (b + 1) (by omega))) (hO.trans (g2.wide (by omega) (by omega)))
  have K22b : ∀ {m : MI}, ¬ knIx st.2.2.2.1 p < st.2.2.2.1.length → StC m mr a (st.1, st.2.1, st.2.2.1 ++ [(p, now)], st.2.2.2) → PkC m b p → Oth mi m a (a + 43) → Wp yX6_originate cX6_originate 3 none (EI 3 z sh mr (fun v m => v = none ∧ StC m mr a (orig st p now) ∧ Oth mi m a (a + 43))) 0 0 22 [.ref a, .ref b, .int (nI now)] [.int (-6), .ref (a + 33)] z sh m mr := by
    intro m hk hSt hPm hO
    refine r_callVw [_] dX6_originate_22 ok_RX6_103 ivX1_removeAt (by assumption) ⟨_, _, rfl⟩ rfl rfl (Nat.le_of_ble_eq_true rfl) (by refine ⟨?_, ?_, ?_, ?_⟩ <;> exact Nat.le_of_ble_eq_true rfl) (c_knRemN l10) ?_
    intro m2 g1
    subst g1
    exact K25 _ _ rfl (by rw [List.eraseIdx_of_length_le (by omega)]; exact hSt) hPm hO
  refine Mv.of pnX6_originate (Nat.le_of_ble_eq_true rfl) rfl ?_
  refine r_aload_n 0 dX6_originate_0 rfl rfl ?_
  refine r_getR dX6_originate_1 fl_RX6_38 rfl (by assumption) (by assumption) ?_
  refine r_aload_n 1 dX6_originate_4 rfl rfl ?_
  refine r_iload_n 2 dX6_originate_5 rfl rfl ?_
  refine r_callVx [_, _] dX6_originate_6 ok_RX6_95 ivX0_add (by assumption) ⟨_, _, rfl⟩ rfl rfl (Nat.le_of_ble_eq_true rfl) (by refine ⟨?_, ?_, ?_, ?_⟩ <;> exact Nat.le_of_ble_eq_true rfl) (c_kpAdd l8 hB (by omega) e3 e4 h12 hP hp.2.2.1) ?_
  intro m ⟨g1, g2⟩
  have hSt := hS.kp (mr1 := mr) (g2.wide (by omega) (by omega)) g1 e4
  have hPm : PkC m b p := hP.keep (g2 b (by omega)) (g2 (b + 1) (by omega))
  have hO : Oth mi m a (a + 43) := g2.wide (by omega) (by omega)
  refine r_pop dX6_originate_9 rfl ?_
  refine r_aload_n 0 dX6_originate_10 rfl rfl ?_
  refine r_getR dX6_originate_11 fl_RX6_45 rfl (by assumption) (by assumption) ?_
  refine r_aload_n 0 dX6_originate_14 rfl rfl ?_
  refine r_getR dX6_originate_15 fl_RX6_45 rfl (by assumption) (by assumption) ?_
  refine r_aload_n 1 dX6_originate_18 rfl rfl ?_
  refine r_callVp [_] dX6_originate_19 ok_RX6_99 ivX1_placeOf (by assumption) ⟨_, _, rfl⟩ rfl rfl (Nat.le_of_ble_eq_true rfl) (by refine ⟨?_, ?_, ?_, ?_⟩ <;> exact Nat.le_of_ble_eq_true rfl) (c_placeOf l10 hB hSt.2.2.2.2.1 o4.1 (fun q hq => ⟨(o4.2.1 q hq).1, (o4.2.1 q hq).2.1⟩) hPm hp) ?_
  by_cases hk : knIx st.2.2.2.1 p < st.2.2.2.1.length
  · rw [if_pos (show knIx (st.1, st.2.1, st.2.2.1 ++ [(p, now)], st.2.2.2).2.2.2.1 p < _ from hk)]
    exact K22a hk hSt hPm hO
  · rw [if_neg (show ¬ knIx (st.1, st.2.1, st.2.2.1 ++ [(p, now)], st.2.2.2).2.2.2.1 p < _ from hk)]
    exact K22b hk hSt hPm hO
end STAT2
