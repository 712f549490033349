section INIT
variable {z : Nat} {sh : SH} {mi : MI} {mr : MR} {a : Nat}
/-- below a nothing changed -/
def Bel (a : Nat) (sh : SH) (mi : MI) (mr : MR) (sh' : SH) (mi' : MI) (mr' : MR) : Prop := ∀ q, q < a → sh' q = sh q ∧ mi' q = mi q ∧ mr' q = mr q
theorem Bel.new {b : Nat} {s : Nat × Nat} {i : Nat → Int32} {r : Nat → Option Nat} {sh' : SH} {mi' : MI} {mr' : MR} (h : Bel b (up1 sh b s) (up1 mi b i) (up1 mr b r) sh' mi' mr') : Bel b sh mi mr sh' mi' mr' := fun q hq => by
  obtain ⟨h1, h2, h3⟩ := h q hq
  exact ⟨h1.trans (up1_ne _ _ (by omega)), h2.trans (up1_ne _ _ (by omega)), h3.trans (up1_ne _ _ (by omega))⟩
def Sam (lo hi : Nat) (sh : SH) (mi : MI) (mr : MR) (sh' : SH) (mi' : MI) (mr' : MR) : Prop := ∀ q, lo ≤ q → q < hi → sh' q = sh q ∧ mi' q = mi q ∧ mr' q = mr q
theorem Sam.tr {lo hi lo' hi' : Nat} {s1 s2 s3 : SH} {i1 i2 i3 : MI} {r1 r2 r3 : MR} (h : Sam lo hi s1 i1 r1 s2 i2 r2) (h' : Sam lo' hi' s2 i2 r2 s3 i3 r3) (e1 : lo' ≤ lo) (e2 : hi ≤ hi') : Sam lo hi s1 i1 r1 s3 i3 r3 := fun q q1 q2 => by
  obtain ⟨a1, a2, a3⟩ := h q q1 q2
  obtain ⟨b1, b2, b3⟩ := h' q (by omega) (by omega)
  exact ⟨b1.trans a1, b2.trans a2, b3.trans a3⟩
theorem Bel.sam {b k lo hi : Nat} {v : Option Nat} {sh' : SH} {mi' : MI} {mr' : MR} (h : Bel b sh mi (up2 mr a k v) sh' mi' mr') (h1 : a < lo) (h2 : hi ≤ b) : Sam lo hi sh mi mr sh' mi' mr' := fun q q1 q2 => by
  obtain ⟨a1, a2, a3⟩ := h q (by omega)
  exact ⟨a1, a2, a3.trans (up2_row _ _ (by omega))⟩
theorem LPk.loc {sh' : SH} {mr' : MR} (h : LPk sh mr a) (F : ∀ q, a ≤ q → q < a + 2 → sh' q = sh q ∧ mr' q = mr q) : LPk sh' mr' a := ⟨by rw [(F a (by omega) (by omega)).1]; exact h.1, by rw [(F a (by omega) (by omega)).2]; exact h.2.1, by rw [(F (a + 1) (by omega) (by omega)).1]; exact h.2.2⟩
theorem LNm.loc {sh' : SH} {mr' : MR} (h : LNm sh mr a) (F : ∀ q, a ≤ q → q < a + 2 → sh' q = sh q ∧ mr' q = mr q) : LNm sh' mr' a := ⟨by rw [(F a (by omega) (by omega)).1]; exact h.1, by rw [(F a (by omega) (by omega)).2]; exact h.2.1, by rw [(F (a + 1) (by omega) (by omega)).1]; exact h.2.2⟩
theorem LPd.loc {sh' : SH} {mr' : MR} (h : LPd sh mr a) (F : ∀ q, a ≤ q → q < a + 2 → sh' q = sh q ∧ mr' q = mr q) : LPd sh' mr' a := ⟨by rw [(F a (by omega) (by omega)).1]; exact h.1, by rw [(F a (by omega) (by omega)).2]; exact h.2.1, by rw [(F (a + 1) (by omega) (by omega)).1]; exact h.2.2⟩
theorem LWr.loc {sh' : SH} {mr' : MR} (h : LWr sh mr a) (F : ∀ q, a ≤ q → q < a + 2 → sh' q = sh q ∧ mr' q = mr q) : LWr sh' mr' a := ⟨by rw [(F a (by omega) (by omega)).1]; exact h.1, by rw [(F a (by omega) (by omega)).2]; exact h.2.1, by rw [(F (a + 1) (by omega) (by omega)).1]; exact h.2.2⟩
theorem LKn.loc {sh' : SH} {mr' : MR} (h : LKn sh mr a) (F : ∀ q, a ≤ q → q < a + 4 → sh' q = sh q ∧ mr' q = mr q) : LKn sh' mr' a := by
  obtain ⟨h1, h2, h3, h4, h5, h6, h7⟩ := h
  have e := F a (by omega) (by omega)
  exact ⟨by rw [e.1]; exact h1, by rw [e.2]; exact h2, by rw [(F (a + 1) (by omega) (by omega)).1]; exact h3, by rw [e.2]; exact h4, by rw [(F (a + 2) (by omega) (by omega)).1]; exact h5, by rw [e.2]; exact h6, by rw [(F (a + 3) (by omega) (by omega)).1]; exact h7⟩
theorem LKp.loc {sh' : SH} {mr' : MR} (h : LKp sh mr a) (F : ∀ q, a ≤ q → q < a + 27 → sh' q = sh q ∧ mr' q = mr q) : LKp sh' mr' a := by
  obtain ⟨h1, h2, h3, h4, h5, h6⟩ := h
  have e := F a (by omega) (by omega)
  exact ⟨by rw [e.1]; exact h1, by rw [e.2]; exact h2, by rw [(F (a + 1) (by omega) (by omega)).1]; exact h3, by rw [e.2]; exact h4, by rw [(F (a + 2) (by omega) (by omega)).1]; exact h5, fun j hj => (h6 j hj).loc (fun q q1 q2 => F q (by omega) (by omega))⟩
theorem LSt.loc {sh' : SH} {mr' : MR} (h : LSt sh mr a) (F : ∀ q, a ≤ q → q < a + 43 → sh' q = sh q ∧ mr' q = mr q) : LSt sh' mr' a := by
  obtain ⟨h0, ⟨h1, h2⟩, ⟨h3, h4⟩, ⟨h5, h6⟩, ⟨h7, h8⟩, ⟨h9, h10⟩, ⟨h11, h12⟩, ⟨h13, h14⟩, ⟨h15, h16⟩⟩ := h
  have e := F a (by omega) (by omega)
  exact ⟨by rw [e.1]; exact h0, ⟨by rw [e.2]; exact h1, h2.loc (fun q q1 q2 => F q (by omega) (by omega))⟩, ⟨by rw [e.2]; exact h3, h4.loc (fun q q1 q2 => F q (by omega) (by omega))⟩, ⟨by rw [e.2]; exact h5, by rw [(F (a + 5) (by omega) (by omega)).1]; exact h6⟩, ⟨by rw [e.2]; exact h7, h8.loc (fun q q1 q2 => F q (by omega) (by omega))⟩, ⟨by rw [e.2]; exact h9, h10.loc (fun q q1 q2 => F q (by omega) (by omega))⟩, ⟨by rw [e.2]; exact h11, h12.loc (fun q q1 q2 => F q (by omega) (by omega))⟩, ⟨by rw [e.2]; exact h13, h14.loc (fun q q1 q2 => F q (by omega) (by omega))⟩, ⟨by rw [e.2]; exact h15, h16.loc (fun q q1 q2 => F q (by omega) (by omega))⟩⟩
theorem LNt.loc {sh' : SH} {mr' : MR} (h : LNt sh mr a) (F : ∀ q, a ≤ q → q < a + 261 → sh' q = sh q ∧ mr' q = mr q) : LNt sh' mr' a := by
  obtain ⟨h0, h1, h2, h3, h4, h5⟩ := h
  have e := F a (by omega) (by omega)
  exact ⟨by rw [e.1]; exact h0, by rw [e.2]; exact h1, by rw [(F (a + 1) (by omega) (by omega)).1]; exact h2, by rw [e.2]; exact h3, by rw [(F (a + 2) (by omega) (by omega)).1]; exact h4, fun s hs => ⟨by rw [(F (a + 1) (by omega) (by omega)).2]; exact (h5 s hs).1, (h5 s hs).2.loc (fun q q1 q2 => F q (by omega) (by omega))⟩⟩
theorem LTr.loc {sh' : SH} {mr' : MR} (h : LTr sh mr a) (F : ∀ q, a ≤ q → q < a + 264 → sh' q = sh q ∧ mr' q = mr q) : LTr sh' mr' a := by
  obtain ⟨h0, ⟨h1, h2⟩, ⟨h3, h4⟩⟩ := h
  have e := F a (by omega) (by omega)
  exact ⟨by rw [e.1]; exact h0, ⟨by rw [e.2]; exact h1, h2.loc (fun q q1 q2 => F q (by omega) (by omega))⟩, ⟨by rw [e.2]; exact h3, h4.loc (fun q q1 q2 => F q (by omega) (by omega))⟩⟩
theorem i_pk (hs : sh a = (4, 0)) : Mv mX4_init 1 1 8 [.ref a] (a + 1) sh mi mr (fun v z' sh' mi' mr' => v = none ∧ z' = a + 2 ∧ LPk sh' mr' a ∧ mi' a = mi a ∧ Bel a sh mi mr sh' mi' mr') := by
  refine Mv.of pnX4_init (Nat.le_of_ble_eq_true rfl) rfl ?_
  refine r_aload_n 0 dX4_init_0 rfl rfl ?_
  refine r_objInit dX4_init_1 ml_RX4_3 ⟨(Nat.le_of_ble_eq_true rfl), (Nat.le_of_ble_eq_true rfl)⟩ x_oi x_oc ?_
  refine r_aload_n 0 dX4_init_4 rfl rfl ?_
  refine r_bipush (v := nI 8) dX4_init_5 (by decide) ?_
  refine r_newarr (κ := 11) dX4_init_7 rfl (by decide) ac_int (by decide) ⟨(Nat.le_of_ble_eq_true rfl), (Nat.le_of_ble_eq_true rfl)⟩ ?_
  have hA : up1 sh (a + 1) (11, 8) a = (4, 0) := by rw [up1_ne _ _ (by omega)]; exact hs
  refine r_putRF rfl dX4_init_9 fl_RX4_9 ⟨_, _, rfl⟩ rfl rfl rfl (by assumption) ?_
  refine r_vret dX4_init_12 rfl (Nat.le_of_ble_eq_true rfl) (Nat.le_of_ble_eq_true rfl) ?_
  refine ⟨rfl, rfl, ⟨hA, up2_same _ _ _ _, up1_same _ _ _⟩, up1_ne _ _ (by omega), fun q hq => ⟨up1_ne _ _ (by omega), up1_ne _ _ (by omega), by rw [up2_row _ _ (by omega), up1_ne _ _ (by omega)]⟩⟩
theorem i_nm (hs : sh a = (2, 0)) : Mv mX2_init 1 1 2 [.ref a] (a + 1) sh mi mr (fun v z' sh' mi' mr' => v = none ∧ z' = a + 2 ∧ LNm sh' mr' a ∧ mi' a = mi a ∧ Bel a sh mi mr sh' mi' mr') := by
  refine Mv.of pnX2_init (Nat.le_of_ble_eq_true rfl) rfl ?_
  refine r_aload_n 0 dX2_init_0 rfl rfl ?_
  refine r_objInit dX2_init_1 ml_RX2_3 ⟨(Nat.le_of_ble_eq_true rfl), (Nat.le_of_ble_eq_true rfl)⟩ x_oi x_oc ?_
  refine r_aload_n 0 dX2_init_4 rfl rfl ?_
  refine r_iconst (v := nI 2) dX2_init_5 (by decide) ?_
  refine r_newarr (κ := 11) dX2_init_6 rfl (by decide) ac_int (by decide) ⟨(Nat.le_of_ble_eq_true rfl), (Nat.le_of_ble_eq_true rfl)⟩ ?_
  have hA : up1 sh (a + 1) (11, 2) a = (2, 0) := by rw [up1_ne _ _ (by omega)]; exact hs
  refine r_putRF rfl dX2_init_8 fl_RX2_9 ⟨_, _, rfl⟩ rfl rfl rfl (by assumption) ?_
  refine r_vret dX2_init_11 rfl (Nat.le_of_ble_eq_true rfl) (Nat.le_of_ble_eq_true rfl) ?_
  refine ⟨rfl, rfl, ⟨hA, up2_same _ _ _ _, up1_same _ _ _⟩, up1_ne _ _ (by omega), fun q hq => ⟨up1_ne _ _ (by omega), up1_ne _ _ (by omega), by rw [up2_row _ _ (by omega), up1_ne _ _ (by omega)]⟩⟩
theorem i_pd (hs : sh a = (5, 0)) : Mv mX5_init 1 1 40 [.ref a] (a + 1) sh mi mr (fun v z' sh' mi' mr' => v = none ∧ z' = a + 2 ∧ LPd sh' mr' a ∧ mi' a = mi a ∧ Bel a sh mi mr sh' mi' mr') := by
  refine Mv.of pnX5_init (Nat.le_of_ble_eq_true rfl) rfl ?_
  refine r_aload_n 0 dX5_init_0 rfl rfl ?_
  refine r_objInit dX5_init_1 ml_RX5_3 ⟨(Nat.le_of_ble_eq_true rfl), (Nat.le_of_ble_eq_true rfl)⟩ x_oi x_oc ?_
  refine r_aload_n 0 dX5_init_4 rfl rfl ?_
  refine r_bipush (v := nI 40) dX5_init_5 (by decide) ?_
  refine r_newarr (κ := 11) dX5_init_7 rfl (by decide) ac_int (by decide) ⟨(Nat.le_of_ble_eq_true rfl), (Nat.le_of_ble_eq_true rfl)⟩ ?_
  have hA : up1 sh (a + 1) (11, 40) a = (5, 0) := by rw [up1_ne _ _ (by omega)]; exact hs
  refine r_putRF rfl dX5_init_9 fl_RX5_9 ⟨_, _, rfl⟩ rfl rfl rfl (by assumption) ?_
  refine r_vret dX5_init_12 rfl (Nat.le_of_ble_eq_true rfl) (Nat.le_of_ble_eq_true rfl) ?_
  refine ⟨rfl, rfl, ⟨hA, up2_same _ _ _ _, up1_same _ _ _⟩, up1_ne _ _ (by omega), fun q hq => ⟨up1_ne _ _ (by omega), up1_ne _ _ (by omega), by rw [up2_row _ _ (by omega), up1_ne _ _ (by omega)]⟩⟩
theorem i_wr (hs : sh a = (8, 0)) : Mv mX8_init 1 1 64 [.ref a] (a + 1) sh mi mr (fun v z' sh' mi' mr' => v = none ∧ z' = a + 2 ∧ LWr sh' mr' a ∧ mi' a = mi a ∧ Bel a sh mi mr sh' mi' mr') := by
  refine Mv.of pnX8_init (Nat.le_of_ble_eq_true rfl) rfl ?_
  refine r_aload_n 0 dX8_init_0 rfl rfl ?_
  refine r_objInit dX8_init_1 ml_RX8_3 ⟨(Nat.le_of_ble_eq_true rfl), (Nat.le_of_ble_eq_true rfl)⟩ x_oi x_oc ?_
  refine r_aload_n 0 dX8_init_4 rfl rfl ?_
  refine r_bipush (v := nI 64) dX8_init_5 (by decide) ?_
  refine r_newarr (κ := 11) dX8_init_7 rfl (by decide) ac_int (by decide) ⟨(Nat.le_of_ble_eq_true rfl), (Nat.le_of_ble_eq_true rfl)⟩ ?_
  have hA : up1 sh (a + 1) (11, 64) a = (8, 0) := by rw [up1_ne _ _ (by omega)]; exact hs
  refine r_putRF rfl dX8_init_9 fl_RX8_9 ⟨_, _, rfl⟩ rfl rfl rfl (by assumption) ?_
  refine r_vret dX8_init_12 rfl (Nat.le_of_ble_eq_true rfl) (Nat.le_of_ble_eq_true rfl) ?_
  refine ⟨rfl, rfl, ⟨hA, up2_same _ _ _ _, up1_same _ _ _⟩, up1_ne _ _ (by omega), fun q hq => ⟨up1_ne _ _ (by omega), up1_ne _ _ (by omega), by rw [up2_row _ _ (by omega), up1_ne _ _ (by omega)]⟩⟩
theorem i_kn (hs : sh a = (1, 0)) : Mv mX1_init 1 3 48 [.ref a] (a + 1) sh mi mr (fun v z' sh' mi' mr' => v = none ∧ z' = a + 4 ∧ LKn sh' mr' a ∧ mi' a = mi a ∧ Bel a sh mi mr sh' mi' mr') := by
  have n2 : ¬ a = a + 1 + 1 := by omega
  have n3 : ¬ a = a + 1 + 1 + 1 := by omega
  refine Mv.of pnX1_init (Nat.le_of_ble_eq_true rfl) rfl ?_
  refine r_aload_n 0 dX1_init_0 rfl rfl ?_
  refine r_objInit dX1_init_1 ml_RX1_3 ⟨(Nat.le_of_ble_eq_true rfl), (Nat.le_of_ble_eq_true rfl)⟩ x_oi x_oc ?_
  refine r_aload_n 0 dX1_init_4 rfl rfl ?_
  refine r_bipush (v := nI 16) dX1_init_5 (by decide) ?_
  refine r_newarr (κ := 11) dX1_init_7 rfl (by decide) ac_int (by decide) ⟨(Nat.le_of_ble_eq_true rfl), (Nat.le_of_ble_eq_true rfl)⟩ ?_
  have hA : up1 sh (a + 1) (11, 16) a = (1, 0) := by rw [up1_ne _ _ (by omega)]; exact hs
  refine r_putRF rfl dX1_init_9 fl_RX1_9 ⟨_, _, rfl⟩ rfl rfl rfl (by assumption) ?_
  refine r_aload_n 0 dX1_init_12 rfl rfl ?_
  refine r_bipush (v := nI 16) dX1_init_13 (by decide) ?_
  refine r_newarr (κ := 11) dX1_init_15 rfl (by decide) ac_int (by decide) ⟨(Nat.le_of_ble_eq_true rfl), (Nat.le_of_ble_eq_true rfl)⟩ ?_
  have hB : up1 (up1 sh (a + 1) (11, 16)) (a + 1 + 1) (11, 16) a = (1, 0) := by rw [up1_ne _ _ (by omega)]; exact hA
  refine r_putRF rfl dX1_init_17 fl_RX1_15 ⟨_, _, rfl⟩ rfl rfl rfl (by assumption) ?_
  refine r_aload_n 0 dX1_init_20 rfl rfl ?_
  refine r_bipush (v := nI 16) dX1_init_21 (by decide) ?_
  refine r_newarr (κ := 11) dX1_init_23 rfl (by decide) ac_int (by decide) ⟨(Nat.le_of_ble_eq_true rfl), (Nat.le_of_ble_eq_true rfl)⟩ ?_
  have hC : up1 (up1 (up1 sh (a + 1) (11, 16)) (a + 1 + 1) (11, 16)) (a + 1 + 1 + 1) (11, 16) a = (1, 0) := by rw [up1_ne _ _ (by omega)]; exact hB
  refine r_putRF rfl dX1_init_25 fl_RX1_18 ⟨_, _, rfl⟩ rfl rfl rfl (by assumption) ?_
  refine r_vret dX1_init_28 rfl (Nat.le_of_ble_eq_true rfl) (Nat.le_of_ble_eq_true rfl) ?_
  refine ⟨rfl, rfl, ⟨hC, ?_, ?_, ?_, ?_, ?_, ?_⟩, ?_, fun q hq => ⟨?_, ?_, ?_⟩⟩
  · simp [up1, up2, n2, n3]
  · simp [up1, up2, n2, n3]
  · simp [up1, up2, n2, n3]
  · simp [up1, up2, n2, n3]
  · simp [up1, up2, n2, n3]
  · simp [up1, up2, n2, n3]
  · rw [up1_ne _ _ (by omega), up1_ne _ _ (by omega), up1_ne _ _ (by omega)]
  · rw [up1_ne _ _ (by omega), up1_ne _ _ (by omega), up1_ne _ _ (by omega)]
  · rw [up1_ne _ _ (by omega), up1_ne _ _ (by omega), up1_ne _ _ (by omega)]
  · rw [up2_row _ _ (by omega), up1_ne _ _ (by omega), up2_row _ _ (by omega), up1_ne _ _ (by omega), up2_row _ _ (by omega), up1_ne _ _ (by omega)]
theorem i_kp (hs : sh a = (0, 0)) : Mv mX0_init 2 26 168 [.ref a] (a + 1) sh mi mr (fun v z' sh' mi' mr' => v = none ∧ z' = a + 27 ∧ LKp sh' mr' a ∧ KpR mr' a ∧ mi' a = mi a ∧ Bel a sh mi mr sh' mi' mr') := by
  have H : ∀ (c i kc ks z : Nat) (sh1 : SH) (mi1 : MI) (mr1 : MR), i + c = 12 → kc = 2 + 2 * i → ks = 24 + 12 * i → z = a + 3 + 2 * i → sh1 a = (0, 0) → mr1 a 0 = some (a + 1) → sh1 (a + 1) = (14, 12) → mr1 a 1 = some (a + 2) → sh1 (a + 2) = (11, 12) → (∀ j, j < i → LPk sh1 mr1 (a + 3 + 2 * j) ∧ mr1 (a + 1) j = some (a + 3 + 2 * j)) → mi1 a = mi a → Bel a sh mi mr sh1 mi1 mr1 → Wp yX0_init cX0_init 2 none (mE 2 26 168 (fun v z' sh' mi' mr' => v = none ∧ z' = a + 27 ∧ LKp sh' mr' a ∧ KpR mr' a ∧ mi' a = mi a ∧ Bel a sh mi mr sh' mi' mr')) kc ks 23 [.ref a, .int (nI i)] [] z sh1 mi1 mr1 := by
    intro c
    induction c with
    | zero =>
      intro i kc ks z sh1 mi1 mr1 hi hkc hks hz g1 g2 g3 g4 g5 g6 g7 g8
      refine r_iload_n 1 dX0_init_23 rfl rfl ?_
      refine r_bipush (v := nI 12) dX0_init_24 (by decide) ?_
      refine r_icmpN_ge 48 dX0_init_26 (by decide) (by omega) (by omega) (fun h26 => ?_) (fun h26 => ?_)
      · refine r_vret dX0_init_48 rfl (by omega) (by omega) ?_
        exact ⟨rfl, by omega, ⟨g1, g2, g3, g4, g5, fun j hj => (g6 j (by omega)).1⟩, ⟨fun i => i, fun i hi => ⟨hi, (g6 i (by omega)).2⟩, fun i j _ _ e => e⟩, g7, g8⟩
      · omega
    | succ c ih =>
      intro i kc ks z sh1 mi1 mr1 hi hkc hks hz g1 g2 g3 g4 g5 g6 g7 g8
      refine r_iload_n 1 dX0_init_23 rfl rfl ?_
      refine r_bipush (v := nI 12) dX0_init_24 (by decide) ?_
      refine r_icmpN_ge 48 dX0_init_26 (by decide) (by omega) (by omega) (fun h26 => ?_) (fun h26 => ?_)
      · omega
      · refine r_aload_n 0 dX0_init_29 rfl rfl ?_
        refine r_getR dX0_init_30 fl_RX0_11 rfl (by assumption) (by assumption) ?_
        refine r_iload_n 1 dX0_init_33 rfl rfl ?_
        refine r_new dX0_init_34 ckX4 cl_RX0_9 in_RX4 ini_RX4 (by decide) ⟨Nat.le_trans (m := 26) (by omega) (Nat.le_refl _), Nat.le_trans (m := 168) (by omega) (Nat.le_refl _)⟩ ?_
        refine r_dup dX0_init_37 rfl ?_
        refine r_callIN [] dX0_init_38 ok_RX0_21 iiX4_init rfl rfl (Nat.le_of_ble_eq_true rfl) ⟨(Nat.le_of_ble_eq_true rfl), (Nat.le_of_ble_eq_true rfl), Nat.le_trans (m := 26) (by omega) (Nat.le_refl _), Nat.le_trans (m := 168) (by omega) (Nat.le_refl _)⟩ (i_pk (up1_same _ _ _)) ?_
        intro v z' sh2 mi2 mr2 ⟨hv, hz2, hL, hm, hB0⟩
        subst hv
        have hB := hB0.new
        have b2 := hL.1
        have b1 : sh2 (a + 1) = (14, 12) := by rw [(hB _ (by omega)).1]; exact g3
        refine r_aast (r := (RX4, TX4, 4)) dX0_init_41 (by assumption) (by decide) (by intro _; rfl) (by assumption) (by rfl) (by decide) (by omega) (by omega) ?_
        refine r_iincN 1 (b := 1) (ls2 := [_, _]) dX0_init_42 rfl (by decide) (by decide) rfl ?_
        refine r_goto 23 dX0_init_45 (by decide) ?_
        refine ih (i + 1) _ _ z' sh2 mi2 _ (by omega) (by omega) (by omega) (by omega) ?_ ?_ b1 ?_ ?_ (fun j hj => ?_) ?_ (fun q hq => ?_)
        · rw [(hB _ (by omega)).1]; exact g1
        · rw [up2_row _ _ (by omega), (hB _ (by omega)).2.2]; exact g2
        · rw [up2_row _ _ (by omega), (hB _ (by omega)).2.2]; exact g4
        · rw [(hB _ (by omega)).1]; exact g5
        · by_cases e : j = i
          · subst e
            refine ⟨?_, by rw [up2_same, hz]⟩
            rw [← hz]; exact hL.loc (fun q q1 q2 => ⟨rfl, up2_row _ _ (by omega)⟩)
          · obtain ⟨w1, w2⟩ := g6 j (by omega)
            exact ⟨w1.loc (fun q q1 q2 => ⟨(hB q (by omega)).1, by rw [up2_row _ _ (by omega)]; exact (hB q (by omega)).2.2⟩), by rw [up2_ne _ _ (Or.inr e), (hB _ (by omega)).2.2]; exact w2⟩
        · rw [(hB _ (by omega)).2.1]; exact g7
        · obtain ⟨w1, w2, w3⟩ := g8 q hq
          obtain ⟨v1, v2, v3⟩ := hB q (by omega)
          exact ⟨v1.trans w1, v2.trans w2, by rw [up2_row _ _ (by omega)]; exact v3.trans w3⟩
  have n2 : ¬ a = a + 1 + 1 := by omega
  have n3 : ¬ a = a + 1 + 1 + 1 := by omega
  refine Mv.of pnX0_init (Nat.le_of_ble_eq_true rfl) rfl ?_
  refine r_aload_n 0 dX0_init_0 rfl rfl ?_
  refine r_objInit dX0_init_1 ml_RX0_3 ⟨(Nat.le_of_ble_eq_true rfl), (Nat.le_of_ble_eq_true rfl)⟩ x_oi x_oc ?_
  refine r_aload_n 0 dX0_init_4 rfl rfl ?_
  refine r_bipush (v := nI 12) dX0_init_5 (by decide) ?_
  refine r_anew (κ := 14) dX0_init_7 (by decide) (by intro _; rfl) cl_RX0_9 (fun _ h => h.2.2.1) (by decide) ⟨(Nat.le_of_ble_eq_true rfl), (Nat.le_of_ble_eq_true rfl)⟩ ?_
  have hA : up1 sh (a + 1) (14, 12) a = (0, 0) := by rw [up1_ne _ _ (by omega)]; exact hs
  refine r_putRF rfl dX0_init_10 fl_RX0_11 ⟨_, _, rfl⟩ rfl rfl rfl (by assumption) ?_
  refine r_aload_n 0 dX0_init_13 rfl rfl ?_
  refine r_bipush (v := nI 12) dX0_init_14 (by decide) ?_
  refine r_newarr (κ := 11) dX0_init_16 rfl (by decide) ac_int (by decide) ⟨(Nat.le_of_ble_eq_true rfl), (Nat.le_of_ble_eq_true rfl)⟩ ?_
  have hB : up1 (up1 sh (a + 1) (14, 12)) (a + 1 + 1) (11, 12) a = (0, 0) := by rw [up1_ne _ _ (by omega)]; exact hA
  refine r_putRF rfl dX0_init_18 fl_RX0_17 ⟨_, _, rfl⟩ rfl rfl rfl (by assumption) ?_
  refine r_iconst (v := nI 0) dX0_init_21 (by decide) ?_
  refine r_istore_n 1 (ls2 := [_, _]) dX0_init_22 rfl (by decide) (Nat.le_of_ble_eq_true rfl) rfl ?_
  refine H 12 0 _ _ _ _ _ _ rfl rfl rfl rfl hB ?_ ?_ ?_ ?_ (fun j hj => by omega) ?_ (fun q hq => ⟨?_, ?_, ?_⟩)
  · simp [up1, up2, n2, n3]
  · simp [up1, up2, n2, n3]
  · simp [up1, up2, n2, n3]
  · simp [up1, up2, n2, n3]
  · rw [up1_ne _ _ (by omega), up1_ne _ _ (by omega)]
  · rw [up1_ne _ _ (by omega), up1_ne _ _ (by omega)]
  · rw [up1_ne _ _ (by omega), up1_ne _ _ (by omega)]
  · rw [up2_row _ _ (by omega), up1_ne _ _ (by omega), up2_row _ _ (by omega), up1_ne _ _ (by omega)]
end INIT
