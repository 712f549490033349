section STAT
variable {z : Nat} {sh : SH} {mi : MI} {mr : MR} {a : Nat}
def SeC (mi : MI) (a : Nat) (se : Se) : Prop := mi a 0 = nI (en 32 se.1) ∧ NmC mi (a + 1) se.2.1 ∧ NmC mi (a + 3) se.2.2.1 ∧ mi a 3 = nI se.2.2.2.1 ∧ mi a 4 = nI se.2.2.2.2.1 ∧ mi a 5 = nI se.2.2.2.2.2
def TaC (mi : MI) (a : Nat) (t : Nat → Nat) : Prop := ∀ w, w < 9 → mi (a + 5) w = nI (t w)
def LaC (mi : MI) (a : Nat) (l : Option (Pk × Nat)) : Prop := ∀ p t, l = some (p, t) → PkC mi (a + 37) p ∧ mi a 10 = nI t
def StC (mi : MI) (mr : MR) (a : Nat) (st : St) : Prop := SeC mi a st.1 ∧ TaC mi a st.2.1 ∧ KpC mi mr (a + 6) st.2.2.1 ∧ KpR mr (a + 6) ∧ KnC mi (a + 33) st.2.2.2.1 ∧ LaC mi a st.2.2.2.2
def okSe (se : Se) : Prop := okL 3 se.1 ∧ (se.2.1.length ≤ 2 ∧ ∀ x ∈ se.2.1, okL 3 x) ∧ (se.2.2.1.length ≤ 2 ∧ ∀ x ∈ se.2.2.1, okL 3 x) ∧ (1 ≤ se.2.2.2.1 ∧ se.2.2.2.1 ≤ 7) ∧ (1 ≤ se.2.2.2.2.1 ∧ se.2.2.2.2.1 ≤ 3) ∧ se.2.2.2.2.2 ≤ 60
def okKp (l : Kp) (now : Nat) : Prop := l.length ≤ 12 ∧ ∀ q ∈ l, okP q.1 ∧ q.2 ≤ now + 3
def okKn (l : Kn) (now : Nat) : Prop := l.length ≤ 16 ∧ (∀ q ∈ l, okL 3 q.1 ∧ okL 4 q.2.1 ∧ q.2.2 ≤ now) ∧ l.Pairwise (fun x y => ¬ (x.1 = y.1 ∧ x.2.1 = y.2.1))
def okSt (st : St) (now : Nat) : Prop := okSe st.1 ∧ (∀ w, w < 9 → st.2.1 w ≤ now) ∧ okKp st.2.2.1 now ∧ okKn st.2.2.2.1 now ∧ (∀ p t, st.2.2.2.2 = some (p, t) → okP p ∧ t < now)
theorem NmC.keep {m m' : MI} {x : Nat} {l : List Nm} (h : NmC m x l) (h1 : m' x = m x) (h2 : m' (x + 1) = m (x + 1)) : NmC m' x l := by
  unfold NmC at *; rw [h1, h2]; exact h
theorem KnC.keep {m m' : MI} {x : Nat} {l : Kn} (h : KnC m x l) (hx : ∀ y, x ≤ y → y < x + 4 → m' y = m y) : KnC m' x l := by
  unfold KnC at *; rw [hx x (by omega) (by omega), hx (x + 1) (by omega) (by omega), hx (x + 2) (by omega) (by omega), hx (x + 3) (by omega) (by omega)]; exact h
theorem KpC.keep {m m' : MI} {r : MR} {x : Nat} {l : Kp} (h : KpC m r x l) (hR : KpR r x) (hl : l.length ≤ 12) (hx : ∀ y, x ≤ y → y < x + 27 → m' y = m y) : KpC m' r x l := by
  obtain ⟨f, f1, f2⟩ := hR
  refine ⟨by rw [hx x (by omega) (by omega)]; exact h.1, fun i q hq => ?_⟩
  obtain ⟨s1, y, s2, s3⟩ := h.2 i q hq
  have hi := gl_lt hq
  obtain ⟨g1, g2⟩ := f1 i (by omega)
  have hy : y = x + 3 + 2 * f i := Option.some.inj (s2.symm.trans g2)
  exact ⟨by rw [hx (x + 2) (by omega) (by omega)]; exact s1, y, s2, s3.keep (hx y (by omega) (by omega)) (hx (y + 1) (by omega) (by omega))⟩
theorem SeC.keep {m m' : MI} {se : Se} (h : SeC m a se) (h0 : ∀ k, k ≠ 10 → m' a k = m a k) (hx : ∀ y, a + 1 ≤ y → y < a + 5 → m' y = m y) : SeC m' a se := by
  obtain ⟨e1, e2, e3, e4, e5, e6⟩ := h
  exact ⟨by rw [h0 0 (by omega)]; exact e1, e2.keep (hx _ (by omega) (by omega)) (hx _ (by omega) (by omega)), e3.keep (hx _ (by omega) (by omega)) (hx _ (by omega) (by omega)), by rw [h0 3 (by omega)]; exact e4, by rw [h0 4 (by omega)]; exact e5, by rw [h0 5 (by omega)]; exact e6⟩
theorem TaC.keep {m m' : MI} {t : Nat → Nat} (h : TaC m a t) (hx : m' (a + 5) = m (a + 5)) : TaC m' a t := fun w hw => by rw [hx]; exact h w hw
theorem LaC.keep {m m' : MI} {l : Option (Pk × Nat)} (h : LaC m a l) (h0 : m' a 10 = m a 10) (h1 : m' (a + 37) = m (a + 37)) (h2 : m' (a + 38) = m (a + 38)) : LaC m' a l := fun p t e => by
  obtain ⟨g1, g2⟩ := h p t e
  exact ⟨g1.keep h1 h2, by rw [h0]; exact g2⟩
theorem TaC.up {m : MI} {t : Nat → Nat} {w : Nat} (h : TaC m a t) : TaC (up2 m (a + 5) w (nI (t w + 1))) a (bump t w) := fun v hv => by
  by_cases e : v = w
  · subst e; rw [up2_same]; simp [bump]
  · rw [up2_ne _ _ (Or.inr e)]; simp only [bump, if_neg e]; exact h v hv
/-- a tally one more -/
theorem StC.tal {m : MI} {st : St} {w : Nat} (h : StC m mr a st) (hl : st.2.2.1.length ≤ 12) : StC (up2 m (a + 5) w (nI (st.2.1 w + 1))) mr a (st.1, bump st.2.1 w, st.2.2) := by
  obtain ⟨h1, h2, h3, h4, h5, h6⟩ := h
  exact ⟨h1.keep (fun k _ => by rw [up2_row _ _ (by omega)]) (fun y h1 h2 => up2_row _ _ (by omega)), h2.up, h3.keep h4 hl (fun y h1 h2 => up2_row _ _ (by omega)), h4, h5.keep (fun y h1 h2 => up2_row _ _ (by omega)), h6.keep (by rw [up2_row _ _ (by omega)]) (up2_row _ _ (by omega)) (up2_row _ _ (by omega))⟩
/-- other rows than the station's -/
theorem StC.keep {m m' : MI} {st : St} (h : StC m mr a st) (hl : st.2.2.1.length ≤ 12) (hx : ∀ y, a ≤ y → y < a + 43 → m' y = m y) : StC m' mr a st := by
  obtain ⟨h1, h2, h3, h4, h5, h6⟩ := h
  exact ⟨h1.keep (fun k _ => by rw [hx a (by omega) (by omega)]) (fun y h1 h2 => hx y (by omega) (by omega)), h2.keep (hx _ (by omega) (by omega)), h3.keep h4 hl (fun y h1 h2 => hx y (by omega) (by omega)), h4, h5.keep (fun y h1 h2 => hx y (by omega) (by omega)), h6.keep (by rw [hx a (by omega) (by omega)]) (hx _ (by omega) (by omega)) (hx _ (by omega) (by omega))⟩
theorem c_hasHeard (hL : LSt sh mr a) {t : Nat → Nat} (hT : TaC mi a t) (ht : t 1 < 2 ^ 31) : Mp mX6_hasHeard 0 [.ref a] z sh mi mr (b2 (decide (0 < t 1))) := by
  obtain ⟨l0, ⟨l1, l2⟩, ⟨l3, l4⟩, ⟨l5, l6⟩, ⟨l7, l8⟩, ⟨l9, l10⟩, ⟨l11, l12⟩, ⟨l13, l14⟩, ⟨l15, l16⟩⟩ := id hL
  have t1 := hT 1 (by omega)
  refine Mv.of pnX6_hasHeard (Nat.le_of_ble_eq_true rfl) rfl ?_
  refine r_aload_n 0 dX6_hasHeard_0 rfl rfl ?_
  refine r_getR dX6_hasHeard_1 fl_RX6_31 rfl (by assumption) (by assumption) ?_
  refine r_iconst (v := nI 1) dX6_hasHeard_4 (by decide) ?_
  refine r_ialdV dX6_hasHeard_5 (by assumption) (by omega) (by omega) (by first | assumption | exact up2_same _ _ _ _ | exact (Eq.trans (up2_ne _ _ (by omega)) (by first | assumption | exact up2_same _ _ _ _)) | exact (Eq.trans (up2_ne _ _ (by omega)) (Eq.trans (up2_ne _ _ (by omega)) (by first | assumption | exact up2_same _ _ _ _))) | exact (Eq.trans (up2_ne _ _ (by omega)) (Eq.trans (up2_ne _ _ (by omega)) (Eq.trans (up2_ne _ _ (by omega)) (by first | assumption | exact up2_same _ _ _ _)))) | exact (Eq.trans (up2_ne _ _ (by omega)) (Eq.trans (up2_ne _ _ (by omega)) (Eq.trans (up2_ne _ _ (by omega)) (Eq.trans (up2_ne _ _ (by omega)) (by first | assumption | exact up2_same _ _ _ _))))) | rfl) ?_
  refine r_ifN_le 13 dX6_hasHeard_6 (by decide) (by omega) (fun h6 => ?_) (fun h6 => ?_)
  · refine r_iconst (v := nI 0) dX6_hasHeard_13 (by decide) ?_
    refine r_zret dX6_hasHeard_14 rfl (by first | exact b2_nar _ | decide) (Nat.le_of_ble_eq_true rfl) (Nat.le_of_ble_eq_true rfl) ?_
    refine ⟨rfl, rfl, rfl, ?_, rfl⟩
    first | (rw [show decide (0 < t 1) = false by simp; omega]; rfl) | (rw [show decide (0 < t 1) = true by simp; omega]; rfl)
  · refine r_iconst (v := nI 1) dX6_hasHeard_9 (by decide) ?_
    refine r_goto 14 dX6_hasHeard_10 (by decide) ?_
    refine r_zret dX6_hasHeard_14 rfl (by first | exact b2_nar _ | decide) (Nat.le_of_ble_eq_true rfl) (Nat.le_of_ble_eq_true rfl) ?_
    refine ⟨rfl, rfl, rfl, ?_, rfl⟩
    first | (rw [show decide (0 < t 1) = false by simp; omega]; rfl) | (rw [show decide (0 < t 1) = true by simp; omega]; rfl)
theorem c_putFull {b : Nat} (hL : LPk sh mr b) {n i : Nat} {x : Int32} (hn : mi b 1 = nI n) (h8 : n = 8) (hi : i < n) : Mi mX4_putAhead 1 [.ref b, .int (nI i), .int x] z sh mi mr (fun v mi' => v = none ∧ mi' = mi) := by
  obtain ⟨l0, l1, l2⟩ := id hL
  refine Mv.of pnX4_putAhead (Nat.le_of_ble_eq_true rfl) rfl ?_
  refine r_aload_n 0 dX4_putAhead_0 rfl rfl ?_
  refine r_iload_n 1 dX4_putAhead_1 rfl rfl ?_
  refine r_callVp [_] dX4_putAhead_2 ok_RX4_31 ivX4_isPlace (by assumption) ⟨_, _, rfl⟩ rfl rfl (Nat.le_of_ble_eq_true rfl) (by refine ⟨?_, ?_, ?_, ?_⟩ <;> exact Nat.le_of_ble_eq_true rfl) (c_isPlace hL hn (by omega) (by omega)) ?_
  refine r_ifB_eq 17 dX4_putAhead_5 (by decide) (fun h5 => ?_) (fun h5 => ?_)
  · refine r_vret dX4_putAhead_17 rfl (Nat.le_of_ble_eq_true rfl) (Nat.le_of_ble_eq_true rfl) ?_
    exact ⟨rfl, rfl, rfl, rfl, rfl⟩
  · refine r_aload_n 0 dX4_putAhead_8 rfl rfl ?_
    refine r_getV dX4_putAhead_9 fl_RX4_21 rfl (by assumption) (by first | assumption | exact up2_same _ _ _ _ | exact (Eq.trans (up2_ne _ _ (by omega)) (by first | assumption | exact up2_same _ _ _ _)) | exact (Eq.trans (up2_ne _ _ (by omega)) (Eq.trans (up2_ne _ _ (by omega)) (by first | assumption | exact up2_same _ _ _ _))) | exact (Eq.trans (up2_ne _ _ (by omega)) (Eq.trans (up2_ne _ _ (by omega)) (Eq.trans (up2_ne _ _ (by omega)) (by first | assumption | exact up2_same _ _ _ _)))) | exact (Eq.trans (up2_ne _ _ (by omega)) (Eq.trans (up2_ne _ _ (by omega)) (Eq.trans (up2_ne _ _ (by omega)) (Eq.trans (up2_ne _ _ (by omega)) (by first | assumption | exact up2_same _ _ _ _))))) | rfl) ?_
    refine r_bipush (v := nI 8) dX4_putAhead_12 (by decide) ?_
    refine r_icmpN_lt 18 dX4_putAhead_14 (by decide) (by omega) (by omega) (fun h14 => ?_) (fun h14 => ?_)
    · omega
    · refine r_vret dX4_putAhead_17 rfl (Nat.le_of_ble_eq_true rfl) (Nat.le_of_ble_eq_true rfl) ?_
      exact ⟨rfl, rfl, rfl, rfl, rfl⟩
theorem ins_get {α : Type} (ws : List α) {i : Nat} (h : i < ws.length) (s w : α) (j : Nat) : (ws.take i ++ s :: w :: ws.drop (i + 1))[j]? = if j < i then ws[j]? else if j = i then some s else if j = i + 1 then some w else ws[j - 1]? := by
  have hl : (ws.take i).length = i := by simp; omega
  by_cases h1 : j < i
  · rw [if_pos h1, List.getElem?_append_left (by omega), List.getElem?_take_of_lt h1]
  · rw [if_neg h1, List.getElem?_append_right (by omega), hl]
    by_cases h2 : j = i
    · rw [if_pos h2, h2, Nat.sub_self]; rfl
    · rw [if_neg h2]
      by_cases h3 : j = i + 1
      · rw [if_pos h3, h3, show i + 1 - i = 1 by omega]; rfl
      · rw [if_neg h3, show j - i = (j - i - 2) + 1 + 1 by omega, List.getElem?_cons_succ, List.getElem?_cons_succ, List.getElem?_drop, show i + 1 + (j - i - 2) = j - 1 by omega]
theorem c_change {b : Nat} (hL : LSt sh mr a) (hB : LPk sh mr b) {se : Se} (hS : SeC mi a se) (hse : okSe se) {p : Pk} (hP : PkC mi b p) (hp : okP p) {i : Nat} {w : Wd} (hw : p.2.2[i]? = some w) : Mi mX6_changeIfMeant 2 [.ref a, .ref b, .int (nI i)] z sh mi mr (fun v m => (∀ x, x ≠ b → x ≠ b + 1 → m x = mi x) ∧ match chg se p i with
    | none => v = some (.int (nI 0))
    | some p' => v = some (.int (nI 1)) ∧ PkC m b p' ∧ okP p') := by
  obtain ⟨l0, ⟨l1, l2⟩, ⟨l3, l4⟩, ⟨l5, l6⟩, ⟨l7, l8⟩, ⟨l9, l10⟩, ⟨l11, l12⟩, ⟨l13, l14⟩, ⟨l15, l16⟩⟩ := id hL
  obtain ⟨k0, k1, k2⟩ := id hB
  obtain ⟨s0, s1, s2, s3, s4, s5⟩ := id hS
  obtain ⟨o1, ⟨o2, o3⟩, ⟨o4, o5⟩, o6, o7, o8⟩ := id hse
  obtain ⟨p1, p2, p3, p4⟩ := id hP
  obtain ⟨n0, n1, n2⟩ := id l2
  obtain ⟨f0, f1, f2⟩ := id l4
  have h8 := hp.2.2.1
  have hil := gl_lt hw
  have hv := p4 i w hw
  have hwk := hp.2.2.2 w (gl_mem hw)
  have hvl := wc_lt hwk
  have e1 := wc_div16 (b := 32) hwk.2
  have e2 := wc_hops (b := 32) hwk.2
  have e3 := wc_mod2 32 w
  have hwn := okL_32 hwk.1
  have hcn := okL_32 o1
  have hw7 := hwk.2
  have nab : a ≠ b + 1 := fun e => by rw [← e, l0] at k2; cases k2
  have nab2 : a ≠ b := fun e => by rw [← e, l0] at k0; cases k0
  -- the word is spent by the call
  have hset : ∀ w' : Wd, okW w' → PkC (up2 mi (b + 1) i (nI (wc 32 w'))) b (p.1, p.2.1, p.2.2.set i w') ∧ okP (p.1, p.2.1, p.2.2.set i w') := by
    intro w' hw'
    refine ⟨⟨by rw [up2_row _ _ (by omega)]; simpa using p1, by rw [up2_row _ _ (by omega)]; exact p2, by rw [up2_row _ _ (by omega)]; exact p3, fun j x hx => ?_⟩, hp.1, hp.2.1, by simpa using h8, fun x hx => ?_⟩
    · by_cases hj : j = i
      · subst hj
        rw [List.getElem?_set_self hil] at hx
        cases hx; exact up2_same _ _ _ _
      · rw [List.getElem?_set_ne (Ne.symm hj)] at hx
        rw [up2_ne _ _ (Or.inr hj)]; exact p4 j x hx
    · rcases List.mem_or_eq_of_mem_set hx with h | h
      · exact hp.2.2.2 x h
      · rw [h]; exact hw'
  have hspw : okW (se.1, 0, true) := ⟨o1, by show 0 ≤ 7; omega⟩
  have hspc : wc 32 (se.1, 0, true) = 16 * en 32 se.1 + 1 := rfl
  have hsp : ∀ m, m = up2 mi (b + 1) i (nI (16 * en 32 se.1 + 1)) → chg se p i = some (p.1, p.2.1, p.2.2.set i (se.1, 0, true)) → ((∀ x, x ≠ b → x ≠ b + 1 → m x = mi x) ∧ match chg se p i with | none => some (Value.int (nI 1)) = some (.int (nI 0)) | some p' => some (Value.int (nI 1)) = some (.int (nI 1)) ∧ PkC m b p' ∧ okP p') := by
    intro m hm hc
    subst hm
    rw [hc]
    exact ⟨fun x _ h2 => up2_row _ _ h2, rfl, hset (se.1, 0, true) hspw⟩
  have K37 : (w.1 = se.1 ∨ (w.2.1 = 0 ∧ w.1 ∈ se.2.1)) → Wp yX6_changeIfMeant cX6_changeIfMeant 6 (some .boolean) (EI 2 z sh mr (fun v m => (∀ x, x ≠ b → x ≠ b + 1 → m x = mi x) ∧ match chg se p i with | none => v = some (.int (nI 0)) | some p' => v = some (.int (nI 1)) ∧ PkC m b p' ∧ okP p')) 0 0 37 [.ref a, .ref b, .int (nI i), .int (nI (en 32 w.1)), .int (nI w.2.1)] [] z sh mi mr := by
    intro h
    refine r_aload_n 1 dX6_changeIfMeant_37 rfl rfl ?_
    refine r_iload_n 2 dX6_changeIfMeant_38 rfl rfl ?_
    refine r_aload_n 0 dX6_changeIfMeant_39 rfl rfl ?_
    refine r_getV dX6_changeIfMeant_40 fl_RX6_62 rfl (by assumption) (by first | assumption | exact up2_same _ _ _ _ | exact (Eq.trans (up2_ne _ _ (by omega)) (by first | assumption | exact up2_same _ _ _ _)) | exact (Eq.trans (up2_ne _ _ (by omega)) (Eq.trans (up2_ne _ _ (by omega)) (by first | assumption | exact up2_same _ _ _ _))) | exact (Eq.trans (up2_ne _ _ (by omega)) (Eq.trans (up2_ne _ _ (by omega)) (Eq.trans (up2_ne _ _ (by omega)) (by first | assumption | exact up2_same _ _ _ _)))) | exact (Eq.trans (up2_ne _ _ (by omega)) (Eq.trans (up2_ne _ _ (by omega)) (Eq.trans (up2_ne _ _ (by omega)) (Eq.trans (up2_ne _ _ (by omega)) (by first | assumption | exact up2_same _ _ _ _))))) | rfl) ?_
    refine r_callVw [_, _] dX6_changeIfMeant_43 ok_RX6_139 ivX4_spend (by assumption) ⟨_, _, rfl⟩ rfl rfl (Nat.le_of_ble_eq_true rfl) (by refine ⟨?_, ?_, ?_, ?_⟩ <;> exact Nat.le_of_ble_eq_true rfl) (c_spend hB p1 h8 hil hcn) ?_
    intro m hm
    refine r_iconst (v := nI 1) dX6_changeIfMeant_46 (by decide) ?_
    refine r_zret dX6_changeIfMeant_47 rfl (by first | exact b2_nar _ | decide) (Nat.le_of_ble_eq_true rfl) (Nat.le_of_ble_eq_true rfl) ?_
    exact ⟨rfl, rfl, rfl, hsp m hm (by unfold chg; rw [hw]; simp only; rw [if_pos h])⟩
  have K66 : ¬ (w.1 = se.1 ∨ (w.2.1 = 0 ∧ w.1 ∈ se.2.1)) → ¬ (w.2.1 = 0 ∨ w.1 ∉ se.2.2.1) → Wp yX6_changeIfMeant cX6_changeIfMeant 6 (some .boolean) (EI 2 z sh mr (fun v m => (∀ x, x ≠ b → x ≠ b + 1 → m x = mi x) ∧ match chg se p i with | none => v = some (.int (nI 0)) | some p' => v = some (.int (nI 1)) ∧ PkC m b p' ∧ okP p')) 0 0 66 [.ref a, .ref b, .int (nI i), .int (nI (en 32 w.1)), .int (nI w.2.1)] [] z sh mi mr := by
    intro h1 h2
    have hmin : (if nI se.2.2.2.1 < nI w.2.1 then nI se.2.2.2.1 else nI w.2.1) = nI (min w.2.1 se.2.2.2.1) := by
      by_cases hh : se.2.2.2.1 < w.2.1
      · rw [if_pos ((nI_ltI (by omega) (by omega)).mpr hh), Nat.min_eq_right (by omega)]
      · rw [if_neg (fun e => hh ((nI_ltI (by omega) (by omega)).mp e)), Nat.min_eq_left (by omega)]
    have hm1 : 1 ≤ min w.2.1 se.2.2.2.1 := by omega
    have hm7 : min w.2.1 se.2.2.2.1 ≤ 7 := by omega
    have K112 : ∀ {m : MI}, m = up2 mi (b + 1) i (nI (16 * en 32 se.1 + 1)) → min w.2.1 se.2.2.2.1 - 1 = 0 → Wp yX6_changeIfMeant cX6_changeIfMeant 6 (some .boolean) (EI 2 z sh mr (fun v m => (∀ x, x ≠ b → x ≠ b + 1 → m x = mi x) ∧ match chg se p i with | none => v = some (.int (nI 0)) | some p' => v = some (.int (nI 1)) ∧ PkC m b p' ∧ okP p')) 0 0 112 [.ref a, .ref b, .int (nI i), .int (nI (en 32 w.1)), .int (nI w.2.1), .int (nI (min w.2.1 se.2.2.2.1 - 1))] [] z sh m mr := by
      intro m hm h81
      refine r_iconst (v := nI 1) dX6_changeIfMeant_112 (by decide) ?_
      refine r_zret dX6_changeIfMeant_113 rfl (by first | exact b2_nar _ | decide) (Nat.le_of_ble_eq_true rfl) (Nat.le_of_ble_eq_true rfl) ?_
      exact ⟨rfl, rfl, rfl, hsp m hm (by unfold chg; rw [hw]; simp only; rw [if_neg h1, if_neg h2, if_pos h81])⟩
    have hneww : okW (w.1, min w.2.1 se.2.2.2.1 - 1, w.2.2) := ⟨hwk.1, by show _ - 1 ≤ 7; omega⟩
    have hnewc : wc 32 w / 16 * 16 + 2 * (min w.2.1 se.2.2.2.1 - 1) + wc 32 w % 2 = wc 32 (w.1, min w.2.1 se.2.2.2.1 - 1, w.2.2) := by
      rw [e1, e3]; show en 32 w.1 * 16 + 2 * (min w.2.1 se.2.2.2.1 - 1) + bn w.2.2 = 16 * en 32 w.1 + 2 * (min w.2.1 se.2.2.2.1 - 1) + bn w.2.2; omega
    have K103 : ∀ m : MI, m = up2 mi (b + 1) i (nI (wc 32 w / 16 * 16 + 2 * (min w.2.1 se.2.2.2.1 - 1) + wc 32 w % 2)) → min w.2.1 se.2.2.2.1 - 1 ≠ 0 → Wp yX6_changeIfMeant cX6_changeIfMeant 6 (some .boolean) (EI 2 z sh mr (fun v m => (∀ x, x ≠ b → x ≠ b + 1 → m x = mi x) ∧ match chg se p i with | none => v = some (.int (nI 0)) | some p' => v = some (.int (nI 1)) ∧ PkC m b p' ∧ okP p')) 0 0 103 [.ref a, .ref b, .int (nI i), .int (nI (en 32 w.1)), .int (nI w.2.1), .int (nI (min w.2.1 se.2.2.2.1 - 1))] [] z sh m mr := by
      intro m hm h81
      rw [hnewc] at hm
      obtain ⟨hq1, hq2⟩ := hset _ hneww
      rw [← hm] at hq1
      have hlen : (p.2.2.set i (w.1, min w.2.1 se.2.2.2.1 - 1, w.2.2)).length = p.2.2.length := List.length_set
      have hmb : m b 1 = nI p.2.2.length := by rw [hm, up2_row _ _ (by omega)]; exact p1
      have hma : m a 0 = nI (en 32 se.1) := by rw [hm, up2_row _ _ nab]; exact s0
      by_cases h8' : p.2.2.length < 8
      · have hc : chg se p i = some (p.1, p.2.1, p.2.2.take i ++ (se.1, 0, true) :: (w.1, min w.2.1 se.2.2.2.1 - 1, w.2.2) :: p.2.2.drop (i + 1)) := by
          unfold chg; rw [hw]; simp only; rw [if_neg h1, if_neg h2, if_neg h81, if_pos h8']
        refine r_aload_n 1 dX6_changeIfMeant_103 rfl rfl ?_
        refine r_iload_n 2 dX6_changeIfMeant_104 rfl rfl ?_
        refine r_aload_n 0 dX6_changeIfMeant_105 rfl rfl ?_
        refine r_getV dX6_changeIfMeant_106 fl_RX6_62 rfl (by assumption) (by first | assumption | exact up2_same _ _ _ _ | exact (Eq.trans (up2_ne _ _ (by omega)) (by first | assumption | exact up2_same _ _ _ _)) | exact (Eq.trans (up2_ne _ _ (by omega)) (Eq.trans (up2_ne _ _ (by omega)) (by first | assumption | exact up2_same _ _ _ _))) | exact (Eq.trans (up2_ne _ _ (by omega)) (Eq.trans (up2_ne _ _ (by omega)) (Eq.trans (up2_ne _ _ (by omega)) (by first | assumption | exact up2_same _ _ _ _)))) | exact (Eq.trans (up2_ne _ _ (by omega)) (Eq.trans (up2_ne _ _ (by omega)) (Eq.trans (up2_ne _ _ (by omega)) (Eq.trans (up2_ne _ _ (by omega)) (by first | assumption | exact up2_same _ _ _ _))))) | rfl) ?_
        refine r_callVw [_, _] dX6_changeIfMeant_109 ok_RX6_151 ivX4_putAhead (by assumption) ⟨_, _, rfl⟩ rfl rfl (Nat.le_of_ble_eq_true rfl) (by refine ⟨?_, ?_, ?_, ?_⟩ <;> exact Nat.le_of_ble_eq_true rfl) (c_putAhead hB hmb h8' hil hcn) ?_
        intro m2 hm2
        refine r_iconst (v := nI 1) dX6_changeIfMeant_112 (by decide) ?_
        refine r_zret dX6_changeIfMeant_113 rfl (by first | exact b2_nar _ | decide) (Nat.le_of_ble_eq_true rfl) (Nat.le_of_ble_eq_true rfl) ?_
        refine ⟨rfl, rfl, rfl, fun x h1 h2 => ?_, ?_⟩
        · rw [hm2, up2_row _ _ h1, up2_row _ _ h2, upR_ne _ _ h2, hm, up2_row _ _ h2]
        · rw [hc]
          have hgl : (p.2.2.take i ++ (se.1, 0, true) :: (w.1, min w.2.1 se.2.2.2.1 - 1, w.2.2) :: p.2.2.drop (i + 1)).length = p.2.2.length + 1 := by simp; omega
          refine ⟨rfl, ⟨?_, ?_, ?_, fun j x hx => ?_⟩, hp.1, hp.2.1, by show List.length _ ≤ 8; rw [hgl]; omega, fun x hx => ?_⟩
          · rw [hm2, up2_same]; show _ = nI (List.length _); rw [hgl]
          · rw [hm2, up2_ne _ _ (Or.inr (by omega)), up2_row _ _ (by omega), upR_ne _ _ (by omega), hm, up2_row _ _ (by omega)]; exact p2
          · rw [hm2, up2_ne _ _ (Or.inr (by omega)), up2_row _ _ (by omega), upR_ne _ _ (by omega), hm, up2_row _ _ (by omega)]; exact p3
          · have hx : (p.2.2.take i ++ (se.1, 0, true) :: (w.1, min w.2.1 se.2.2.2.1 - 1, w.2.2) :: p.2.2.drop (i + 1))[j]? = some x := hx
            have hjl := gl_lt hx
            rw [hgl] at hjl
            rw [ins_get _ hil] at hx
            rw [hm2, up2_row _ _ (by omega)]
            by_cases j1 : j < i
            · rw [if_pos j1] at hx
              rw [up2_ne _ _ (Or.inr (by omega)), upR_at]
              unfold shR
              rw [if_neg (by omega), hm, up2_ne _ _ (Or.inr (by omega))]
              exact p4 j x hx
            · rw [if_neg j1] at hx
              by_cases j2 : j = i
              · rw [if_pos j2] at hx
                cases hx
                rw [j2, up2_same, hspc]
              · rw [if_neg j2] at hx
                rw [up2_ne _ _ (Or.inr j2), upR_at]
                unfold shR
                rw [if_pos (by omega)]
                by_cases j3 : j = i + 1
                · rw [if_pos j3] at hx
                  cases hx
                  rw [j3, show i + 1 - 1 = i by omega, hm, up2_same]
                · rw [if_neg j3] at hx
                  rw [hm, up2_ne _ _ (Or.inr (by omega))]
                  exact p4 (j - 1) x hx
          · rcases List.mem_append.mp hx with h | h
            · exact hp.2.2.2 x (List.mem_of_mem_take h)
            · rcases List.mem_cons.mp h with h | h
              · rw [h]; exact hspw
              · rcases List.mem_cons.mp h with h | h
                · rw [h]; exact hneww
                · exact hp.2.2.2 x (List.mem_of_mem_drop h)
      · have hc : chg se p i = some (p.1, p.2.1, p.2.2.set i (w.1, min w.2.1 se.2.2.2.1 - 1, w.2.2)) := by
          unfold chg; rw [hw]; simp only; rw [if_neg h1, if_neg h2, if_neg h81, if_neg h8']
        refine r_aload_n 1 dX6_changeIfMeant_103 rfl rfl ?_
        refine r_iload_n 2 dX6_changeIfMeant_104 rfl rfl ?_
        refine r_aload_n 0 dX6_changeIfMeant_105 rfl rfl ?_
        refine r_getV dX6_changeIfMeant_106 fl_RX6_62 rfl (by assumption) (by first | assumption | exact up2_same _ _ _ _ | exact (Eq.trans (up2_ne _ _ (by omega)) (by first | assumption | exact up2_same _ _ _ _)) | exact (Eq.trans (up2_ne _ _ (by omega)) (Eq.trans (up2_ne _ _ (by omega)) (by first | assumption | exact up2_same _ _ _ _))) | exact (Eq.trans (up2_ne _ _ (by omega)) (Eq.trans (up2_ne _ _ (by omega)) (Eq.trans (up2_ne _ _ (by omega)) (by first | assumption | exact up2_same _ _ _ _)))) | exact (Eq.trans (up2_ne _ _ (by omega)) (Eq.trans (up2_ne _ _ (by omega)) (Eq.trans (up2_ne _ _ (by omega)) (Eq.trans (up2_ne _ _ (by omega)) (by first | assumption | exact up2_same _ _ _ _))))) | rfl) ?_
        refine r_callVw [_, _] dX6_changeIfMeant_109 ok_RX6_151 ivX4_putAhead (by assumption) ⟨_, _, rfl⟩ rfl rfl (Nat.le_of_ble_eq_true rfl) (by refine ⟨?_, ?_, ?_, ?_⟩ <;> exact Nat.le_of_ble_eq_true rfl) (c_putFull hB hmb (by omega) hil) ?_
        intro m2 hm2
        refine r_iconst (v := nI 1) dX6_changeIfMeant_112 (by decide) ?_
        refine r_zret dX6_changeIfMeant_113 rfl (by first | exact b2_nar _ | decide) (Nat.le_of_ble_eq_true rfl) (Nat.le_of_ble_eq_true rfl) ?_
        refine ⟨rfl, rfl, rfl, fun x h1 h2 => ?_, ?_⟩
        · rw [hm2, hm, up2_row _ _ h2]
        · rw [hc, hm2]
          exact ⟨rfl, hq1, hq2⟩
    refine r_iload 4 dX6_changeIfMeant_66 rfl ?_
    refine r_aload_n 0 dX6_changeIfMeant_68 rfl rfl ?_
    refine r_getV dX6_changeIfMeant_69 fl_RX6_21 rfl (by assumption) (by first | assumption | exact up2_same _ _ _ _ | exact (Eq.trans (up2_ne _ _ (by omega)) (by first | assumption | exact up2_same _ _ _ _)) | exact (Eq.trans (up2_ne _ _ (by omega)) (Eq.trans (up2_ne _ _ (by omega)) (by first | assumption | exact up2_same _ _ _ _))) | exact (Eq.trans (up2_ne _ _ (by omega)) (Eq.trans (up2_ne _ _ (by omega)) (Eq.trans (up2_ne _ _ (by omega)) (by first | assumption | exact up2_same _ _ _ _)))) | exact (Eq.trans (up2_ne _ _ (by omega)) (Eq.trans (up2_ne _ _ (by omega)) (Eq.trans (up2_ne _ _ (by omega)) (Eq.trans (up2_ne _ _ (by omega)) (by first | assumption | exact up2_same _ _ _ _))))) | rfl) ?_
    refine r_min dX6_changeIfMeant_72 ml_RX6_142 x_ms x_mi x_mc ⟨(Nat.le_of_ble_eq_true rfl), (Nat.le_of_ble_eq_true rfl), (Nat.le_of_ble_eq_true rfl), (Nat.le_of_ble_eq_true rfl)⟩ ?_
    refine r_top hmin ?_
    refine r_iconst (v := nI 1) dX6_changeIfMeant_75 (by decide) ?_
    refine r_isubN dX6_changeIfMeant_76 (by omega) ?_
    refine r_istore 5 (ls2 := [_, _, _, _, _, _]) dX6_changeIfMeant_77 (by decide) (Nat.le_of_ble_eq_true rfl) rfl ?_
    refine r_iload 5 dX6_changeIfMeant_79 rfl ?_
    refine r_ifN_ne 96 dX6_changeIfMeant_81 (by decide) (by omega) (fun h81 => ?_) (fun h81 => ?_)
    · refine r_aload_n 1 dX6_changeIfMeant_96 rfl rfl ?_
      refine r_iload_n 2 dX6_changeIfMeant_97 rfl rfl ?_
      refine r_iload 5 dX6_changeIfMeant_98 rfl ?_
      refine r_callVw [_, _] dX6_changeIfMeant_100 ok_RX6_148 ivX4_setHops (by assumption) ⟨_, _, rfl⟩ rfl rfl (Nat.le_of_ble_eq_true rfl) (by refine ⟨?_, ?_, ?_, ?_⟩ <;> exact Nat.le_of_ble_eq_true rfl) (c_setHops hB p1 h8 hil hv (by omega) (by omega)) ?_
      intro m hm
      exact K103 m hm h81
    · refine r_aload_n 1 dX6_changeIfMeant_84 rfl rfl ?_
      refine r_iload_n 2 dX6_changeIfMeant_85 rfl rfl ?_
      refine r_aload_n 0 dX6_changeIfMeant_86 rfl rfl ?_
      refine r_getV dX6_changeIfMeant_87 fl_RX6_62 rfl (by assumption) (by first | assumption | exact up2_same _ _ _ _ | exact (Eq.trans (up2_ne _ _ (by omega)) (by first | assumption | exact up2_same _ _ _ _)) | exact (Eq.trans (up2_ne _ _ (by omega)) (Eq.trans (up2_ne _ _ (by omega)) (by first | assumption | exact up2_same _ _ _ _))) | exact (Eq.trans (up2_ne _ _ (by omega)) (Eq.trans (up2_ne _ _ (by omega)) (Eq.trans (up2_ne _ _ (by omega)) (by first | assumption | exact up2_same _ _ _ _)))) | exact (Eq.trans (up2_ne _ _ (by omega)) (Eq.trans (up2_ne _ _ (by omega)) (Eq.trans (up2_ne _ _ (by omega)) (Eq.trans (up2_ne _ _ (by omega)) (by first | assumption | exact up2_same _ _ _ _))))) | rfl) ?_
      refine r_callVw [_, _] dX6_changeIfMeant_90 ok_RX6_139 ivX4_spend (by assumption) ⟨_, _, rfl⟩ rfl rfl (Nat.le_of_ble_eq_true rfl) (by refine ⟨?_, ?_, ?_, ?_⟩ <;> exact Nat.le_of_ble_eq_true rfl) (c_spend hB p1 h8 hil hcn) ?_
      intro m hm
      refine r_goto 112 dX6_changeIfMeant_93 (by decide) ?_
      exact K112 hm h81
  have K48 : ¬ (w.1 = se.1 ∨ (w.2.1 = 0 ∧ w.1 ∈ se.2.1)) → Wp yX6_changeIfMeant cX6_changeIfMeant 6 (some .boolean) (EI 2 z sh mr (fun v m => (∀ x, x ≠ b → x ≠ b + 1 → m x = mi x) ∧ match chg se p i with | none => v = some (.int (nI 0)) | some p' => v = some (.int (nI 1)) ∧ PkC m b p' ∧ okP p')) 0 0 48 [.ref a, .ref b, .int (nI i), .int (nI (en 32 w.1)), .int (nI w.2.1)] [] z sh mi mr := by
    intro h1
    have hno : (w.2.1 = 0 ∨ w.1 ∉ se.2.2.1) → chg se p i = none := fun h => by unfold chg; rw [hw]; simp only; rw [if_neg h1, if_pos h]
    refine r_iload 4 dX6_changeIfMeant_48 rfl ?_
    refine r_ifN_eq 64 dX6_changeIfMeant_50 (by decide) (by omega) (fun h50 => ?_) (fun h50 => ?_)
    · refine r_iconst (v := nI 0) dX6_changeIfMeant_64 (by decide) ?_
      refine r_zret dX6_changeIfMeant_65 rfl (by first | exact b2_nar _ | decide) (Nat.le_of_ble_eq_true rfl) (Nat.le_of_ble_eq_true rfl) ?_
      refine ⟨rfl, rfl, rfl, fun _ _ _ => rfl, ?_⟩
      rw [hno (by first | exact Or.inl h50 | exact Or.inr (by simpa using h61))]
    · refine r_aload_n 0 dX6_changeIfMeant_53 rfl rfl ?_
      refine r_getR dX6_changeIfMeant_54 fl_RX6_18 rfl (by assumption) (by assumption) ?_
      refine r_iload_n 3 dX6_changeIfMeant_57 rfl rfl ?_
      refine r_callVp [_] dX6_changeIfMeant_58 ok_RX6_136 ivX2_has (by assumption) ⟨_, _, rfl⟩ rfl rfl (Nat.le_of_ble_eq_true rfl) (by refine ⟨?_, ?_, ?_, ?_⟩ <;> exact Nat.le_of_ble_eq_true rfl) (c_nmHas l4 s2 o4 o5 hwk.1) ?_
      refine r_ifB_ne 66 dX6_changeIfMeant_61 (by decide) (fun h61 => ?_) (fun h61 => ?_)
      · exact K66 h1 (by rintro (h | h); (exact h50 h); (exact h (by simpa using h61)))
      · refine r_iconst (v := nI 0) dX6_changeIfMeant_64 (by decide) ?_
        refine r_zret dX6_changeIfMeant_65 rfl (by first | exact b2_nar _ | decide) (Nat.le_of_ble_eq_true rfl) (Nat.le_of_ble_eq_true rfl) ?_
        refine ⟨rfl, rfl, rfl, fun _ _ _ => rfl, ?_⟩
        rw [hno (by first | exact Or.inl h50 | exact Or.inr (by simpa using h61))]
  refine Mv.of pnX6_changeIfMeant (Nat.le_of_ble_eq_true rfl) rfl ?_
  refine r_aload_n 1 dX6_changeIfMeant_0 rfl rfl ?_
  refine r_iload_n 2 dX6_changeIfMeant_1 rfl rfl ?_
  refine r_callVp [_] dX6_changeIfMeant_2 ok_RX6_129 ivX4_nameAt (by assumption) ⟨_, _, rfl⟩ rfl rfl (Nat.le_of_ble_eq_true rfl) (by refine ⟨?_, ?_, ?_, ?_⟩ <;> exact Nat.le_of_ble_eq_true rfl) (c_nameAt hB p1 h8 hil hv (by omega)) ?_
  rw [e1]
  refine r_istore_n 3 (ls2 := [_, _, _, _]) dX6_changeIfMeant_5 rfl (by decide) (Nat.le_of_ble_eq_true rfl) rfl ?_
  refine r_aload_n 1 dX6_changeIfMeant_6 rfl rfl ?_
  refine r_iload_n 2 dX6_changeIfMeant_7 rfl rfl ?_
  refine r_callVp [_] dX6_changeIfMeant_8 ok_RX6_133 ivX4_hopsAt (by assumption) ⟨_, _, rfl⟩ rfl rfl (Nat.le_of_ble_eq_true rfl) (by refine ⟨?_, ?_, ?_, ?_⟩ <;> exact Nat.le_of_ble_eq_true rfl) (c_hopsAt hB p1 h8 hil hv (by omega)) ?_
  rw [e2]
  refine r_istore 4 (ls2 := [_, _, _, _, _]) dX6_changeIfMeant_11 (by decide) (Nat.le_of_ble_eq_true rfl) rfl ?_
  refine r_iload_n 3 dX6_changeIfMeant_13 rfl rfl ?_
  refine r_aload_n 0 dX6_changeIfMeant_14 rfl rfl ?_
  refine r_getV dX6_changeIfMeant_15 fl_RX6_62 rfl (by assumption) (by first | assumption | exact up2_same _ _ _ _ | exact (Eq.trans (up2_ne _ _ (by omega)) (by first | assumption | exact up2_same _ _ _ _)) | exact (Eq.trans (up2_ne _ _ (by omega)) (Eq.trans (up2_ne _ _ (by omega)) (by first | assumption | exact up2_same _ _ _ _))) | exact (Eq.trans (up2_ne _ _ (by omega)) (Eq.trans (up2_ne _ _ (by omega)) (Eq.trans (up2_ne _ _ (by omega)) (by first | assumption | exact up2_same _ _ _ _)))) | exact (Eq.trans (up2_ne _ _ (by omega)) (Eq.trans (up2_ne _ _ (by omega)) (Eq.trans (up2_ne _ _ (by omega)) (Eq.trans (up2_ne _ _ (by omega)) (by first | assumption | exact up2_same _ _ _ _))))) | rfl) ?_
  refine r_icmpN_eq 37 dX6_changeIfMeant_18 (by decide) (by omega) (by omega) (fun h18 => ?_) (fun h18 => ?_)
  · first | exact K37 (Or.inl ((okL_inj (b := 32) hwk.1 o1 (by omega)).mp h18)) | exact K37 (Or.inr ⟨h23, by simpa using h34⟩)
  · refine r_iload 4 dX6_changeIfMeant_21 rfl ?_
    refine r_ifN_ne 48 dX6_changeIfMeant_23 (by decide) (by omega) (fun h23 => ?_) (fun h23 => ?_)
    · refine K48 ?_
      rintro (h | h)
      · exact h18 (by rw [h])
      · first | exact h23 h.1 | exact absurd h.2 (by simpa using h34)
    · refine r_aload_n 0 dX6_changeIfMeant_26 rfl rfl ?_
      refine r_getR dX6_changeIfMeant_27 fl_RX6_12 rfl (by assumption) (by assumption) ?_
      refine r_iload_n 3 dX6_changeIfMeant_30 rfl rfl ?_
      refine r_callVp [_] dX6_changeIfMeant_31 ok_RX6_136 ivX2_has (by assumption) ⟨_, _, rfl⟩ rfl rfl (Nat.le_of_ble_eq_true rfl) (by refine ⟨?_, ?_, ?_, ?_⟩ <;> exact Nat.le_of_ble_eq_true rfl) (c_nmHas l2 s1 o2 o3 hwk.1) ?_
      refine r_ifB_eq 48 dX6_changeIfMeant_34 (by decide) (fun h34 => ?_) (fun h34 => ?_)
      · refine K48 ?_
        rintro (h | h)
        · exact h18 (by rw [h])
        · first | exact h23 h.1 | exact absurd h.2 (by simpa using h34)
      · first | exact K37 (Or.inl ((okL_inj (b := 32) hwk.1 o1 (by omega)).mp h18)) | exact K37 (Or.inr ⟨h23, by simpa using h34⟩)
end STAT
