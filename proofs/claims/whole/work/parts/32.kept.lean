section KEPT
variable {z : Nat} {sh : SH} {mi : MI} {mr : MR} {a : Nat}
theorem PkC.keep {m m' : MI} {x : Nat} {p : Pk} (h : PkC m x p) (h1 : m' x = m x) (h2 : m' (x + 1) = m (x + 1)) : PkC m' x p := by
  unfold PkC at *
  rw [h1, h2]; exact h
theorem PkC.copy {m m' : MI} {x b : Nat} {p : Pk} (h : PkC m b p) (hp : p.2.2.length ≤ 8) (h1 : m' x 1 = m b 1) (h2 : m' x 2 = m b 2) (h3 : m' x 3 = m b 3) (h4 : ∀ j, j < 8 → m' (x + 1) j = m (b + 1) j) : PkC m' x p := by
  refine ⟨by rw [h1]; exact h.1, by rw [h2]; exact h.2.1, by rw [h3]; exact h.2.2.1, fun i w hi => ?_⟩
  rw [h4 i (by have := gl_lt hi; omega)]
  exact h.2.2.2 i w hi
theorem c_kpClear (hL : LKp sh mr a) : Mi mX0_clear 0 [.ref a] z sh mi mr (fun v mi' => v = none ∧ mi' = up2 mi a 2 (nI 0)) := by
  obtain ⟨l0, l1, l2, l3, l4, l5⟩ := id hL
  refine Mv.of pnX0_clear (Nat.le_of_ble_eq_true rfl) rfl ?_
  refine r_aload_n 0 dX0_clear_0 rfl rfl ?_
  refine r_iconst (v := nI 0) dX0_clear_1 (by decide) ?_
  refine r_putI dX0_clear_2 fl_RX0_22 rfl rfl rfl (by assumption) ?_
  refine r_vret dX0_clear_5 rfl (Nat.le_of_ble_eq_true rfl) (Nat.le_of_ble_eq_true rfl) ?_
  exact ⟨rfl, rfl, rfl, rfl, rfl⟩
theorem c_kpFull (hL : LKp sh mr a) {b : Nat} {x : Int32} {n : Nat} (hn : mi a 2 = nI n) (h12 : 12 ≤ n) (hn2 : n < 2 ^ 31) : Mi mX0_add 2 [.ref a, .ref b, .int x] z sh mi mr (fun v mi' => v = some (.int (nI 0)) ∧ mi' = mi) := by
  obtain ⟨l0, l1, l2, l3, l4, l5⟩ := id hL
  refine Mv.of pnX0_add (Nat.le_of_ble_eq_true rfl) rfl ?_
  refine r_aload_n 0 dX0_add_0 rfl rfl ?_
  refine r_getV dX0_add_1 fl_RX0_22 rfl (by assumption) (by first | assumption | exact up2_same _ _ _ _ | exact (Eq.trans (up2_ne _ _ (by omega)) (by first | assumption | exact up2_same _ _ _ _)) | exact (Eq.trans (up2_ne _ _ (by omega)) (Eq.trans (up2_ne _ _ (by omega)) (by first | assumption | exact up2_same _ _ _ _))) | exact (Eq.trans (up2_ne _ _ (by omega)) (Eq.trans (up2_ne _ _ (by omega)) (Eq.trans (up2_ne _ _ (by omega)) (by first | assumption | exact up2_same _ _ _ _)))) | exact (Eq.trans (up2_ne _ _ (by omega)) (Eq.trans (up2_ne _ _ (by omega)) (Eq.trans (up2_ne _ _ (by omega)) (Eq.trans (up2_ne _ _ (by omega)) (by first | assumption | exact up2_same _ _ _ _))))) | rfl) ?_
  refine r_bipush (v := nI 12) dX0_add_4 (by decide) ?_
  refine r_icmpN_lt 11 dX0_add_6 (by decide) (by omega) (by omega) (fun h6 => ?_) (fun h6 => ?_)
  · omega
  · refine r_iconst (v := nI 0) dX0_add_9 (by decide) ?_
    refine r_zret dX0_add_10 rfl (by first | exact b2_nar _ | decide) (Nat.le_of_ble_eq_true rfl) (Nat.le_of_ble_eq_true rfl) ?_
    exact ⟨rfl, rfl, rfl, rfl, rfl⟩
theorem c_kpAdd (hL : LKp sh mr a) {b : Nat} (hB : LPk sh mr b) (hb : b < a ∨ a + 27 ≤ b) {l : Kp} (hC : KpC mi mr a l) (hR : KpR mr a) (hl : l.length < 12) {p : Pk} (hP : PkC mi b p) (hp : p.2.2.length ≤ 8) {dd : Nat} : Mi mX0_add 2 [.ref a, .ref b, .int (nI dd)] z sh mi mr (fun v mi' => v = some (.int (nI 1)) ∧ KpC mi' mr a (l ++ [(p, dd)]) ∧ Oth mi mi' a (a + 27)) := by
  obtain ⟨l0, l1, l2, l3, l4, l5⟩ := id hL
  obtain ⟨k0, k1, k2⟩ := id hB
  obtain ⟨p1, p2⟩ := id hC
  obtain ⟨f, f1, f2⟩ := hR
  obtain ⟨g1, g2⟩ := f1 l.length hl
  have hx := l5 (f l.length) g1
  obtain ⟨x0, x1, x2⟩ := id hx
  refine Mv.of pnX0_add (Nat.le_of_ble_eq_true rfl) rfl ?_
  refine r_aload_n 0 dX0_add_0 rfl rfl ?_
  refine r_getV dX0_add_1 fl_RX0_22 rfl (by assumption) (by first | assumption | exact up2_same _ _ _ _ | exact (Eq.trans (up2_ne _ _ (by omega)) (by first | assumption | exact up2_same _ _ _ _)) | exact (Eq.trans (up2_ne _ _ (by omega)) (Eq.trans (up2_ne _ _ (by omega)) (by first | assumption | exact up2_same _ _ _ _))) | exact (Eq.trans (up2_ne _ _ (by omega)) (Eq.trans (up2_ne _ _ (by omega)) (Eq.trans (up2_ne _ _ (by omega)) (by first | assumption | exact up2_same _ _ _ _)))) | exact (Eq.trans (up2_ne _ _ (by omega)) (Eq.trans (up2_ne _ _ (by omega)) (Eq.trans (up2_ne _ _ (by omega)) (Eq.trans (up2_ne _ _ (by omega)) (by first | assumption | exact up2_same _ _ _ _))))) | rfl) ?_
  refine r_bipush (v := nI 12) dX0_add_4 (by decide) ?_
  refine r_icmpN_lt 11 dX0_add_6 (by decide) (by omega) (by omega) (fun h6 => ?_) (fun h6 => ?_)
  · refine r_aload_n 0 dX0_add_11 rfl rfl ?_
    refine r_getR dX0_add_12 fl_RX0_11 rfl (by assumption) (by assumption) ?_
    refine r_aload_n 0 dX0_add_15 rfl rfl ?_
    refine r_getV dX0_add_16 fl_RX0_22 rfl (by assumption) (by first | assumption | exact up2_same _ _ _ _ | exact (Eq.trans (up2_ne _ _ (by omega)) (by first | assumption | exact up2_same _ _ _ _)) | exact (Eq.trans (up2_ne _ _ (by omega)) (Eq.trans (up2_ne _ _ (by omega)) (by first | assumption | exact up2_same _ _ _ _))) | exact (Eq.trans (up2_ne _ _ (by omega)) (Eq.trans (up2_ne _ _ (by omega)) (Eq.trans (up2_ne _ _ (by omega)) (by first | assumption | exact up2_same _ _ _ _)))) | exact (Eq.trans (up2_ne _ _ (by omega)) (Eq.trans (up2_ne _ _ (by omega)) (Eq.trans (up2_ne _ _ (by omega)) (Eq.trans (up2_ne _ _ (by omega)) (by first | assumption | exact up2_same _ _ _ _))))) | rfl) ?_
    refine r_aald dX0_add_19 (by assumption) (by decide) (by intro _; rfl) (by omega) (by omega) (by assumption) ?_
    refine r_aload_n 1 dX0_add_20 rfl rfl ?_
    refine r_callVw [_] dX0_add_21 ok_RX0_26 ivX4_copyFrom (by assumption) ⟨_, _, rfl⟩ rfl rfl (Nat.le_of_ble_eq_true rfl) (by refine ⟨?_, ?_, ?_, ?_⟩ <;> exact Nat.le_of_ble_eq_true rfl) (c_copyPk hx hB) ?_
    intro m ⟨ho, e1, e2, e3, e4⟩
    have ma : m a 2 = nI l.length := by rw [ho a (by omega) (by omega)]; exact p1
    refine r_aload_n 0 dX0_add_24 rfl rfl ?_
    refine r_getR dX0_add_25 fl_RX0_17 rfl (by assumption) (by assumption) ?_
    refine r_aload_n 0 dX0_add_28 rfl rfl ?_
    refine r_getV dX0_add_29 fl_RX0_22 rfl (by assumption) (by first | assumption | exact up2_same _ _ _ _ | exact (Eq.trans (up2_ne _ _ (by omega)) (by first | assumption | exact up2_same _ _ _ _)) | exact (Eq.trans (up2_ne _ _ (by omega)) (Eq.trans (up2_ne _ _ (by omega)) (by first | assumption | exact up2_same _ _ _ _))) | exact (Eq.trans (up2_ne _ _ (by omega)) (Eq.trans (up2_ne _ _ (by omega)) (Eq.trans (up2_ne _ _ (by omega)) (by first | assumption | exact up2_same _ _ _ _)))) | exact (Eq.trans (up2_ne _ _ (by omega)) (Eq.trans (up2_ne _ _ (by omega)) (Eq.trans (up2_ne _ _ (by omega)) (Eq.trans (up2_ne _ _ (by omega)) (by first | assumption | exact up2_same _ _ _ _))))) | rfl) ?_
    refine r_iload_n 2 dX0_add_32 rfl rfl ?_
    refine r_iast dX0_add_33 (by assumption) (by omega) (by omega) ?_
    refine r_aload_n 0 dX0_add_34 rfl rfl ?_
    refine r_dup dX0_add_35 rfl ?_
    refine r_getV dX0_add_36 fl_RX0_22 rfl (by assumption) (by first | assumption | exact up2_same _ _ _ _ | exact (Eq.trans (up2_ne _ _ (by omega)) (by first | assumption | exact up2_same _ _ _ _)) | exact (Eq.trans (up2_ne _ _ (by omega)) (Eq.trans (up2_ne _ _ (by omega)) (by first | assumption | exact up2_same _ _ _ _))) | exact (Eq.trans (up2_ne _ _ (by omega)) (Eq.trans (up2_ne _ _ (by omega)) (Eq.trans (up2_ne _ _ (by omega)) (by first | assumption | exact up2_same _ _ _ _)))) | exact (Eq.trans (up2_ne _ _ (by omega)) (Eq.trans (up2_ne _ _ (by omega)) (Eq.trans (up2_ne _ _ (by omega)) (Eq.trans (up2_ne _ _ (by omega)) (by first | assumption | exact up2_same _ _ _ _))))) | rfl) ?_
    refine r_iconst (v := nI 1) dX0_add_39 (by decide) ?_
    refine r_iaddN dX0_add_40 ?_
    refine r_putI dX0_add_41 fl_RX0_22 rfl rfl rfl (by assumption) ?_
    refine r_iconst (v := nI 1) dX0_add_44 (by decide) ?_
    refine r_zret dX0_add_45 rfl (by first | exact b2_nar _ | decide) (Nat.le_of_ble_eq_true rfl) (Nat.le_of_ble_eq_true rfl) ?_
    refine ⟨rfl, rfl, rfl, rfl, ⟨?_, fun i q hq => ?_⟩, fun x hx' => ?_⟩
    · rw [up2_same, List.length_append]; rfl
    · by_cases hi : i = l.length
      · subst hi
        rw [List.getElem?_append_right (Nat.le_refl _), Nat.sub_self] at hq
        cases hq
        refine ⟨by rw [up2_row _ _ (by omega), up2_same], _, g2, ?_⟩
        exact (hP.copy hp e1 e2 e3 e4).keep (by rw [up2_row _ _ (by omega), up2_row _ _ (by omega)]) (by rw [up2_row _ _ (by omega), up2_row _ _ (by omega)])
      · have hil := gl_lt hq
        rw [List.length_append] at hil
        simp at hil
        rw [List.getElem?_append_left (by omega)] at hq
        obtain ⟨r1, x, r2, r3⟩ := p2 i q hq
        obtain ⟨s1, s2⟩ := f1 i (by omega)
        have hxe : x = a + 3 + 2 * f i := Option.some.inj (r2.symm.trans s2)
        have hne : f i ≠ f l.length := fun e => hi (f2 i l.length (by omega) (by omega) e)
        refine ⟨by rw [up2_row _ _ (by omega), up2_ne _ _ (Or.inr hi), ho (a + 2) (by omega) (by omega)]; exact r1, x, r2, ?_⟩
        exact r3.keep (by rw [up2_row _ _ (by omega), up2_row _ _ (by omega), ho x (by omega) (by omega)]) (by rw [up2_row _ _ (by omega), up2_row _ _ (by omega), ho (x + 1) (by omega) (by omega)])
    · rw [up2_row _ _ (by omega), up2_row _ _ (by omega), ho x (by omega) (by omega)]
  · omega
theorem c_kpRem (hL : LKp sh mr a) {l : Kp} (hC : KpC mi mr a l) (hR : KpR mr a) (hl : l.length ≤ 12) {k : Nat} (hk : k < l.length) : Mm mX0_removeAt 0 [.ref a, .int (nI k)] z sh mi mr (fun v mi' mr' => v = none ∧ KpC mi' mr' a (l.eraseIdx k) ∧ KpR mr' a ∧ Oth mi mi' a (a + 3) ∧ ∀ x, x ≠ a + 1 → mr' x = mr x) := by
  obtain ⟨l0, l1, l2, l3, l4, l5⟩ := id hL
  obtain ⟨p1, p2⟩ := id hC
  obtain ⟨f, f1, f2⟩ := hR
  obtain ⟨g1, g2⟩ := f1 k (by omega)
  obtain ⟨x0, x1, x2⟩ := l5 (f k) g1
  have H : ∀ t j : Nat, ∀ (m : MI) (r : MR), j + t = l.length → k < j → (∀ x, x ≠ a + 2 → m x = mi x) → (∀ x, x ≠ a + 1 → r x = mr x) → (∀ q, m (a + 2) q = if k ≤ q ∧ q + 1 < j then mi (a + 2) (q + 1) else mi (a + 2) q) → (∀ q, r (a + 1) q = if k ≤ q ∧ q + 1 < j then mr (a + 1) (q + 1) else mr (a + 1) q) → Wp yX0_removeAt cX0_removeAt 4 none (EM 0 z sh (fun v mi' mr' => v = none ∧ KpC mi' mr' a (l.eraseIdx k) ∧ KpR mr' a ∧ Oth mi mi' a (a + 3) ∧ ∀ x, x ≠ a + 1 → mr' x = mr x)) 0 0 24 [.ref a, .int (nI k), .ref (a + 3 + 2 * f k), .int (nI j)] [] z sh m r := by
    intro t
    induction t with
    | zero =>
      intro j m r hj hkj ho hr hm hq
      have hsz : m a 2 = nI l.length := by rw [ho a (by omega)]; exact p1
      have ra : r a 0 = some (a + 1) := by rw [hr a (by omega)]; exact l1
      refine r_iload_n 3 dX0_removeAt_24 rfl rfl ?_
      refine r_aload_n 0 dX0_removeAt_25 rfl rfl ?_
      refine r_getV dX0_removeAt_26 fl_RX0_22 rfl (by assumption) (by first | assumption | exact up2_same _ _ _ _ | exact (Eq.trans (up2_ne _ _ (by omega)) (by first | assumption | exact up2_same _ _ _ _)) | exact (Eq.trans (up2_ne _ _ (by omega)) (Eq.trans (up2_ne _ _ (by omega)) (by first | assumption | exact up2_same _ _ _ _))) | exact (Eq.trans (up2_ne _ _ (by omega)) (Eq.trans (up2_ne _ _ (by omega)) (Eq.trans (up2_ne _ _ (by omega)) (by first | assumption | exact up2_same _ _ _ _)))) | exact (Eq.trans (up2_ne _ _ (by omega)) (Eq.trans (up2_ne _ _ (by omega)) (Eq.trans (up2_ne _ _ (by omega)) (Eq.trans (up2_ne _ _ (by omega)) (by first | assumption | exact up2_same _ _ _ _))))) | rfl) ?_
      refine r_icmpN_ge 66 dX0_removeAt_29 (by decide) (by omega) (by omega) (fun h29 => ?_) (fun h29 => ?_)
      · refine r_aload_n 0 dX0_removeAt_66 rfl rfl ?_
        refine r_dup dX0_removeAt_67 rfl ?_
        refine r_getV dX0_removeAt_68 fl_RX0_22 rfl (by assumption) (by first | assumption | exact up2_same _ _ _ _ | exact (Eq.trans (up2_ne _ _ (by omega)) (by first | assumption | exact up2_same _ _ _ _)) | exact (Eq.trans (up2_ne _ _ (by omega)) (Eq.trans (up2_ne _ _ (by omega)) (by first | assumption | exact up2_same _ _ _ _))) | exact (Eq.trans (up2_ne _ _ (by omega)) (Eq.trans (up2_ne _ _ (by omega)) (Eq.trans (up2_ne _ _ (by omega)) (by first | assumption | exact up2_same _ _ _ _)))) | exact (Eq.trans (up2_ne _ _ (by omega)) (Eq.trans (up2_ne _ _ (by omega)) (Eq.trans (up2_ne _ _ (by omega)) (Eq.trans (up2_ne _ _ (by omega)) (by first | assumption | exact up2_same _ _ _ _))))) | rfl) ?_
        refine r_iconst (v := nI 1) dX0_removeAt_71 (by decide) ?_
        refine r_isubN dX0_removeAt_72 (by omega) ?_
        refine r_putI dX0_removeAt_73 fl_RX0_22 rfl rfl rfl (by assumption) ?_
        refine r_aload_n 0 dX0_removeAt_76 rfl rfl ?_
        refine r_getR dX0_removeAt_77 fl_RX0_11 rfl (by assumption) (by assumption) ?_
        refine r_aload_n 0 dX0_removeAt_80 rfl rfl ?_
        refine r_getV dX0_removeAt_81 fl_RX0_22 rfl (by assumption) (by first | assumption | exact up2_same _ _ _ _ | exact (Eq.trans (up2_ne _ _ (by omega)) (by first | assumption | exact up2_same _ _ _ _)) | exact (Eq.trans (up2_ne _ _ (by omega)) (Eq.trans (up2_ne _ _ (by omega)) (by first | assumption | exact up2_same _ _ _ _))) | exact (Eq.trans (up2_ne _ _ (by omega)) (Eq.trans (up2_ne _ _ (by omega)) (Eq.trans (up2_ne _ _ (by omega)) (by first | assumption | exact up2_same _ _ _ _)))) | exact (Eq.trans (up2_ne _ _ (by omega)) (Eq.trans (up2_ne _ _ (by omega)) (Eq.trans (up2_ne _ _ (by omega)) (Eq.trans (up2_ne _ _ (by omega)) (by first | assumption | exact up2_same _ _ _ _))))) | rfl) ?_
        refine r_aload_n 2 dX0_removeAt_84 rfl rfl ?_
        refine r_aast (r := (RX4, TX4, 4)) dX0_removeAt_85 (by assumption) (by decide) (by intro _; rfl) (by assumption) (by rfl) (by decide) (by omega) (by omega) ?_
        refine r_vret dX0_removeAt_86 rfl (Nat.le_of_ble_eq_true rfl) (Nat.le_of_ble_eq_true rfl) ?_
        refine ⟨rfl, rfl, rfl, ⟨?_, fun i q hq' => ?_⟩, ?_, fun x hx => ?_, fun x hx => ?_⟩
        · rw [up2_same, List.length_eraseIdx_of_lt hk]
        · rw [List.getElem?_eraseIdx] at hq'
          have hi1 : i + 1 < l.length := by by_cases hik : i < k; (omega); (rw [if_neg hik] at hq'; exact gl_lt hq')
          rw [up2_row _ _ (by omega), hm i, up2_ne _ _ (Or.inr (by omega)), hq i]
          by_cases hik : i < k
          · rw [if_pos hik] at hq'
            rw [if_neg (by omega), if_neg (by omega)]
            obtain ⟨s1, x, s2, s3⟩ := p2 i q hq'
            have hxe : x = a + 3 + 2 * f i := Option.some.inj (s2.symm.trans (f1 i (by omega)).2)
            exact ⟨s1, x, s2, s3.keep (by rw [up2_row _ _ (by omega), ho _ (by omega)]) (by rw [up2_row _ _ (by omega), ho _ (by omega)])⟩
          · rw [if_neg hik] at hq'
            rw [if_pos (by omega), if_pos (by omega)]
            obtain ⟨s1, x, s2, s3⟩ := p2 (i + 1) q hq'
            have hxe : x = a + 3 + 2 * f (i + 1) := Option.some.inj (s2.symm.trans (f1 (i + 1) (by omega)).2)
            exact ⟨s1, x, s2, s3.keep (by rw [up2_row _ _ (by omega), ho _ (by omega)]) (by rw [up2_row _ _ (by omega), ho _ (by omega)])⟩
        · refine ⟨fun q => if q = l.length - 1 then f k else if k ≤ q ∧ q + 1 < l.length then f (q + 1) else f q, fun i hi => ?_, fun i i' hi hi' he => ?_⟩
          · dsimp only
            by_cases e1 : i = l.length - 1
            · rw [if_pos e1, e1, up2_same]; exact ⟨g1, rfl⟩
            · rw [if_neg e1, up2_ne _ _ (Or.inr e1), hq i]
              by_cases e2 : k ≤ i ∧ i + 1 < l.length
              · rw [if_pos e2, if_pos (by omega)]; exact f1 (i + 1) (by omega)
              · rw [if_neg e2, if_neg (by omega)]; exact f1 i hi
          · have inj : ∀ u v, u < 12 → v < 12 → f u = f v → u = v := f2
            dsimp only at he
            split at he <;> split at he <;> (try split at he) <;> (try split at he) <;> first | omega | (have := inj _ _ (by omega) (by omega) he; omega)
        · rw [up2_row _ _ (by omega)]; exact ho x (by omega)
        · rw [up2_row _ _ hx]; exact hr x hx
      · omega
    | succ t ih =>
      intro j m r hj hkj ho hr hm hq
      have hsz : m a 2 = nI l.length := by rw [ho a (by omega)]; exact p1
      have ra : r a 0 = some (a + 1) := by rw [hr a (by omega)]; exact l1
      have rd : r a 1 = some (a + 2) := by rw [hr a (by omega)]; exact l3
      obtain ⟨gj1, gj2⟩ := f1 j (by omega)
      obtain ⟨xj0, xj1, xj2⟩ := l5 (f j) gj1
      have rj : r (a + 1) j = some (a + 3 + 2 * f j) := by rw [hq j, if_neg (by omega)]; exact gj2
      have ra' : up2 r (a + 1) (j - 1) (some (a + 3 + 2 * f j)) a 1 = some (a + 2) := by rw [up2_row _ _ (by omega)]; exact rd
      refine r_iload_n 3 dX0_removeAt_24 rfl rfl ?_
      refine r_aload_n 0 dX0_removeAt_25 rfl rfl ?_
      refine r_getV dX0_removeAt_26 fl_RX0_22 rfl (by assumption) (by first | assumption | exact up2_same _ _ _ _ | exact (Eq.trans (up2_ne _ _ (by omega)) (by first | assumption | exact up2_same _ _ _ _)) | exact (Eq.trans (up2_ne _ _ (by omega)) (Eq.trans (up2_ne _ _ (by omega)) (by first | assumption | exact up2_same _ _ _ _))) | exact (Eq.trans (up2_ne _ _ (by omega)) (Eq.trans (up2_ne _ _ (by omega)) (Eq.trans (up2_ne _ _ (by omega)) (by first | assumption | exact up2_same _ _ _ _)))) | exact (Eq.trans (up2_ne _ _ (by omega)) (Eq.trans (up2_ne _ _ (by omega)) (Eq.trans (up2_ne _ _ (by omega)) (Eq.trans (up2_ne _ _ (by omega)) (by first | assumption | exact up2_same _ _ _ _))))) | rfl) ?_
      refine r_icmpN_ge 66 dX0_removeAt_29 (by decide) (by omega) (by omega) (fun h29 => ?_) (fun h29 => ?_)
      · omega
      · refine r_aload_n 0 dX0_removeAt_32 rfl rfl ?_
        refine r_getR dX0_removeAt_33 fl_RX0_11 rfl (by assumption) (by assumption) ?_
        refine r_iload_n 3 dX0_removeAt_36 rfl rfl ?_
        refine r_iconst (v := nI 1) dX0_removeAt_37 (by decide) ?_
        refine r_isubN dX0_removeAt_38 (by omega) ?_
        refine r_aload_n 0 dX0_removeAt_39 rfl rfl ?_
        refine r_getR dX0_removeAt_40 fl_RX0_11 rfl (by assumption) (by assumption) ?_
        refine r_iload_n 3 dX0_removeAt_43 rfl rfl ?_
        refine r_aald dX0_removeAt_44 (by assumption) (by decide) (by intro _; rfl) (by omega) (by omega) (by assumption) ?_
        refine r_aast (r := (RX4, TX4, 4)) dX0_removeAt_45 (by assumption) (by decide) (by intro _; rfl) (by assumption) (by rfl) (by decide) (by omega) (by omega) ?_
        refine r_aload_n 0 dX0_removeAt_46 rfl rfl ?_
        refine r_getR dX0_removeAt_47 fl_RX0_17 rfl (by assumption) (by assumption) ?_
        refine r_iload_n 3 dX0_removeAt_50 rfl rfl ?_
        refine r_iconst (v := nI 1) dX0_removeAt_51 (by decide) ?_
        refine r_isubN dX0_removeAt_52 (by omega) ?_
        refine r_aload_n 0 dX0_removeAt_53 rfl rfl ?_
        refine r_getR dX0_removeAt_54 fl_RX0_17 rfl (by assumption) (by assumption) ?_
        refine r_iload_n 3 dX0_removeAt_57 rfl rfl ?_
        refine r_ialdV dX0_removeAt_58 (by assumption) (by omega) (by omega) (by first | assumption | exact up2_same _ _ _ _ | exact (Eq.trans (up2_ne _ _ (by omega)) (by first | assumption | exact up2_same _ _ _ _)) | exact (Eq.trans (up2_ne _ _ (by omega)) (Eq.trans (up2_ne _ _ (by omega)) (by first | assumption | exact up2_same _ _ _ _))) | exact (Eq.trans (up2_ne _ _ (by omega)) (Eq.trans (up2_ne _ _ (by omega)) (Eq.trans (up2_ne _ _ (by omega)) (by first | assumption | exact up2_same _ _ _ _)))) | exact (Eq.trans (up2_ne _ _ (by omega)) (Eq.trans (up2_ne _ _ (by omega)) (Eq.trans (up2_ne _ _ (by omega)) (Eq.trans (up2_ne _ _ (by omega)) (by first | assumption | exact up2_same _ _ _ _))))) | rfl) ?_
        refine r_iast dX0_removeAt_59 (by assumption) (by omega) (by omega) ?_
        refine r_iincN 3 (b := 1) (ls2 := [_, _, _, _]) dX0_removeAt_60 rfl (by decide) (by decide) rfl ?_
        refine r_goto 24 dX0_removeAt_63 (by decide) ?_
        refine ih (j + 1) _ _ (by omega) (by omega) (fun x hx => by rw [up2_row _ _ hx]; exact ho x hx) (fun x hx => by rw [up2_row _ _ hx]; exact hr x hx) (fun q => ?_) (fun q => ?_)
        · by_cases e : q = j - 1
          · subst e
            rw [up2_same, hm j, if_neg (by omega), if_pos (by omega), show j - 1 + 1 = j by omega]
          · rw [up2_ne _ _ (Or.inr e), hm q]
            by_cases h1 : k ≤ q ∧ q + 1 < j
            · rw [if_pos h1, if_pos (by omega)]
            · rw [if_neg h1, if_neg (by omega)]
        · by_cases e : q = j - 1
          · subst e
            rw [up2_same, if_pos (by omega), show j - 1 + 1 = j by omega]; exact gj2.symm
          · rw [up2_ne _ _ (Or.inr e), hq q]
            by_cases h1 : k ≤ q ∧ q + 1 < j
            · rw [if_pos h1, if_pos (by omega)]
            · rw [if_neg h1, if_neg (by omega)]
  refine Mv.of pnX0_removeAt (Nat.le_of_ble_eq_true rfl) rfl ?_
  refine r_iload_n 1 dX0_removeAt_0 rfl rfl ?_
  refine r_ifN_lt 12 dX0_removeAt_1 (by decide) (by omega) ?_
  refine r_iload_n 1 dX0_removeAt_4 rfl rfl ?_
  refine r_aload_n 0 dX0_removeAt_5 rfl rfl ?_
  refine r_getV dX0_removeAt_6 fl_RX0_22 rfl (by assumption) (by first | assumption | exact up2_same _ _ _ _ | exact (Eq.trans (up2_ne _ _ (by omega)) (by first | assumption | exact up2_same _ _ _ _)) | exact (Eq.trans (up2_ne _ _ (by omega)) (Eq.trans (up2_ne _ _ (by omega)) (by first | assumption | exact up2_same _ _ _ _))) | exact (Eq.trans (up2_ne _ _ (by omega)) (Eq.trans (up2_ne _ _ (by omega)) (Eq.trans (up2_ne _ _ (by omega)) (by first | assumption | exact up2_same _ _ _ _)))) | exact (Eq.trans (up2_ne _ _ (by omega)) (Eq.trans (up2_ne _ _ (by omega)) (Eq.trans (up2_ne _ _ (by omega)) (Eq.trans (up2_ne _ _ (by omega)) (by first | assumption | exact up2_same _ _ _ _))))) | rfl) ?_
  refine r_icmpN_lt 13 dX0_removeAt_9 (by decide) (by omega) (by omega) (fun h9 => ?_) (fun h9 => ?_)
  · refine r_aload_n 0 dX0_removeAt_13 rfl rfl ?_
    refine r_getR dX0_removeAt_14 fl_RX0_11 rfl (by assumption) (by assumption) ?_
    refine r_iload_n 1 dX0_removeAt_17 rfl rfl ?_
    refine r_aald dX0_removeAt_18 (by assumption) (by decide) (by intro _; rfl) (by omega) (by omega) (by assumption) ?_
    refine r_astore_n 2 (ls2 := [_, _, _]) dX0_removeAt_19 rfl (by decide) (Nat.le_of_ble_eq_true rfl) rfl ?_
    refine r_iload_n 1 dX0_removeAt_20 rfl rfl ?_
    refine r_iconst (v := nI 1) dX0_removeAt_21 (by decide) ?_
    refine r_iaddN dX0_removeAt_22 ?_
    refine r_istore_n 3 (ls2 := [_, _, _, _]) dX0_removeAt_23 rfl (by decide) (Nat.le_of_ble_eq_true rfl) rfl ?_
    exact H (l.length - (k + 1)) (k + 1) mi mr (by omega) (by omega) (fun _ _ => rfl) (fun _ _ => rfl) (fun q => by rw [if_neg (by omega)]) (fun q => by rw [if_neg (by omega)])
  · omega
theorem c_takeDue (hL : LKp sh mr a) {b : Nat} (hB : LPk sh mr b) (hb : b + 2 ≤ a ∨ a + 27 ≤ b) {l : Kp} (hC : KpC mi mr a l) (hR : KpR mr a) (hl : l.length ≤ 12) (hok : ∀ q ∈ l, okP q.1 ∧ q.2 < 2 ^ 30) {now : Nat} (hnow : now < 2 ^ 30) (hd : duIx l now < l.length) : Mm mX0_takeDue 2 [.ref a, .int (nI now), .ref b] z sh mi mr (fun v mi' mr' => v = some (.int (nI 1)) ∧ KpC mi' mr' a (l.eraseIdx (duIx l now)) ∧ KpR mr' a ∧ (∀ q, l[duIx l now]? = some q → PkC mi' b q.1) ∧ (∀ x, (x < a ∨ a + 3 ≤ x) → x ≠ b → x ≠ b + 1 → mi' x = mi x) ∧ ∀ x, x ≠ a + 1 → mr' x = mr x) := by
  obtain ⟨l0, l1, l2, l3, l4, l5⟩ := id hL
  obtain ⟨p1, p2⟩ := id hC
  obtain ⟨f, f1, f2⟩ := id hR
  obtain ⟨k0, k1, k2⟩ := id hB
  have H : ∀ t i : Nat, i + t = duIx l now → Wp yX0_takeDue cX0_takeDue 4 (some .boolean) (EM 2 z sh (fun v mi' mr' => v = some (.int (nI 1)) ∧ KpC mi' mr' a (l.eraseIdx (duIx l now)) ∧ KpR mr' a ∧ (∀ q, l[duIx l now]? = some q → PkC mi' b q.1) ∧ (∀ x, (x < a ∨ a + 3 ≤ x) → x ≠ b → x ≠ b + 1 → mi' x = mi x) ∧ ∀ x, x ≠ a + 1 → mr' x = mr x)) 0 0 2 [.ref a, .int (nI now), .ref b, .int (nI i)] [] z sh mi mr := by
    intro t
    induction t with
    | zero =>
      intro i hi
      have hi' : i = duIx l now := by omega
      obtain ⟨q, hq, hqd⟩ := fi_lt hd
      have hqi : l[i]? = some q := by rw [hi']; exact hq
      have hqd' : q.2 ≤ now := by simpa using hqd
      obtain ⟨s1, x, s2, s3⟩ := p2 i q hqi
      have hxe : x = a + 3 + 2 * f i := Option.some.inj (s2.symm.trans (f1 i (by omega)).2)
      have hxL := l5 (f i) (f1 i (by omega)).1
      rw [← hxe] at hxL
      have hqk := hok q (gl_mem hqi)
      refine r_iload_n 3 dX0_takeDue_2 rfl rfl ?_
      refine r_aload_n 0 dX0_takeDue_3 rfl rfl ?_
      refine r_getV dX0_takeDue_4 fl_RX0_22 rfl (by assumption) (by first | assumption | exact up2_same _ _ _ _ | exact (Eq.trans (up2_ne _ _ (by omega)) (by first | assumption | exact up2_same _ _ _ _)) | exact (Eq.trans (up2_ne _ _ (by omega)) (Eq.trans (up2_ne _ _ (by omega)) (by first | assumption | exact up2_same _ _ _ _))) | exact (Eq.trans (up2_ne _ _ (by omega)) (Eq.trans (up2_ne _ _ (by omega)) (Eq.trans (up2_ne _ _ (by omega)) (by first | assumption | exact up2_same _ _ _ _)))) | exact (Eq.trans (up2_ne _ _ (by omega)) (Eq.trans (up2_ne _ _ (by omega)) (Eq.trans (up2_ne _ _ (by omega)) (Eq.trans (up2_ne _ _ (by omega)) (by first | assumption | exact up2_same _ _ _ _))))) | rfl) ?_
      refine r_icmpN_ge 43 dX0_takeDue_7 (by decide) (by omega) (by omega) (fun h7 => ?_) (fun h7 => ?_)
      · omega
      · refine r_aload_n 0 dX0_takeDue_10 rfl rfl ?_
        refine r_getR dX0_takeDue_11 fl_RX0_17 rfl (by assumption) (by assumption) ?_
        refine r_iload_n 3 dX0_takeDue_14 rfl rfl ?_
        refine r_ialdV dX0_takeDue_15 (by assumption) (by omega) (by omega) (by first | assumption | exact up2_same _ _ _ _ | exact (Eq.trans (up2_ne _ _ (by omega)) (by first | assumption | exact up2_same _ _ _ _)) | exact (Eq.trans (up2_ne _ _ (by omega)) (Eq.trans (up2_ne _ _ (by omega)) (by first | assumption | exact up2_same _ _ _ _))) | exact (Eq.trans (up2_ne _ _ (by omega)) (Eq.trans (up2_ne _ _ (by omega)) (Eq.trans (up2_ne _ _ (by omega)) (by first | assumption | exact up2_same _ _ _ _)))) | exact (Eq.trans (up2_ne _ _ (by omega)) (Eq.trans (up2_ne _ _ (by omega)) (Eq.trans (up2_ne _ _ (by omega)) (Eq.trans (up2_ne _ _ (by omega)) (by first | assumption | exact up2_same _ _ _ _))))) | rfl) ?_
        refine r_iload_n 1 dX0_takeDue_16 rfl rfl ?_
        refine r_icmpN_gt 37 dX0_takeDue_17 (by decide) (by omega) (by omega) (fun h17 => ?_) (fun h17 => ?_)
        · omega
        · refine r_aload_n 2 dX0_takeDue_20 rfl rfl ?_
          refine r_aload_n 0 dX0_takeDue_21 rfl rfl ?_
          refine r_getR dX0_takeDue_22 fl_RX0_11 rfl (by assumption) (by assumption) ?_
          refine r_iload_n 3 dX0_takeDue_25 rfl rfl ?_
          refine r_aald dX0_takeDue_26 (by assumption) (by decide) (by intro _; rfl) (by omega) (by omega) (by assumption) ?_
          refine r_callVw [_] dX0_takeDue_27 ok_RX0_26 ivX4_copyFrom (by assumption) ⟨_, _, rfl⟩ rfl rfl (Nat.le_of_ble_eq_true rfl) (by refine ⟨?_, ?_, ?_, ?_⟩ <;> exact Nat.le_of_ble_eq_true rfl) (c_copyPk hB hxL) ?_
          intro m ⟨ho, e1, e2, e3, e4⟩
          have hC2 : KpC m mr a l := ⟨by rw [ho a (by omega) (by omega)]; exact p1, fun i' q' hq' => by
            obtain ⟨t1, x', t2, t3⟩ := p2 i' q' hq'
            have hxe' : x' = a + 3 + 2 * f i' := Option.some.inj (t2.symm.trans (f1 i' (by have := gl_lt hq'; omega)).2)
            have hfi := (f1 i' (by have := gl_lt hq'; omega)).1
            exact ⟨by rw [ho (a + 2) (by omega) (by omega)]; exact t1, x', t2, t3.keep (ho x' (by omega) (by omega)) (ho (x' + 1) (by omega) (by omega))⟩⟩
          refine r_aload_n 0 dX0_takeDue_30 rfl rfl ?_
          refine r_iload_n 3 dX0_takeDue_31 rfl rfl ?_
          refine r_callVmw [_] dX0_takeDue_32 ok_RX0_30 ivX0_removeAt (by assumption) ⟨_, _, rfl⟩ rfl rfl (Nat.le_of_ble_eq_true rfl) (by refine ⟨?_, ?_, ?_, ?_⟩ <;> exact Nat.le_of_ble_eq_true rfl) (c_kpRem hL hC2 hR hl (by omega)) ?_
          intro m2 r2 ⟨h1, h2, h3, h4⟩
          refine r_iconst (v := nI 1) dX0_takeDue_35 (by decide) ?_
          refine r_zret dX0_takeDue_36 rfl (by first | exact b2_nar _ | decide) (Nat.le_of_ble_eq_true rfl) (Nat.le_of_ble_eq_true rfl) ?_
          refine ⟨rfl, rfl, rfl, by rw [← hi']; exact h1, h2, fun q' hq' => ?_, fun x hx n1 n2 => ?_, h4⟩
          · rw [← hi', hqi] at hq'
            cases hq'
            exact (s3.copy hqk.1.2.2.1 e1 e2 e3 e4).keep (h3 b (by omega)) (h3 (b + 1) (by omega))
          · rw [h3 x hx, ho x n1 n2]
    | succ t ih =>
      intro i hi
      obtain ⟨q, hq⟩ := gl_ex (l := l) (i := i) (by omega)
      have hqn := fi_bef (p := fun q => decide (q.2 ≤ now)) (show i < l.findIdx (fun q => decide (q.2 ≤ now)) by show i < duIx l now; omega) hq
      have hqd : now < q.2 := by simpa using hqn
      obtain ⟨s1, x, s2, s3⟩ := p2 i q hq
      have hqk := hok q (gl_mem hq)
      refine r_iload_n 3 dX0_takeDue_2 rfl rfl ?_
      refine r_aload_n 0 dX0_takeDue_3 rfl rfl ?_
      refine r_getV dX0_takeDue_4 fl_RX0_22 rfl (by assumption) (by first | assumption | exact up2_same _ _ _ _ | exact (Eq.trans (up2_ne _ _ (by omega)) (by first | assumption | exact up2_same _ _ _ _)) | exact (Eq.trans (up2_ne _ _ (by omega)) (Eq.trans (up2_ne _ _ (by omega)) (by first | assumption | exact up2_same _ _ _ _))) | exact (Eq.trans (up2_ne _ _ (by omega)) (Eq.trans (up2_ne _ _ (by omega)) (Eq.trans (up2_ne _ _ (by omega)) (by first | assumption | exact up2_same _ _ _ _)))) | exact (Eq.trans (up2_ne _ _ (by omega)) (Eq.trans (up2_ne _ _ (by omega)) (Eq.trans (up2_ne _ _ (by omega)) (Eq.trans (up2_ne _ _ (by omega)) (by first | assumption | exact up2_same _ _ _ _))))) | rfl) ?_
      refine r_icmpN_ge 43 dX0_takeDue_7 (by decide) (by omega) (by omega) (fun h7 => ?_) (fun h7 => ?_)
      · omega
      · refine r_aload_n 0 dX0_takeDue_10 rfl rfl ?_
        refine r_getR dX0_takeDue_11 fl_RX0_17 rfl (by assumption) (by assumption) ?_
        refine r_iload_n 3 dX0_takeDue_14 rfl rfl ?_
        refine r_ialdV dX0_takeDue_15 (by assumption) (by omega) (by omega) (by first | assumption | exact up2_same _ _ _ _ | exact (Eq.trans (up2_ne _ _ (by omega)) (by first | assumption | exact up2_same _ _ _ _)) | exact (Eq.trans (up2_ne _ _ (by omega)) (Eq.trans (up2_ne _ _ (by omega)) (by first | assumption | exact up2_same _ _ _ _))) | exact (Eq.trans (up2_ne _ _ (by omega)) (Eq.trans (up2_ne _ _ (by omega)) (Eq.trans (up2_ne _ _ (by omega)) (by first | assumption | exact up2_same _ _ _ _)))) | exact (Eq.trans (up2_ne _ _ (by omega)) (Eq.trans (up2_ne _ _ (by omega)) (Eq.trans (up2_ne _ _ (by omega)) (Eq.trans (up2_ne _ _ (by omega)) (by first | assumption | exact up2_same _ _ _ _))))) | rfl) ?_
        refine r_iload_n 1 dX0_takeDue_16 rfl rfl ?_
        refine r_icmpN_gt 37 dX0_takeDue_17 (by decide) (by omega) (by omega) (fun h17 => ?_) (fun h17 => ?_)
        · refine r_iincN 3 (b := 1) (ls2 := [_, _, _, _]) dX0_takeDue_37 rfl (by decide) (by decide) rfl ?_
          refine r_goto 2 dX0_takeDue_40 (by decide) ?_
          exact ih (i + 1) (by omega)
        · omega
  refine Mv.of pnX0_takeDue (Nat.le_of_ble_eq_true rfl) rfl ?_
  refine r_iconst (v := nI 0) dX0_takeDue_0 (by decide) ?_
  refine r_istore_n 3 (ls2 := [_, _, _, _]) dX0_takeDue_1 rfl (by decide) (Nat.le_of_ble_eq_true rfl) rfl ?_
  exact H (duIx l now) 0 (by omega)
theorem c_takeNo (hL : LKp sh mr a) {b : Nat} {l : Kp} (hC : KpC mi mr a l) (hl : l.length ≤ 12) (hok : ∀ q ∈ l, q.2 < 2 ^ 30) {now : Nat} (hnow : now < 2 ^ 30) (hd : duIx l now = l.length) : Mp mX0_takeDue 2 [.ref a, .int (nI now), .ref b] z sh mi mr (nI 0) := by
  obtain ⟨l0, l1, l2, l3, l4, l5⟩ := id hL
  obtain ⟨p1, p2⟩ := id hC
  have H : ∀ t i : Nat, i + t = l.length → Wp yX0_takeDue cX0_takeDue 4 (some .boolean) (EP 2 z sh mr mi (nI 0)) 0 0 2 [.ref a, .int (nI now), .ref b, .int (nI i)] [] z sh mi mr := by
    intro t
    induction t with
    | zero =>
      intro i hi
      refine r_iload_n 3 dX0_takeDue_2 rfl rfl ?_
      refine r_aload_n 0 dX0_takeDue_3 rfl rfl ?_
      refine r_getV dX0_takeDue_4 fl_RX0_22 rfl (by assumption) (by first | assumption | exact up2_same _ _ _ _ | exact (Eq.trans (up2_ne _ _ (by omega)) (by first | assumption | exact up2_same _ _ _ _)) | exact (Eq.trans (up2_ne _ _ (by omega)) (Eq.trans (up2_ne _ _ (by omega)) (by first | assumption | exact up2_same _ _ _ _))) | exact (Eq.trans (up2_ne _ _ (by omega)) (Eq.trans (up2_ne _ _ (by omega)) (Eq.trans (up2_ne _ _ (by omega)) (by first | assumption | exact up2_same _ _ _ _)))) | exact (Eq.trans (up2_ne _ _ (by omega)) (Eq.trans (up2_ne _ _ (by omega)) (Eq.trans (up2_ne _ _ (by omega)) (Eq.trans (up2_ne _ _ (by omega)) (by first | assumption | exact up2_same _ _ _ _))))) | rfl) ?_
      refine r_icmpN_ge 43 dX0_takeDue_7 (by decide) (by omega) (by omega) (fun h7 => ?_) (fun h7 => ?_)
      · refine r_iconst (v := nI 0) dX0_takeDue_43 (by decide) ?_
        refine r_zret dX0_takeDue_44 rfl (by first | exact b2_nar _ | decide) (Nat.le_of_ble_eq_true rfl) (Nat.le_of_ble_eq_true rfl) ?_
        exact ⟨rfl, rfl, rfl, rfl, rfl⟩
      · omega
    | succ t ih =>
      intro i hi
      obtain ⟨q, hq⟩ := gl_ex (l := l) (i := i) (by omega)
      have hqn := fi_bef (p := fun q => decide (q.2 ≤ now)) (show i < l.findIdx (fun q => decide (q.2 ≤ now)) by show i < duIx l now; omega) hq
      have hqd : now < q.2 := by simpa using hqn
      obtain ⟨s1, x, s2, s3⟩ := p2 i q hq
      have hqk := hok q (gl_mem hq)
      refine r_iload_n 3 dX0_takeDue_2 rfl rfl ?_
      refine r_aload_n 0 dX0_takeDue_3 rfl rfl ?_
      refine r_getV dX0_takeDue_4 fl_RX0_22 rfl (by assumption) (by first | assumption | exact up2_same _ _ _ _ | exact (Eq.trans (up2_ne _ _ (by omega)) (by first | assumption | exact up2_same _ _ _ _)) | exact (Eq.trans (up2_ne _ _ (by omega)) (Eq.trans (up2_ne _ _ (by omega)) (by first | assumption | exact up2_same _ _ _ _))) | exact (Eq.trans (up2_ne _ _ (by omega)) (Eq.trans (up2_ne _ _ (by omega)) (Eq.trans (up2_ne _ _ (by omega)) (by first | assumption | exact up2_same _ _ _ _)))) | exact (Eq.trans (up2_ne _ _ (by omega)) (Eq.trans (up2_ne _ _ (by omega)) (Eq.trans (up2_ne _ _ (by omega)) (Eq.trans (up2_ne _ _ (by omega)) (by first | assumption | exact up2_same _ _ _ _))))) | rfl) ?_
      refine r_icmpN_ge 43 dX0_takeDue_7 (by decide) (by omega) (by omega) (fun h7 => ?_) (fun h7 => ?_)
      · omega
      · refine r_aload_n 0 dX0_takeDue_10 rfl rfl ?_
        refine r_getR dX0_takeDue_11 fl_RX0_17 rfl (by assumption) (by assumption) ?_
        refine r_iload_n 3 dX0_takeDue_14 rfl rfl ?_
        refine r_ialdV dX0_takeDue_15 (by assumption) (by omega) (by omega) (by first | assumption | exact up2_same _ _ _ _ | exact (Eq.trans (up2_ne _ _ (by omega)) (by first | assumption | exact up2_same _ _ _ _)) | exact (Eq.trans (up2_ne _ _ (by omega)) (Eq.trans (up2_ne _ _ (by omega)) (by first | assumption | exact up2_same _ _ _ _))) | exact (Eq.trans (up2_ne _ _ (by omega)) (Eq.trans (up2_ne _ _ (by omega)) (Eq.trans (up2_ne _ _ (by omega)) (by first | assumption | exact up2_same _ _ _ _)))) | exact (Eq.trans (up2_ne _ _ (by omega)) (Eq.trans (up2_ne _ _ (by omega)) (Eq.trans (up2_ne _ _ (by omega)) (Eq.trans (up2_ne _ _ (by omega)) (by first | assumption | exact up2_same _ _ _ _))))) | rfl) ?_
        refine r_iload_n 1 dX0_takeDue_16 rfl rfl ?_
        refine r_icmpN_gt 37 dX0_takeDue_17 (by decide) (by omega) (by omega) (fun h17 => ?_) (fun h17 => ?_)
        · refine r_iincN 3 (b := 1) (ls2 := [_, _, _, _]) dX0_takeDue_37 rfl (by decide) (by decide) rfl ?_
          refine r_goto 2 dX0_takeDue_40 (by decide) ?_
          exact ih (i + 1) (by omega)
        · omega
  refine Mv.of pnX0_takeDue (Nat.le_of_ble_eq_true rfl) rfl ?_
  refine r_iconst (v := nI 0) dX0_takeDue_0 (by decide) ?_
  refine r_istore_n 3 (ls2 := [_, _, _, _]) dX0_takeDue_1 rfl (by decide) (Nat.le_of_ble_eq_true rfl) rfl ?_
  exact H l.length 0 (by omega)
theorem c_kpCopy {b : Nat} (hL : LKp sh mr a) (hB : LKp sh mr b) (hab : b + 27 ≤ a ∨ a + 27 ≤ b) {l : Kp} (hC : KpC mi mr b l) (hR : KpR mr a) (hRb : KpR mr b) (hl : l.length ≤ 12) (hok : ∀ q ∈ l, okP q.1) : Mi mX0_copyFrom 2 [.ref a, .ref b] z sh mi mr (fun v mi' => v = none ∧ KpC mi' mr a l ∧ Oth mi mi' a (a + 27)) := by
  obtain ⟨l0, l1, l2, l3, l4, l5⟩ := id hL
  obtain ⟨k0, k1, k2, k3, k4, k5⟩ := id hB
  obtain ⟨p1, p2⟩ := id hC
  obtain ⟨f, f1, f2⟩ := hR
  obtain ⟨g, g1, g2⟩ := hRb
  have H : ∀ t i : Nat, ∀ m : MI, i + t = l.length → Oth mi m a (a + 27) → (∀ j q, j < i → l[j]? = some q → m (a + 2) j = nI q.2 ∧ PkC m (a + 3 + 2 * f j) q.1) → Wp yX0_copyFrom cX0_copyFrom 3 none (EI 2 z sh mr (fun v mi' => v = none ∧ KpC mi' mr a l ∧ Oth mi mi' a (a + 27))) 0 0 2 [.ref a, .ref b, .int (nI i)] [] z sh m mr := by
    intro t
    induction t with
    | zero =>
      intro i m hi ho hm
      have hsz : m b 2 = nI l.length := by rw [ho b (by omega)]; exact p1
      refine r_iload_n 2 dX0_copyFrom_2 rfl rfl ?_
      refine r_aload_n 1 dX0_copyFrom_3 rfl rfl ?_
      refine r_getV dX0_copyFrom_4 fl_RX0_22 rfl (by assumption) (by first | assumption | exact up2_same _ _ _ _ | exact (Eq.trans (up2_ne _ _ (by omega)) (by first | assumption | exact up2_same _ _ _ _)) | exact (Eq.trans (up2_ne _ _ (by omega)) (Eq.trans (up2_ne _ _ (by omega)) (by first | assumption | exact up2_same _ _ _ _))) | exact (Eq.trans (up2_ne _ _ (by omega)) (Eq.trans (up2_ne _ _ (by omega)) (Eq.trans (up2_ne _ _ (by omega)) (by first | assumption | exact up2_same _ _ _ _)))) | exact (Eq.trans (up2_ne _ _ (by omega)) (Eq.trans (up2_ne _ _ (by omega)) (Eq.trans (up2_ne _ _ (by omega)) (Eq.trans (up2_ne _ _ (by omega)) (by first | assumption | exact up2_same _ _ _ _))))) | rfl) ?_
      refine r_icmpN_ge 43 dX0_copyFrom_7 (by decide) (by omega) (by omega) (fun h7 => ?_) (fun h7 => ?_)
      · refine r_aload_n 0 dX0_copyFrom_43 rfl rfl ?_
        refine r_aload_n 1 dX0_copyFrom_44 rfl rfl ?_
        refine r_getV dX0_copyFrom_45 fl_RX0_22 rfl (by assumption) (by first | assumption | exact up2_same _ _ _ _ | exact (Eq.trans (up2_ne _ _ (by omega)) (by first | assumption | exact up2_same _ _ _ _)) | exact (Eq.trans (up2_ne _ _ (by omega)) (Eq.trans (up2_ne _ _ (by omega)) (by first | assumption | exact up2_same _ _ _ _))) | exact (Eq.trans (up2_ne _ _ (by omega)) (Eq.trans (up2_ne _ _ (by omega)) (Eq.trans (up2_ne _ _ (by omega)) (by first | assumption | exact up2_same _ _ _ _)))) | exact (Eq.trans (up2_ne _ _ (by omega)) (Eq.trans (up2_ne _ _ (by omega)) (Eq.trans (up2_ne _ _ (by omega)) (Eq.trans (up2_ne _ _ (by omega)) (by first | assumption | exact up2_same _ _ _ _))))) | rfl) ?_
        refine r_putI dX0_copyFrom_48 fl_RX0_22 rfl rfl rfl (by assumption) ?_
        refine r_vret dX0_copyFrom_51 rfl (Nat.le_of_ble_eq_true rfl) (Nat.le_of_ble_eq_true rfl) ?_
        refine ⟨rfl, rfl, rfl, rfl, ⟨up2_same _ _ _ _, fun j q hq => ?_⟩, ho.up (by omega) (by omega)⟩
        have hj := gl_lt hq
        obtain ⟨e1, e2⟩ := hm j q (by omega) hq
        refine ⟨by rw [up2_row _ _ (by omega)]; exact e1, _, (f1 j (by omega)).2, e2.keep (up2_row _ _ (by omega)) (up2_row _ _ (by omega))⟩
      · omega
    | succ t ih =>
      intro i m hi ho hm
      have hsz : m b 2 = nI l.length := by rw [ho b (by omega)]; exact p1
      obtain ⟨q, hq⟩ := gl_ex (l := l) (i := i) (by omega)
      obtain ⟨s1, x, s2, s3⟩ := p2 i q hq
      have hxe : x = b + 3 + 2 * g i := Option.some.inj (s2.symm.trans (g1 i (by omega)).2)
      have hgi := (g1 i (by omega)).1
      have hxL := k5 (g i) hgi
      rw [← hxe] at hxL
      obtain ⟨u1, u2⟩ := f1 i (by omega)
      have hyL := l5 (f i) u1
      obtain ⟨y0, y1, y2⟩ := id hyL
      have hqk := hok q (gl_mem hq)
      have s3m : PkC m x q.1 := s3.keep (ho x (by omega)) (ho (x + 1) (by omega))
      refine r_iload_n 2 dX0_copyFrom_2 rfl rfl ?_
      refine r_aload_n 1 dX0_copyFrom_3 rfl rfl ?_
      refine r_getV dX0_copyFrom_4 fl_RX0_22 rfl (by assumption) (by first | assumption | exact up2_same _ _ _ _ | exact (Eq.trans (up2_ne _ _ (by omega)) (by first | assumption | exact up2_same _ _ _ _)) | exact (Eq.trans (up2_ne _ _ (by omega)) (Eq.trans (up2_ne _ _ (by omega)) (by first | assumption | exact up2_same _ _ _ _))) | exact (Eq.trans (up2_ne _ _ (by omega)) (Eq.trans (up2_ne _ _ (by omega)) (Eq.trans (up2_ne _ _ (by omega)) (by first | assumption | exact up2_same _ _ _ _)))) | exact (Eq.trans (up2_ne _ _ (by omega)) (Eq.trans (up2_ne _ _ (by omega)) (Eq.trans (up2_ne _ _ (by omega)) (Eq.trans (up2_ne _ _ (by omega)) (by first | assumption | exact up2_same _ _ _ _))))) | rfl) ?_
      refine r_icmpN_ge 43 dX0_copyFrom_7 (by decide) (by omega) (by omega) (fun h7 => ?_) (fun h7 => ?_)
      · omega
      · refine r_aload_n 0 dX0_copyFrom_10 rfl rfl ?_
        refine r_getR dX0_copyFrom_11 fl_RX0_11 rfl (by assumption) (by assumption) ?_
        refine r_iload_n 2 dX0_copyFrom_14 rfl rfl ?_
        refine r_aald dX0_copyFrom_15 (by assumption) (by decide) (by intro _; rfl) (by omega) (by omega) (by assumption) ?_
        refine r_aload_n 1 dX0_copyFrom_16 rfl rfl ?_
        refine r_getR dX0_copyFrom_17 fl_RX0_11 rfl (by assumption) (by assumption) ?_
        refine r_iload_n 2 dX0_copyFrom_20 rfl rfl ?_
        refine r_aald dX0_copyFrom_21 (by assumption) (by decide) (by intro _; rfl) (by omega) (by omega) (by assumption) ?_
        refine r_callVw [_] dX0_copyFrom_22 ok_RX0_26 ivX4_copyFrom (by assumption) ⟨_, _, rfl⟩ rfl rfl (Nat.le_of_ble_eq_true rfl) (by refine ⟨?_, ?_, ?_, ?_⟩ <;> exact Nat.le_of_ble_eq_true rfl) (c_copyPk hyL hxL) ?_
        intro m2 ⟨ho2, e1, e2, e3, e4⟩
        have hdu : m2 (b + 2) i = nI q.2 := by rw [ho2 (b + 2) (by omega) (by omega), ho (b + 2) (by omega)]; exact s1
        refine r_aload_n 0 dX0_copyFrom_25 rfl rfl ?_
        refine r_getR dX0_copyFrom_26 fl_RX0_17 rfl (by assumption) (by assumption) ?_
        refine r_iload_n 2 dX0_copyFrom_29 rfl rfl ?_
        refine r_aload_n 1 dX0_copyFrom_30 rfl rfl ?_
        refine r_getR dX0_copyFrom_31 fl_RX0_17 rfl (by assumption) (by assumption) ?_
        refine r_iload_n 2 dX0_copyFrom_34 rfl rfl ?_
        refine r_ialdV dX0_copyFrom_35 (by assumption) (by omega) (by omega) (by first | assumption | exact up2_same _ _ _ _ | exact (Eq.trans (up2_ne _ _ (by omega)) (by first | assumption | exact up2_same _ _ _ _)) | exact (Eq.trans (up2_ne _ _ (by omega)) (Eq.trans (up2_ne _ _ (by omega)) (by first | assumption | exact up2_same _ _ _ _))) | exact (Eq.trans (up2_ne _ _ (by omega)) (Eq.trans (up2_ne _ _ (by omega)) (Eq.trans (up2_ne _ _ (by omega)) (by first | assumption | exact up2_same _ _ _ _)))) | exact (Eq.trans (up2_ne _ _ (by omega)) (Eq.trans (up2_ne _ _ (by omega)) (Eq.trans (up2_ne _ _ (by omega)) (Eq.trans (up2_ne _ _ (by omega)) (by first | assumption | exact up2_same _ _ _ _))))) | rfl) ?_
        refine r_iast dX0_copyFrom_36 (by assumption) (by omega) (by omega) ?_
        refine r_iincN 2 (b := 1) (ls2 := [_, _, _]) dX0_copyFrom_37 rfl (by decide) (by decide) rfl ?_
        refine r_goto 2 dX0_copyFrom_40 (by decide) ?_
        refine ih (i + 1) _ (by omega) (fun x' hx' => by rw [up2_row _ _ (by omega), ho2 x' (by omega) (by omega)]; exact ho x' hx') (fun j q' hj hq' => ?_)
        by_cases hji : j = i
        · subst hji
          rw [hq] at hq'
          cases hq'
          exact ⟨up2_same _ _ _ _, (s3m.copy hqk.2.2.1 e1 e2 e3 e4).keep (up2_row _ _ (by omega)) (up2_row _ _ (by omega))⟩
        · obtain ⟨t1, t2⟩ := hm j q' (by omega) hq'
          have hfj := f1 j (by omega)
          have hne : f j ≠ f i := fun e => hji (f2 j i (by omega) (by omega) e)
          refine ⟨by rw [up2_ne _ _ (Or.inr hji), ho2 (a + 2) (by omega) (by omega)]; exact t1, t2.keep ?_ ?_⟩
          · rw [up2_row _ _ (by omega), ho2 _ (by omega) (by omega)]
          · rw [up2_row _ _ (by omega), ho2 _ (by omega) (by omega)]
  refine Mv.of pnX0_copyFrom (Nat.le_of_ble_eq_true rfl) rfl ?_
  refine r_iconst (v := nI 0) dX0_copyFrom_0 (by decide) ?_
  refine r_istore_n 2 (ls2 := [_, _, _]) dX0_copyFrom_1 rfl (by decide) (Nat.le_of_ble_eq_true rfl) rfl ?_
  exact H l.length 0 mi (by omega) Oth.rf (fun j q hj => by omega)
end KEPT
