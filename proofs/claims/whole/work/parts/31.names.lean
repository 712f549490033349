section NAMES
variable {z : Nat} {sh : SH} {mi : MI} {mr : MR} {a : Nat}
theorem c_nmClear (hL : LNm sh mr a) : Mi mX2_clear 0 [.ref a] z sh mi mr (fun v mi' => v = none ∧ mi' = up2 mi a 1 (nI 0)) := by
  obtain ⟨l0, l1, l2⟩ := id hL
  refine Mv.of pnX2_clear (Nat.le_of_ble_eq_true rfl) rfl ?_
  refine r_aload_n 0 dX2_clear_0 rfl rfl ?_
  refine r_iconst (v := nI 0) dX2_clear_1 (by decide) ?_
  refine r_putI dX2_clear_2 fl_RX2_21 rfl rfl rfl (by assumption) ?_
  refine r_vret dX2_clear_5 rfl (Nat.le_of_ble_eq_true rfl) (Nat.le_of_ble_eq_true rfl) ?_
  exact ⟨rfl, rfl, rfl, rfl, rfl⟩
theorem c_nmCopy {b : Nat} (hL : LNm sh mr a) (hB : LNm sh mr b) : Mi mX2_copyFrom 1 [.ref a, .ref b] z sh mi mr (fun v mi' => v = none ∧ (∀ x, x ≠ a → x ≠ a + 1 → mi' x = mi x) ∧ mi' a 1 = mi b 1 ∧ ∀ j, j < 2 → mi' (a + 1) j = mi (b + 1) j) := by
  obtain ⟨l0, l1, l2⟩ := id hL
  obtain ⟨k0, k1, k2⟩ := id hB
  have n1 : a ≠ a + 1 := by omega
  have n2 : b ≠ a + 1 := fun e => by rw [e, l2] at k0; cases k0
  refine Mv.of pnX2_copyFrom (Nat.le_of_ble_eq_true rfl) rfl ?_
  refine r_aload_n 1 dX2_copyFrom_0 rfl rfl ?_
  refine r_getR dX2_copyFrom_1 fl_RX2_9 rfl (by assumption) (by assumption) ?_
  refine r_iconst (v := nI 0) dX2_copyFrom_4 (by decide) ?_
  refine r_aload_n 0 dX2_copyFrom_5 rfl rfl ?_
  refine r_getR dX2_copyFrom_6 fl_RX2_9 rfl (by assumption) (by assumption) ?_
  refine r_iconst (v := nI 0) dX2_copyFrom_9 (by decide) ?_
  refine r_iconst (v := nI 2) dX2_copyFrom_10 (by decide) ?_
  refine r_acopy dX2_copyFrom_11 ml_RX2_15 x_nat x_sta x_sys (by assumption) (by assumption) (by decide) ⟨(Nat.le_of_ble_eq_true rfl), (Nat.le_of_ble_eq_true rfl)⟩ ?_
  refine r_aload_n 0 dX2_copyFrom_14 rfl rfl ?_
  refine r_aload_n 1 dX2_copyFrom_15 rfl rfl ?_
  refine r_getV dX2_copyFrom_16 fl_RX2_21 rfl (by assumption) (by rfl) ?_
  refine r_putI dX2_copyFrom_19 fl_RX2_21 rfl rfl rfl (by assumption) ?_
  refine r_vret dX2_copyFrom_22 rfl (Nat.le_of_ble_eq_true rfl) (Nat.le_of_ble_eq_true rfl) ?_
  refine ⟨rfl, rfl, rfl, rfl, ?_⟩
  refine ⟨fun x h1 h2 => ?_, ?_, fun j hj => ?_⟩
  · simp [up2_row, cpRow, h1, h2]
  · simp [up2, cpRow, n1, n2]
  · simp [up2_row, cpRow, hj, Ne.symm n1]
theorem c_nmAdd (hL : LNm sh mr a) {n : Nat} {x : Int32} (hn : mi a 1 = nI n) (h2 : n < 2) : Mi mX2_add 0 [.ref a, .int x] z sh mi mr (fun v mi' => v = none ∧ mi' = up2 (up2 mi (a + 1) n x) a 1 (nI (n + 1))) := by
  obtain ⟨l0, l1, l2⟩ := id hL
  refine Mv.of pnX2_add (Nat.le_of_ble_eq_true rfl) rfl ?_
  refine r_aload_n 0 dX2_add_0 rfl rfl ?_
  refine r_getV dX2_add_1 fl_RX2_21 rfl (by assumption) (by first | assumption | exact up2_same _ _ _ _ | exact (Eq.trans (up2_ne _ _ (by omega)) (by first | assumption | exact up2_same _ _ _ _)) | exact (Eq.trans (up2_ne _ _ (by omega)) (Eq.trans (up2_ne _ _ (by omega)) (by first | assumption | exact up2_same _ _ _ _))) | exact (Eq.trans (up2_ne _ _ (by omega)) (Eq.trans (up2_ne _ _ (by omega)) (Eq.trans (up2_ne _ _ (by omega)) (by first | assumption | exact up2_same _ _ _ _)))) | exact (Eq.trans (up2_ne _ _ (by omega)) (Eq.trans (up2_ne _ _ (by omega)) (Eq.trans (up2_ne _ _ (by omega)) (Eq.trans (up2_ne _ _ (by omega)) (by first | assumption | exact up2_same _ _ _ _))))) | rfl) ?_
  refine r_iconst (v := nI 2) dX2_add_4 (by decide) ?_
  refine r_icmpN_ge 28 dX2_add_5 (by decide) (by omega) (by omega) (fun h5 => ?_) (fun h5 => ?_)
  · first | omega | (refine r_vret dX2_add_28 rfl (Nat.le_refl _) (Nat.le_refl _) ?_; exact ⟨rfl, rfl, rfl, rfl, rfl⟩)
  · refine r_aload_n 0 dX2_add_8 rfl rfl ?_
    refine r_getR dX2_add_9 fl_RX2_9 rfl (by assumption) (by assumption) ?_
    refine r_aload_n 0 dX2_add_12 rfl rfl ?_
    refine r_getV dX2_add_13 fl_RX2_21 rfl (by assumption) (by first | assumption | exact up2_same _ _ _ _ | exact (Eq.trans (up2_ne _ _ (by omega)) (by first | assumption | exact up2_same _ _ _ _)) | exact (Eq.trans (up2_ne _ _ (by omega)) (Eq.trans (up2_ne _ _ (by omega)) (by first | assumption | exact up2_same _ _ _ _))) | exact (Eq.trans (up2_ne _ _ (by omega)) (Eq.trans (up2_ne _ _ (by omega)) (Eq.trans (up2_ne _ _ (by omega)) (by first | assumption | exact up2_same _ _ _ _)))) | exact (Eq.trans (up2_ne _ _ (by omega)) (Eq.trans (up2_ne _ _ (by omega)) (Eq.trans (up2_ne _ _ (by omega)) (Eq.trans (up2_ne _ _ (by omega)) (by first | assumption | exact up2_same _ _ _ _))))) | rfl) ?_
    refine r_iload_n 1 dX2_add_16 rfl rfl ?_
    refine r_iast dX2_add_17 (by assumption) (by omega) (by omega) ?_
    refine r_aload_n 0 dX2_add_18 rfl rfl ?_
    refine r_dup dX2_add_19 rfl ?_
    refine r_getV dX2_add_20 fl_RX2_21 rfl (by assumption) (by first | assumption | exact up2_same _ _ _ _ | exact (Eq.trans (up2_ne _ _ (by omega)) (by first | assumption | exact up2_same _ _ _ _)) | exact (Eq.trans (up2_ne _ _ (by omega)) (Eq.trans (up2_ne _ _ (by omega)) (by first | assumption | exact up2_same _ _ _ _))) | exact (Eq.trans (up2_ne _ _ (by omega)) (Eq.trans (up2_ne _ _ (by omega)) (Eq.trans (up2_ne _ _ (by omega)) (by first | assumption | exact up2_same _ _ _ _)))) | exact (Eq.trans (up2_ne _ _ (by omega)) (Eq.trans (up2_ne _ _ (by omega)) (Eq.trans (up2_ne _ _ (by omega)) (Eq.trans (up2_ne _ _ (by omega)) (by first | assumption | exact up2_same _ _ _ _))))) | rfl) ?_
    refine r_iconst (v := nI 1) dX2_add_23 (by decide) ?_
    refine r_iaddN dX2_add_24 ?_
    refine r_putI dX2_add_25 fl_RX2_21 rfl rfl rfl (by assumption) ?_
    first | omega | (refine r_vret dX2_add_28 rfl (Nat.le_refl _) (Nat.le_refl _) ?_; exact ⟨rfl, rfl, rfl, rfl, rfl⟩)
theorem c_nmHas (hL : LNm sh mr a) {l : List Nm} (hC : NmC mi a l) (hl : l.length ≤ 2) (hok : ∀ x ∈ l, okL 3 x) {c : Nm} (hc : okL 3 c) : Mp mX2_has 0 [.ref a, .int (nI (en 32 c))] z sh mi mr (b2 (decide (c ∈ l))) := by
  obtain ⟨l0, l1, l2⟩ := id hL
  obtain ⟨p1, p2⟩ := id hC
  have c1 := okL_32 hc
  have H : ∀ k i : Nat, i + k = l.length → (∀ j x, j < i → l[j]? = some x → x ≠ c) → Wp yX2_has cX2_has 3 (some .boolean) (EP 0 z sh mr mi (b2 (decide (c ∈ l)))) 0 0 2 [.ref a, .int (nI (en 32 c)), .int (nI i)] [] z sh mi mr := by
    intro k
    induction k with
    | zero =>
      intro i hi hb
      have hno : decide (c ∈ l) = false := by
        rw [decide_eq_false_iff_not]
        intro hm
        obtain ⟨j, hj⟩ := List.getElem?_of_mem hm
        exact hb j c (by have := gl_lt hj; omega) hj rfl
      refine r_iload_n 2 dX2_has_2 rfl rfl ?_
      refine r_aload_n 0 dX2_has_3 rfl rfl ?_
      refine r_getV dX2_has_4 fl_RX2_21 rfl (by assumption) (by first | assumption | exact up2_same _ _ _ _ | exact (Eq.trans (up2_ne _ _ (by omega)) (by first | assumption | exact up2_same _ _ _ _)) | exact (Eq.trans (up2_ne _ _ (by omega)) (Eq.trans (up2_ne _ _ (by omega)) (by first | assumption | exact up2_same _ _ _ _))) | exact (Eq.trans (up2_ne _ _ (by omega)) (Eq.trans (up2_ne _ _ (by omega)) (Eq.trans (up2_ne _ _ (by omega)) (by first | assumption | exact up2_same _ _ _ _)))) | exact (Eq.trans (up2_ne _ _ (by omega)) (Eq.trans (up2_ne _ _ (by omega)) (Eq.trans (up2_ne _ _ (by omega)) (Eq.trans (up2_ne _ _ (by omega)) (by first | assumption | exact up2_same _ _ _ _))))) | rfl) ?_
      refine r_icmpN_ge 28 dX2_has_7 (by decide) (by omega) (by omega) (fun h7 => ?_) (fun h7 => ?_)
      · refine r_iconst (v := nI 0) dX2_has_28 (by decide) ?_
        refine r_zret dX2_has_29 rfl (by first | exact b2_nar _ | decide) (Nat.le_of_ble_eq_true rfl) (Nat.le_of_ble_eq_true rfl) ?_
        exact ⟨rfl, rfl, rfl, by rw [hno]; rfl, rfl⟩
      · omega
    | succ k ih =>
      intro i hi hb
      obtain ⟨x, hx⟩ := gl_ex (l := l) (i := i) (by omega)
      have hv := p2 i x hx
      have hxk := hok x (gl_mem hx)
      have hlt := okL_32 hxk
      refine r_iload_n 2 dX2_has_2 rfl rfl ?_
      refine r_aload_n 0 dX2_has_3 rfl rfl ?_
      refine r_getV dX2_has_4 fl_RX2_21 rfl (by assumption) (by first | assumption | exact up2_same _ _ _ _ | exact (Eq.trans (up2_ne _ _ (by omega)) (by first | assumption | exact up2_same _ _ _ _)) | exact (Eq.trans (up2_ne _ _ (by omega)) (Eq.trans (up2_ne _ _ (by omega)) (by first | assumption | exact up2_same _ _ _ _))) | exact (Eq.trans (up2_ne _ _ (by omega)) (Eq.trans (up2_ne _ _ (by omega)) (Eq.trans (up2_ne _ _ (by omega)) (by first | assumption | exact up2_same _ _ _ _)))) | exact (Eq.trans (up2_ne _ _ (by omega)) (Eq.trans (up2_ne _ _ (by omega)) (Eq.trans (up2_ne _ _ (by omega)) (Eq.trans (up2_ne _ _ (by omega)) (by first | assumption | exact up2_same _ _ _ _))))) | rfl) ?_
      refine r_icmpN_ge 28 dX2_has_7 (by decide) (by omega) (by omega) (fun h7 => ?_) (fun h7 => ?_)
      · omega
      · refine r_aload_n 0 dX2_has_10 rfl rfl ?_
        refine r_getR dX2_has_11 fl_RX2_9 rfl (by assumption) (by assumption) ?_
        refine r_iload_n 2 dX2_has_14 rfl rfl ?_
        refine r_ialdV dX2_has_15 (by assumption) (by omega) (by omega) (by first | assumption | exact up2_same _ _ _ _ | exact (Eq.trans (up2_ne _ _ (by omega)) (by first | assumption | exact up2_same _ _ _ _)) | exact (Eq.trans (up2_ne _ _ (by omega)) (Eq.trans (up2_ne _ _ (by omega)) (by first | assumption | exact up2_same _ _ _ _))) | exact (Eq.trans (up2_ne _ _ (by omega)) (Eq.trans (up2_ne _ _ (by omega)) (Eq.trans (up2_ne _ _ (by omega)) (by first | assumption | exact up2_same _ _ _ _)))) | exact (Eq.trans (up2_ne _ _ (by omega)) (Eq.trans (up2_ne _ _ (by omega)) (Eq.trans (up2_ne _ _ (by omega)) (Eq.trans (up2_ne _ _ (by omega)) (by first | assumption | exact up2_same _ _ _ _))))) | rfl) ?_
        refine r_iload_n 1 dX2_has_16 rfl rfl ?_
        refine r_icmpN_ne 22 dX2_has_17 (by decide) (by omega) (by omega) (fun h17 => ?_) (fun h17 => ?_)
        · refine r_iincN 2 (b := 1) (ls2 := [_, _, _]) dX2_has_22 rfl (by decide) (by decide) rfl ?_
          refine r_goto 2 dX2_has_25 (by decide) ?_
          refine ih (i + 1) (by omega) (fun j x' hj hx' => ?_)
          rcases Nat.lt_or_ge j i with q | q
          · exact hb j x' q hx'
          · rw [show j = i by omega, hx] at hx'
            cases hx'
            exact fun e => h17 (by rw [e])
        · have hyes : decide (c ∈ l) = true := by rw [decide_eq_true_iff, ← (okL_inj (b := 32) hxk hc (by omega)).mp h17]; exact gl_mem hx
          refine r_iconst (v := nI 1) dX2_has_20 (by decide) ?_
          refine r_zret dX2_has_21 rfl (by decide) (Nat.le_refl _) (Nat.le_refl _) ?_
          exact ⟨rfl, rfl, rfl, by rw [hyes]; rfl, rfl⟩
  refine Mv.of pnX2_has (Nat.le_of_ble_eq_true rfl) rfl ?_
  refine r_iconst (v := nI 0) dX2_has_0 (by decide) ?_
  refine r_istore_n 2 (ls2 := [_, _, _]) dX2_has_1 rfl (by decide) (Nat.le_of_ble_eq_true rfl) rfl ?_
  exact H l.length 0 (by omega) (fun j w hj => by omega)
end NAMES
section KNOWN
variable {z : Nat} {sh : SH} {mi : MI} {mr : MR} {a : Nat}
def KnE (mi : MI) (a i : Nat) (q : Nm × Nm × Nat) : Prop := mi (a + 1) i = nI (en 32 q.1) ∧ mi (a + 2) i = nI (en 32 q.2.1) ∧ mi (a + 3) i = nI q.2.2
theorem c_knClear (hL : LKn sh mr a) : Mi mX1_clear 0 [.ref a] z sh mi mr (fun v mi' => v = none ∧ mi' = up2 mi a 3 (nI 0)) := by
  obtain ⟨l0, l1, l2, l3, l4, l5, l6⟩ := id hL
  refine Mv.of pnX1_clear (Nat.le_of_ble_eq_true rfl) rfl ?_
  refine r_aload_n 0 dX1_clear_0 rfl rfl ?_
  refine r_iconst (v := nI 0) dX1_clear_1 (by decide) ?_
  refine r_putI dX1_clear_2 fl_RX1_27 rfl rfl rfl (by assumption) ?_
  refine r_vret dX1_clear_5 rfl (Nat.le_of_ble_eq_true rfl) (Nat.le_of_ble_eq_true rfl) ?_
  exact ⟨rfl, rfl, rfl, rfl, rfl⟩
theorem LKn.apart {b : Nat} (hL : LKn sh mr a) (hB : LKn sh mr b) : b = a ∨ b + 4 ≤ a ∨ a + 4 ≤ b := by
  obtain ⟨l0, l1, l2, l3, l4, l5, l6⟩ := hL
  obtain ⟨k0, k1, k2, k3, k4, k5, k6⟩ := hB
  have n1 : b ≠ a + 1 := fun e => by rw [e, l2] at k0; cases k0
  have n2 : b ≠ a + 2 := fun e => by rw [e, l4] at k0; cases k0
  have n3 : b ≠ a + 3 := fun e => by rw [e, l6] at k0; cases k0
  have n4 : a ≠ b + 1 := fun e => by rw [e, k2] at l0; cases l0
  have n5 : a ≠ b + 2 := fun e => by rw [e, k4] at l0; cases l0
  have n6 : a ≠ b + 3 := fun e => by rw [e, k6] at l0; cases l0
  omega
theorem c_knCopy {b : Nat} (hL : LKn sh mr a) (hB : LKn sh mr b) : Mi mX1_copyFrom 1 [.ref a, .ref b] z sh mi mr (fun v mi' => v = none ∧ Oth mi mi' a (a + 4) ∧ mi' a 3 = mi b 3 ∧ ∀ r j, 1 ≤ r → r ≤ 3 → j < 16 → mi' (a + r) j = mi (b + r) j) := by
  have hap := hL.apart hB
  obtain ⟨l0, l1, l2, l3, l4, l5, l6⟩ := id hL
  obtain ⟨k0, k1, k2, k3, k4, k5, k6⟩ := id hB
  refine Mv.of pnX1_copyFrom (Nat.le_of_ble_eq_true rfl) rfl ?_
  refine r_aload_n 1 dX1_copyFrom_0 rfl rfl ?_
  refine r_getR dX1_copyFrom_1 fl_RX1_9 rfl (by assumption) (by assumption) ?_
  refine r_iconst (v := nI 0) dX1_copyFrom_4 (by decide) ?_
  refine r_aload_n 0 dX1_copyFrom_5 rfl rfl ?_
  refine r_getR dX1_copyFrom_6 fl_RX1_9 rfl (by assumption) (by assumption) ?_
  refine r_iconst (v := nI 0) dX1_copyFrom_9 (by decide) ?_
  refine r_bipush (v := nI 16) dX1_copyFrom_10 (by decide) ?_
  refine r_acopy dX1_copyFrom_12 ml_RX1_21 x_nat x_sta x_sys (by assumption) (by assumption) (by decide) ⟨(Nat.le_of_ble_eq_true rfl), (Nat.le_of_ble_eq_true rfl)⟩ ?_
  refine r_aload_n 1 dX1_copyFrom_15 rfl rfl ?_
  refine r_getR dX1_copyFrom_16 fl_RX1_15 rfl (by assumption) (by assumption) ?_
  refine r_iconst (v := nI 0) dX1_copyFrom_19 (by decide) ?_
  refine r_aload_n 0 dX1_copyFrom_20 rfl rfl ?_
  refine r_getR dX1_copyFrom_21 fl_RX1_15 rfl (by assumption) (by assumption) ?_
  refine r_iconst (v := nI 0) dX1_copyFrom_24 (by decide) ?_
  refine r_bipush (v := nI 16) dX1_copyFrom_25 (by decide) ?_
  refine r_acopy dX1_copyFrom_27 ml_RX1_21 x_nat x_sta x_sys (by assumption) (by assumption) (by decide) ⟨(Nat.le_of_ble_eq_true rfl), (Nat.le_of_ble_eq_true rfl)⟩ ?_
  refine r_aload_n 1 dX1_copyFrom_30 rfl rfl ?_
  refine r_getR dX1_copyFrom_31 fl_RX1_18 rfl (by assumption) (by assumption) ?_
  refine r_iconst (v := nI 0) dX1_copyFrom_34 (by decide) ?_
  refine r_aload_n 0 dX1_copyFrom_35 rfl rfl ?_
  refine r_getR dX1_copyFrom_36 fl_RX1_18 rfl (by assumption) (by assumption) ?_
  refine r_iconst (v := nI 0) dX1_copyFrom_39 (by decide) ?_
  refine r_bipush (v := nI 16) dX1_copyFrom_40 (by decide) ?_
  refine r_acopy dX1_copyFrom_42 ml_RX1_21 x_nat x_sta x_sys (by assumption) (by assumption) (by decide) ⟨(Nat.le_of_ble_eq_true rfl), (Nat.le_of_ble_eq_true rfl)⟩ ?_
  refine r_aload_n 0 dX1_copyFrom_45 rfl rfl ?_
  refine r_aload_n 1 dX1_copyFrom_46 rfl rfl ?_
  refine r_getV dX1_copyFrom_47 fl_RX1_27 rfl (by assumption) (by rfl) ?_
  refine r_putI dX1_copyFrom_50 fl_RX1_27 rfl rfl rfl (by assumption) ?_
  refine r_vret dX1_copyFrom_53 rfl (Nat.le_of_ble_eq_true rfl) (Nat.le_of_ble_eq_true rfl) ?_
  refine ⟨rfl, rfl, rfl, rfl, ?_⟩
  refine ⟨fun x hx => ?_, ?_, fun r j r1 r3 hj => ?_⟩
  · rw [up2_row _ _ (by omega)]; unfold cpRow; rw [if_neg (by omega), if_neg (by omega), if_neg (by omega)]
  · rw [up2_same]; unfold cpRow; rw [if_neg (by omega), if_neg (by omega), if_neg (by omega)]
  · rcases (show r = 1 ∨ r = 2 ∨ r = 3 by omega) with rfl | rfl | rfl
    · rw [up2_row _ _ (by omega)]; unfold cpRow; rw [if_neg (by omega), if_neg (by omega), if_pos rfl, if_pos hj]
    · rw [up2_row _ _ (by omega)]; unfold cpRow; rw [if_neg (by omega), if_pos rfl, if_pos hj, if_neg (by omega)]
    · rw [up2_row _ _ (by omega)]; unfold cpRow; rw [if_pos rfl, if_pos hj, if_neg (by omega), if_neg (by omega)]
theorem c_move (hL : LKn sh mr a) {i j : Nat} (hi : i < 16) (hj : j < 16) : Mi mX1_move 0 [.ref a, .int (nI i), .int (nI j)] z sh mi mr (fun v mi' => v = none ∧ Oth mi mi' (a + 1) (a + 4) ∧ ∀ r q, 1 ≤ r → r ≤ 3 → mi' (a + r) q = if q = j then mi (a + r) i else mi (a + r) q) := by
  obtain ⟨l0, l1, l2, l3, l4, l5, l6⟩ := id hL
  refine Mv.of pnX1_move (Nat.le_of_ble_eq_true rfl) rfl ?_
  refine r_iload_n 1 dX1_move_0 rfl rfl ?_
  refine r_ifN_lt 56 dX1_move_1 (by decide) (by omega) ?_
  refine r_iload_n 1 dX1_move_4 rfl rfl ?_
  refine r_bipush (v := nI 16) dX1_move_5 (by decide) ?_
  refine r_icmpN_ge 56 dX1_move_7 (by decide) (by omega) (by omega) (fun h7 => ?_) (fun h7 => ?_)
  · first | omega | (refine r_vret dX1_move_56 rfl (Nat.le_refl _) (Nat.le_refl _) ?_; refine ⟨rfl, rfl, rfl, rfl, fun x hx => ?_, fun r q r1 r3 => ?_⟩; (rw [up2_row _ _ (by omega), up2_row _ _ (by omega), up2_row _ _ (by omega)]); (rcases (show r = 1 ∨ r = 2 ∨ r = 3 by omega) with rfl | rfl | rfl <;> by_cases hq : q = j <;> simp [up2, hq]))
  · refine r_iload_n 2 dX1_move_10 rfl rfl ?_
    refine r_ifN_lt 56 dX1_move_11 (by decide) (by omega) ?_
    refine r_iload_n 2 dX1_move_14 rfl rfl ?_
    refine r_bipush (v := nI 16) dX1_move_15 (by decide) ?_
    refine r_icmpN_ge 56 dX1_move_17 (by decide) (by omega) (by omega) (fun h17 => ?_) (fun h17 => ?_)
    · first | omega | (refine r_vret dX1_move_56 rfl (Nat.le_refl _) (Nat.le_refl _) ?_; refine ⟨rfl, rfl, rfl, rfl, fun x hx => ?_, fun r q r1 r3 => ?_⟩; (rw [up2_row _ _ (by omega), up2_row _ _ (by omega), up2_row _ _ (by omega)]); (rcases (show r = 1 ∨ r = 2 ∨ r = 3 by omega) with rfl | rfl | rfl <;> by_cases hq : q = j <;> simp [up2, hq]))
    · refine r_aload_n 0 dX1_move_20 rfl rfl ?_
      refine r_getR dX1_move_21 fl_RX1_9 rfl (by assumption) (by assumption) ?_
      refine r_iload_n 2 dX1_move_24 rfl rfl ?_
      refine r_aload_n 0 dX1_move_25 rfl rfl ?_
      refine r_getR dX1_move_26 fl_RX1_9 rfl (by assumption) (by assumption) ?_
      refine r_iload_n 1 dX1_move_29 rfl rfl ?_
      refine r_ialdV dX1_move_30 (by assumption) (by omega) (by omega) (by rfl) ?_
      refine r_iast dX1_move_31 (by assumption) (by omega) (by omega) ?_
      refine r_aload_n 0 dX1_move_32 rfl rfl ?_
      refine r_getR dX1_move_33 fl_RX1_15 rfl (by assumption) (by assumption) ?_
      refine r_iload_n 2 dX1_move_36 rfl rfl ?_
      refine r_aload_n 0 dX1_move_37 rfl rfl ?_
      refine r_getR dX1_move_38 fl_RX1_15 rfl (by assumption) (by assumption) ?_
      refine r_iload_n 1 dX1_move_41 rfl rfl ?_
      refine r_ialdV dX1_move_42 (by assumption) (by omega) (by omega) (by rfl) ?_
      refine r_iast dX1_move_43 (by assumption) (by omega) (by omega) ?_
      refine r_aload_n 0 dX1_move_44 rfl rfl ?_
      refine r_getR dX1_move_45 fl_RX1_18 rfl (by assumption) (by assumption) ?_
      refine r_iload_n 2 dX1_move_48 rfl rfl ?_
      refine r_aload_n 0 dX1_move_49 rfl rfl ?_
      refine r_getR dX1_move_50 fl_RX1_18 rfl (by assumption) (by assumption) ?_
      refine r_iload_n 1 dX1_move_53 rfl rfl ?_
      refine r_ialdV dX1_move_54 (by assumption) (by omega) (by omega) (by rfl) ?_
      refine r_iast dX1_move_55 (by assumption) (by omega) (by omega) ?_
      first | omega | (refine r_vret dX1_move_56 rfl (Nat.le_refl _) (Nat.le_refl _) ?_; refine ⟨rfl, rfl, rfl, rfl, fun x hx => ?_, fun r q r1 r3 => ?_⟩; (rw [up2_row _ _ (by omega), up2_row _ _ (by omega), up2_row _ _ (by omega)]); (rcases (show r = 1 ∨ r = 2 ∨ r = 3 by omega) with rfl | rfl | rfl <;> by_cases hq : q = j <;> simp [up2, hq]))
theorem c_placeOf {b : Nat} (hL : LKn sh mr a) (hB : LPk sh mr b) {l : Kn} (hC : KnC mi a l) (hl : l.length ≤ 16) (hok : ∀ q ∈ l, okL 3 q.1 ∧ okL 4 q.2.1) {p : Pk} (hP : PkC mi b p) (hp : okP p) : Mp mX1_placeOf 0 [.ref a, .ref b] z sh mi mr (if knIx l p < l.length then nI (knIx l p) else -6) := by
  obtain ⟨l0, l1, l2, l3, l4, l5, l6⟩ := id hL
  obtain ⟨k0, k1, k2⟩ := id hB
  obtain ⟨p1, p2⟩ := id hC
  obtain ⟨q1, q2, q3, q4⟩ := id hP
  have c1 := okL_32 hp.1
  have c2 := okT_32 hp.2.1
  have H : ∀ k i : Nat, i + k = l.length → (∀ j x, j < i → l[j]? = some x → (x.1 == p.1 && x.2.1 == p.2.1) = false) → Wp yX1_placeOf cX1_placeOf 3 (some .int) (EP 0 z sh mr mi (if knIx l p < l.length then nI (knIx l p) else -6)) 0 0 2 [.ref a, .ref b, .int (nI i)] [] z sh mi mr := by
    intro k
    induction k with
    | zero =>
      intro i hi hb
      have hno : knIx l p = l.length := fi_no (fun j w hj => hb j w (by have := gl_lt hj; omega) hj)
      refine r_iload_n 2 dX1_placeOf_2 rfl rfl ?_
      refine r_aload_n 0 dX1_placeOf_3 rfl rfl ?_
      refine r_getV dX1_placeOf_4 fl_RX1_27 rfl (by assumption) (by first | assumption | exact up2_same _ _ _ _ | exact (Eq.trans (up2_ne _ _ (by omega)) (by first | assumption | exact up2_same _ _ _ _)) | exact (Eq.trans (up2_ne _ _ (by omega)) (Eq.trans (up2_ne _ _ (by omega)) (by first | assumption | exact up2_same _ _ _ _))) | exact (Eq.trans (up2_ne _ _ (by omega)) (Eq.trans (up2_ne _ _ (by omega)) (Eq.trans (up2_ne _ _ (by omega)) (by first | assumption | exact up2_same _ _ _ _)))) | exact (Eq.trans (up2_ne _ _ (by omega)) (Eq.trans (up2_ne _ _ (by omega)) (Eq.trans (up2_ne _ _ (by omega)) (Eq.trans (up2_ne _ _ (by omega)) (by first | assumption | exact up2_same _ _ _ _))))) | rfl) ?_
      refine r_icmpN_ge 44 dX1_placeOf_7 (by decide) (by omega) (by omega) (fun h7 => ?_) (fun h7 => ?_)
      · refine r_bipush (v := -6) dX1_placeOf_44 (by decide) ?_
        refine r_iret dX1_placeOf_46 rfl (Nat.le_of_ble_eq_true rfl) (Nat.le_of_ble_eq_true rfl) ?_
        refine ⟨rfl, rfl, rfl, ?_, rfl⟩
        rw [hno, if_neg (Nat.lt_irrefl _)]
      · omega
    | succ k ih =>
      intro i hi hb
      obtain ⟨x, hx⟩ := gl_ex (l := l) (i := i) (by omega)
      obtain ⟨v1, v2, v3⟩ := p2 i x hx
      have hxk := hok x (gl_mem hx)
      have hlt := okL_32 hxk.1
      have hlt2 := okT_32 hxk.2
      refine r_iload_n 2 dX1_placeOf_2 rfl rfl ?_
      refine r_aload_n 0 dX1_placeOf_3 rfl rfl ?_
      refine r_getV dX1_placeOf_4 fl_RX1_27 rfl (by assumption) (by first | assumption | exact up2_same _ _ _ _ | exact (Eq.trans (up2_ne _ _ (by omega)) (by first | assumption | exact up2_same _ _ _ _)) | exact (Eq.trans (up2_ne _ _ (by omega)) (Eq.trans (up2_ne _ _ (by omega)) (by first | assumption | exact up2_same _ _ _ _))) | exact (Eq.trans (up2_ne _ _ (by omega)) (Eq.trans (up2_ne _ _ (by omega)) (Eq.trans (up2_ne _ _ (by omega)) (by first | assumption | exact up2_same _ _ _ _)))) | exact (Eq.trans (up2_ne _ _ (by omega)) (Eq.trans (up2_ne _ _ (by omega)) (Eq.trans (up2_ne _ _ (by omega)) (Eq.trans (up2_ne _ _ (by omega)) (by first | assumption | exact up2_same _ _ _ _))))) | rfl) ?_
      refine r_icmpN_ge 44 dX1_placeOf_7 (by decide) (by omega) (by omega) (fun h7 => ?_) (fun h7 => ?_)
      · omega
      · refine r_aload_n 0 dX1_placeOf_10 rfl rfl ?_
        refine r_getR dX1_placeOf_11 fl_RX1_9 rfl (by assumption) (by assumption) ?_
        refine r_iload_n 2 dX1_placeOf_14 rfl rfl ?_
        refine r_ialdV dX1_placeOf_15 (by assumption) (by omega) (by omega) (by first | assumption | exact up2_same _ _ _ _ | exact (Eq.trans (up2_ne _ _ (by omega)) (by first | assumption | exact up2_same _ _ _ _)) | exact (Eq.trans (up2_ne _ _ (by omega)) (Eq.trans (up2_ne _ _ (by omega)) (by first | assumption | exact up2_same _ _ _ _))) | exact (Eq.trans (up2_ne _ _ (by omega)) (Eq.trans (up2_ne _ _ (by omega)) (Eq.trans (up2_ne _ _ (by omega)) (by first | assumption | exact up2_same _ _ _ _)))) | exact (Eq.trans (up2_ne _ _ (by omega)) (Eq.trans (up2_ne _ _ (by omega)) (Eq.trans (up2_ne _ _ (by omega)) (Eq.trans (up2_ne _ _ (by omega)) (by first | assumption | exact up2_same _ _ _ _))))) | rfl) ?_
        refine r_aload_n 1 dX1_placeOf_16 rfl rfl ?_
        refine r_getV dX1_placeOf_17 fl_RX1_31 rfl (by assumption) (by first | assumption | exact up2_same _ _ _ _ | exact (Eq.trans (up2_ne _ _ (by omega)) (by first | assumption | exact up2_same _ _ _ _)) | exact (Eq.trans (up2_ne _ _ (by omega)) (Eq.trans (up2_ne _ _ (by omega)) (by first | assumption | exact up2_same _ _ _ _))) | exact (Eq.trans (up2_ne _ _ (by omega)) (Eq.trans (up2_ne _ _ (by omega)) (Eq.trans (up2_ne _ _ (by omega)) (by first | assumption | exact up2_same _ _ _ _)))) | exact (Eq.trans (up2_ne _ _ (by omega)) (Eq.trans (up2_ne _ _ (by omega)) (Eq.trans (up2_ne _ _ (by omega)) (Eq.trans (up2_ne _ _ (by omega)) (by first | assumption | exact up2_same _ _ _ _))))) | rfl) ?_
        refine r_icmpN_ne 38 dX1_placeOf_20 (by decide) (by omega) (by omega) (fun h20 => ?_) (fun h20 => ?_)
        · refine r_iincN 2 (b := 1) (ls2 := [_, _, _]) dX1_placeOf_38 rfl (by decide) (by decide) rfl ?_
          refine r_goto 2 dX1_placeOf_41 (by decide) ?_
          refine ih (i + 1) (by omega) (fun j x' hj hx' => ?_)
          rcases Nat.lt_or_ge j i with q | q
          · exact hb j x' q hx'
          · rw [show j = i by omega, hx] at hx'
            cases hx'
            first | (have e : x.1 ≠ p.1 := fun e => h20 (by rw [e]); simp [e]; done) | (have e : x.2.1 ≠ p.2.1 := fun e => h33 (by rw [e]); simp [e])
        · refine r_aload_n 0 dX1_placeOf_23 rfl rfl ?_
          refine r_getR dX1_placeOf_24 fl_RX1_15 rfl (by assumption) (by assumption) ?_
          refine r_iload_n 2 dX1_placeOf_27 rfl rfl ?_
          refine r_ialdV dX1_placeOf_28 (by assumption) (by omega) (by omega) (by first | assumption | exact up2_same _ _ _ _ | exact (Eq.trans (up2_ne _ _ (by omega)) (by first | assumption | exact up2_same _ _ _ _)) | exact (Eq.trans (up2_ne _ _ (by omega)) (Eq.trans (up2_ne _ _ (by omega)) (by first | assumption | exact up2_same _ _ _ _))) | exact (Eq.trans (up2_ne _ _ (by omega)) (Eq.trans (up2_ne _ _ (by omega)) (Eq.trans (up2_ne _ _ (by omega)) (by first | assumption | exact up2_same _ _ _ _)))) | exact (Eq.trans (up2_ne _ _ (by omega)) (Eq.trans (up2_ne _ _ (by omega)) (Eq.trans (up2_ne _ _ (by omega)) (Eq.trans (up2_ne _ _ (by omega)) (by first | assumption | exact up2_same _ _ _ _))))) | rfl) ?_
          refine r_aload_n 1 dX1_placeOf_29 rfl rfl ?_
          refine r_getV dX1_placeOf_30 fl_RX1_36 rfl (by assumption) (by first | assumption | exact up2_same _ _ _ _ | exact (Eq.trans (up2_ne _ _ (by omega)) (by first | assumption | exact up2_same _ _ _ _)) | exact (Eq.trans (up2_ne _ _ (by omega)) (Eq.trans (up2_ne _ _ (by omega)) (by first | assumption | exact up2_same _ _ _ _))) | exact (Eq.trans (up2_ne _ _ (by omega)) (Eq.trans (up2_ne _ _ (by omega)) (Eq.trans (up2_ne _ _ (by omega)) (by first | assumption | exact up2_same _ _ _ _)))) | exact (Eq.trans (up2_ne _ _ (by omega)) (Eq.trans (up2_ne _ _ (by omega)) (Eq.trans (up2_ne _ _ (by omega)) (Eq.trans (up2_ne _ _ (by omega)) (by first | assumption | exact up2_same _ _ _ _))))) | rfl) ?_
          refine r_icmpN_ne 38 dX1_placeOf_33 (by decide) (by omega) (by omega) (fun h33 => ?_) (fun h33 => ?_)
          · refine r_iincN 2 (b := 1) (ls2 := [_, _, _]) dX1_placeOf_38 rfl (by decide) (by decide) rfl ?_
            refine r_goto 2 dX1_placeOf_41 (by decide) ?_
            refine ih (i + 1) (by omega) (fun j x' hj hx' => ?_)
            rcases Nat.lt_or_ge j i with q | q
            · exact hb j x' q hx'
            · rw [show j = i by omega, hx] at hx'
              cases hx'
              first | (have e : x.1 ≠ p.1 := fun e => h20 (by rw [e]); simp [e]; done) | (have e : x.2.1 ≠ p.2.1 := fun e => h33 (by rw [e]); simp [e])
          · refine r_iload_n 2 dX1_placeOf_36 rfl rfl ?_
            refine r_iret dX1_placeOf_37 rfl (Nat.le_of_ble_eq_true rfl) (Nat.le_of_ble_eq_true rfl) ?_
            have hu : knIx l p = i := fi_at hx (by simp [(okL_inj (b := 32) hxk.1 hp.1 (by omega)).mp h20, (okL_inj (b := 32) hxk.2 hp.2.1 (by omega)).mp h33]) hb
            refine ⟨rfl, rfl, rfl, ?_, rfl⟩
            rw [hu, if_pos (by omega)]
  refine Mv.of pnX1_placeOf (Nat.le_of_ble_eq_true rfl) rfl ?_
  refine r_iconst (v := nI 0) dX1_placeOf_0 (by decide) ?_
  refine r_istore_n 2 (ls2 := [_, _, _]) dX1_placeOf_1 rfl (by decide) (Nat.le_of_ble_eq_true rfl) rfl ?_
  exact H l.length 0 (by omega) (fun j w hj => by omega)
theorem Oth.at {mi m : MI} {lo hi x : Nat} (h : Oth mi m lo hi) (hx : x < lo ∨ hi ≤ x) : m x = mi x := h x hx
theorem Oth.trans {m1 m2 m3 : MI} {lo hi : Nat} (h : Oth m1 m2 lo hi) (h' : Oth m2 m3 lo hi) : Oth m1 m3 lo hi := fun x hx => (h' x hx).trans (h x hx)
theorem Oth.wide {m1 m2 : MI} {lo hi lo' hi' : Nat} (h : Oth m1 m2 lo hi) (h1 : lo' ≤ lo) (h2 : hi ≤ hi') : Oth m1 m2 lo' hi' := fun x hx => h x (by omega)
theorem Oth.rf {m : MI} {lo hi : Nat} : Oth m m lo hi := fun _ _ => rfl
theorem Oth.up {m1 m2 : MI} {lo hi a k : Nat} {v : Int32} (h : Oth m1 m2 lo hi) (h1 : lo ≤ a) (h2 : a < hi) : Oth m1 (up2 m2 a k v) lo hi := fun x hx => by rw [up2_row _ _ (by omega)]; exact h x hx
theorem c_knRem (hL : LKn sh mr a) {l : Kn} (hC : KnC mi a l) (hl : l.length ≤ 16) {k : Nat} (hk : k < l.length) : Mi mX1_removeAt 1 [.ref a, .int (nI k)] z sh mi mr (fun v mi' => v = none ∧ KnC mi' a (l.eraseIdx k) ∧ Oth mi mi' a (a + 4)) := by
  obtain ⟨l0, l1, l2, l3, l4, l5, l6⟩ := id hL
  obtain ⟨p1, p2⟩ := id hC
  have H : ∀ t j : Nat, ∀ m : MI, j + t = l.length → k < j → Oth mi m (a + 1) (a + 4) → (∀ r q, 1 ≤ r → r ≤ 3 → m (a + r) q = if k ≤ q ∧ q + 1 < j then mi (a + r) (q + 1) else mi (a + r) q) → Wp yX1_removeAt cX1_removeAt 3 none (EI 1 z sh mr (fun v mi' => v = none ∧ KnC mi' a (l.eraseIdx k) ∧ Oth mi mi' a (a + 4))) 0 0 17 [.ref a, .int (nI k), .int (nI j)] [] z sh m mr := by
    intro t
    induction t with
    | zero =>
      intro j m hj hkj ho hm
      have hsz : m a 3 = nI l.length := by rw [ho a (by omega)]; exact p1
      refine r_iload_n 2 dX1_removeAt_17 rfl rfl ?_
      refine r_aload_n 0 dX1_removeAt_18 rfl rfl ?_
      refine r_getV dX1_removeAt_19 fl_RX1_27 rfl (by assumption) (by first | assumption | exact up2_same _ _ _ _ | exact (Eq.trans (up2_ne _ _ (by omega)) (by first | assumption | exact up2_same _ _ _ _)) | exact (Eq.trans (up2_ne _ _ (by omega)) (Eq.trans (up2_ne _ _ (by omega)) (by first | assumption | exact up2_same _ _ _ _))) | exact (Eq.trans (up2_ne _ _ (by omega)) (Eq.trans (up2_ne _ _ (by omega)) (Eq.trans (up2_ne _ _ (by omega)) (by first | assumption | exact up2_same _ _ _ _)))) | exact (Eq.trans (up2_ne _ _ (by omega)) (Eq.trans (up2_ne _ _ (by omega)) (Eq.trans (up2_ne _ _ (by omega)) (Eq.trans (up2_ne _ _ (by omega)) (by first | assumption | exact up2_same _ _ _ _))))) | rfl) ?_
      refine r_icmpN_ge 39 dX1_removeAt_22 (by decide) (by omega) (by omega) (fun h22 => ?_) (fun h22 => ?_)
      · refine r_aload_n 0 dX1_removeAt_39 rfl rfl ?_
        refine r_dup dX1_removeAt_40 rfl ?_
        refine r_getV dX1_removeAt_41 fl_RX1_27 rfl (by assumption) (by first | assumption | exact up2_same _ _ _ _ | exact (Eq.trans (up2_ne _ _ (by omega)) (by first | assumption | exact up2_same _ _ _ _)) | exact (Eq.trans (up2_ne _ _ (by omega)) (Eq.trans (up2_ne _ _ (by omega)) (by first | assumption | exact up2_same _ _ _ _))) | exact (Eq.trans (up2_ne _ _ (by omega)) (Eq.trans (up2_ne _ _ (by omega)) (Eq.trans (up2_ne _ _ (by omega)) (by first | assumption | exact up2_same _ _ _ _)))) | exact (Eq.trans (up2_ne _ _ (by omega)) (Eq.trans (up2_ne _ _ (by omega)) (Eq.trans (up2_ne _ _ (by omega)) (Eq.trans (up2_ne _ _ (by omega)) (by first | assumption | exact up2_same _ _ _ _))))) | rfl) ?_
        refine r_iconst (v := nI 1) dX1_removeAt_44 (by decide) ?_
        refine r_isubN dX1_removeAt_45 (by omega) ?_
        refine r_putI dX1_removeAt_46 fl_RX1_27 rfl rfl rfl (by assumption) ?_
        refine r_vret dX1_removeAt_49 rfl (Nat.le_of_ble_eq_true rfl) (Nat.le_of_ble_eq_true rfl) ?_
        refine ⟨rfl, rfl, rfl, rfl, ⟨?_, fun i q hq => ?_⟩, (ho.wide (by omega) (by omega)).up (by omega) (by omega)⟩
        · rw [up2_same, List.length_eraseIdx_of_lt hk]
        · rw [List.getElem?_eraseIdx] at hq
          rw [up2_row _ _ (by omega), up2_row _ _ (by omega), up2_row _ _ (by omega), hm 1 i (by omega) (by omega), hm 2 i (by omega) (by omega), hm 3 i (by omega) (by omega)]
          by_cases hik : i < k
          · rw [if_pos hik] at hq
            rw [if_neg (by omega), if_neg (by omega), if_neg (by omega)]
            exact p2 i q hq
          · rw [if_neg hik] at hq
            have := gl_lt hq
            rw [if_pos (by omega), if_pos (by omega), if_pos (by omega)]
            exact p2 (i + 1) q hq
      · omega
    | succ t ih =>
      intro j m hj hkj ho hm
      have hsz : m a 3 = nI l.length := by rw [ho a (by omega)]; exact p1
      refine r_iload_n 2 dX1_removeAt_17 rfl rfl ?_
      refine r_aload_n 0 dX1_removeAt_18 rfl rfl ?_
      refine r_getV dX1_removeAt_19 fl_RX1_27 rfl (by assumption) (by first | assumption | exact up2_same _ _ _ _ | exact (Eq.trans (up2_ne _ _ (by omega)) (by first | assumption | exact up2_same _ _ _ _)) | exact (Eq.trans (up2_ne _ _ (by omega)) (Eq.trans (up2_ne _ _ (by omega)) (by first | assumption | exact up2_same _ _ _ _))) | exact (Eq.trans (up2_ne _ _ (by omega)) (Eq.trans (up2_ne _ _ (by omega)) (Eq.trans (up2_ne _ _ (by omega)) (by first | assumption | exact up2_same _ _ _ _)))) | exact (Eq.trans (up2_ne _ _ (by omega)) (Eq.trans (up2_ne _ _ (by omega)) (Eq.trans (up2_ne _ _ (by omega)) (Eq.trans (up2_ne _ _ (by omega)) (by first | assumption | exact up2_same _ _ _ _))))) | rfl) ?_
      refine r_icmpN_ge 39 dX1_removeAt_22 (by decide) (by omega) (by omega) (fun h22 => ?_) (fun h22 => ?_)
      · omega
      · refine r_aload_n 0 dX1_removeAt_25 rfl rfl ?_
        refine r_iload_n 2 dX1_removeAt_26 rfl rfl ?_
        refine r_iload_n 2 dX1_removeAt_27 rfl rfl ?_
        refine r_iconst (v := nI 1) dX1_removeAt_28 (by decide) ?_
        refine r_isubN dX1_removeAt_29 (by omega) ?_
        refine r_callVw [_, _] dX1_removeAt_30 ok_RX1_43 ivX1_move (by assumption) ⟨_, _, rfl⟩ rfl rfl (Nat.le_of_ble_eq_true rfl) (by refine ⟨?_, ?_, ?_, ?_⟩ <;> exact Nat.le_of_ble_eq_true rfl) (c_move hL (by omega) (by omega)) ?_
        intro m2 ⟨ho2, hm2⟩
        refine r_iincN 2 (b := 1) (ls2 := [_, _, _]) dX1_removeAt_33 rfl (by decide) (by decide) rfl ?_
        refine r_goto 17 dX1_removeAt_36 (by decide) ?_
        refine ih (j + 1) m2 (by omega) (by omega) (ho.trans ho2) (fun r q r1 r3 => ?_)
        rw [hm2 r q r1 r3]
        by_cases hq : q = j - 1
        · rw [if_pos hq, hm r j r1 r3, if_neg (by omega), if_pos (by omega), show q + 1 = j by omega]
        · rw [if_neg hq, hm r q r1 r3]
          by_cases h1 : k ≤ q ∧ q + 1 < j
          · rw [if_pos h1, if_pos (by omega)]
          · rw [if_neg h1, if_neg (by omega)]
  refine Mv.of pnX1_removeAt (Nat.le_of_ble_eq_true rfl) rfl ?_
  refine r_iload_n 1 dX1_removeAt_0 rfl rfl ?_
  refine r_ifN_lt 12 dX1_removeAt_1 (by decide) (by omega) ?_
  refine r_iload_n 1 dX1_removeAt_4 rfl rfl ?_
  refine r_aload_n 0 dX1_removeAt_5 rfl rfl ?_
  refine r_getV dX1_removeAt_6 fl_RX1_27 rfl (by assumption) (by first | assumption | exact up2_same _ _ _ _ | exact (Eq.trans (up2_ne _ _ (by omega)) (by first | assumption | exact up2_same _ _ _ _)) | exact (Eq.trans (up2_ne _ _ (by omega)) (Eq.trans (up2_ne _ _ (by omega)) (by first | assumption | exact up2_same _ _ _ _))) | exact (Eq.trans (up2_ne _ _ (by omega)) (Eq.trans (up2_ne _ _ (by omega)) (Eq.trans (up2_ne _ _ (by omega)) (by first | assumption | exact up2_same _ _ _ _)))) | exact (Eq.trans (up2_ne _ _ (by omega)) (Eq.trans (up2_ne _ _ (by omega)) (Eq.trans (up2_ne _ _ (by omega)) (Eq.trans (up2_ne _ _ (by omega)) (by first | assumption | exact up2_same _ _ _ _))))) | rfl) ?_
  refine r_icmpN_lt 13 dX1_removeAt_9 (by decide) (by omega) (by omega) (fun h9 => ?_) (fun h9 => ?_)
  · refine r_iload_n 1 dX1_removeAt_13 rfl rfl ?_
    refine r_iconst (v := nI 1) dX1_removeAt_14 (by decide) ?_
    refine r_iaddN dX1_removeAt_15 ?_
    refine r_istore_n 2 (ls2 := [_, _, _]) dX1_removeAt_16 rfl (by decide) (Nat.le_of_ble_eq_true rfl) rfl ?_
    exact H (l.length - (k + 1)) (k + 1) mi (by omega) (by omega) Oth.rf (fun r q _ _ => by rw [if_neg (by omega)])
  · omega
theorem c_knRemN (hL : LKn sh mr a) : Mi mX1_removeAt 1 [.ref a, .int (-6)] z sh mi mr (fun v mi' => v = none ∧ mi' = mi) := by
  obtain ⟨l0, l1, l2, l3, l4, l5, l6⟩ := id hL
  refine Mv.of pnX1_removeAt (Nat.le_of_ble_eq_true rfl) rfl ?_
  refine r_iload_n 1 dX1_removeAt_0 rfl rfl ?_
  refine r_if_lt 12 dX1_removeAt_1 (by decide) (fun h1 => ?_) (fun h1 => ?_)
  · refine r_vret dX1_removeAt_12 rfl (Nat.le_of_ble_eq_true rfl) (Nat.le_of_ble_eq_true rfl) ?_
    exact ⟨rfl, rfl, rfl, rfl, rfl⟩
  · exact absurd (by decide) h1
theorem c_dropOld (hL : LKn sh mr a) {l : Kn} (hC : KnC mi a l) (hl : l.length ≤ 16) {now w : Nat} (hnow : now < 2 ^ 30) (hw : w ≤ 60) (ht : ∀ q ∈ l, q.2.2 ≤ now) : Mi mX1_dropOld 1 [.ref a, .int (nI now), .int (nI w)] z sh mi mr (fun v mi' => v = none ∧ KnC mi' a (knOld l now w) ∧ Oth mi mi' a (a + 4)) := by
  obtain ⟨l0, l1, l2, l3, l4, l5, l6⟩ := id hL
  obtain ⟨p1, p2⟩ := id hC
  have H : ∀ t i c : Nat, ∀ m : MI, i + t = l.length → c = (knOld (l.take i) now w).length → Oth mi m (a + 1) (a + 4) → (∀ j q, (knOld (l.take i) now w)[j]? = some q → KnE m a j q) → (∀ r q, 1 ≤ r → r ≤ 3 → i ≤ q → m (a + r) q = mi (a + r) q) → Wp yX1_dropOld cX1_dropOld 5 none (EI 1 z sh mr (fun v mi' => v = none ∧ KnC mi' a (knOld l now w) ∧ Oth mi mi' a (a + 4))) 0 0 5 [.ref a, .int (nI now), .int (nI w), .int (nI c), .int (nI i)] [] z sh m mr := by
    intro t
    induction t with
    | zero =>
      intro i c m hi hc ho hf hm
      have hsz : m a 3 = nI l.length := by rw [ho a (by omega)]; exact p1
      rw [List.take_of_length_le (by omega)] at hc hf
      refine r_iload 4 dX1_dropOld_5 rfl ?_
      refine r_aload_n 0 dX1_dropOld_7 rfl rfl ?_
      refine r_getV dX1_dropOld_8 fl_RX1_27 rfl (by assumption) (by first | assumption | exact up2_same _ _ _ _ | exact (Eq.trans (up2_ne _ _ (by omega)) (by first | assumption | exact up2_same _ _ _ _)) | exact (Eq.trans (up2_ne _ _ (by omega)) (Eq.trans (up2_ne _ _ (by omega)) (by first | assumption | exact up2_same _ _ _ _))) | exact (Eq.trans (up2_ne _ _ (by omega)) (Eq.trans (up2_ne _ _ (by omega)) (Eq.trans (up2_ne _ _ (by omega)) (by first | assumption | exact up2_same _ _ _ _)))) | exact (Eq.trans (up2_ne _ _ (by omega)) (Eq.trans (up2_ne _ _ (by omega)) (Eq.trans (up2_ne _ _ (by omega)) (Eq.trans (up2_ne _ _ (by omega)) (by first | assumption | exact up2_same _ _ _ _))))) | rfl) ?_
      refine r_icmpN_ge 43 dX1_dropOld_11 (by decide) (by omega) (by omega) (fun h11 => ?_) (fun h11 => ?_)
      · refine r_aload_n 0 dX1_dropOld_43 rfl rfl ?_
        refine r_iload_n 3 dX1_dropOld_44 rfl rfl ?_
        refine r_putI dX1_dropOld_45 fl_RX1_27 rfl rfl rfl (by assumption) ?_
        refine r_vret dX1_dropOld_48 rfl (Nat.le_of_ble_eq_true rfl) (Nat.le_of_ble_eq_true rfl) ?_
        refine ⟨rfl, rfl, rfl, rfl, ⟨?_, fun i q hq => ?_⟩, (ho.wide (by omega) (by omega)).up (by omega) (by omega)⟩
        · rw [up2_same, hc]
        · rw [up2_row _ _ (by omega), up2_row _ _ (by omega), up2_row _ _ (by omega)]
          exact hf i q hq
      · omega
    | succ t ih =>
      intro i c m hi hc ho hf hm
      have hsz : m a 3 = nI l.length := by rw [ho a (by omega)]; exact p1
      obtain ⟨x, hx⟩ := gl_ex (l := l) (i := i) (by omega)
      obtain ⟨v1, v2, v3⟩ := p2 i x hx
      have hv : m (a + 3) i = nI x.2.2 := by rw [hm 3 i (by omega) (by omega) (by omega)]; exact v3
      have hxt := ht x (gl_mem hx)
      have hci : c ≤ i := by
        rw [hc]; unfold knOld
        exact Nat.le_trans (List.length_filter_le _ _) (by simp; omega)
      have htk : knOld (l.take (i + 1)) now w = knOld (l.take i) now w ++ (if now - x.2.2 ≤ w then [x] else []) := by
        unfold knOld
        rw [List.take_succ, hx, List.filter_append]
        simp only [Option.toList_some, List.filter_cons, List.filter_nil, decide_eq_true_eq]
      have KA : w < now - x.2.2 → Wp yX1_dropOld cX1_dropOld 5 none (EI 1 z sh mr (fun v mi' => v = none ∧ KnC mi' a (knOld l now w) ∧ Oth mi mi' a (a + 4))) 0 0 37 [.ref a, .int (nI now), .int (nI w), .int (nI c), .int (nI i)] [] z sh m mr := by
        intro h24
        refine r_iincN 4 (b := 1) (ls2 := [_, _, _, _, _]) dX1_dropOld_37 rfl (by decide) (by decide) rfl ?_
        refine r_goto 5 dX1_dropOld_40 (by decide) ?_
        refine ih (i + 1) c m (by omega) ?_ ho ?_ (fun r q r1 r3 hq => hm r q r1 r3 (by omega))
        · rw [htk, if_neg (by omega), List.append_nil]; exact hc
        · rw [htk, if_neg (by omega), List.append_nil]; exact hf
      have KB : now - x.2.2 ≤ w → ∀ m2 : MI, Oth m m2 (a + 1) (a + 4) → (∀ r q, 1 ≤ r → r ≤ 3 → m2 (a + r) q = if q = c then m (a + r) i else m (a + r) q) → Wp yX1_dropOld cX1_dropOld 5 none (EI 1 z sh mr (fun v mi' => v = none ∧ KnC mi' a (knOld l now w) ∧ Oth mi mi' a (a + 4))) 0 0 37 [.ref a, .int (nI now), .int (nI w), .int (nI (c + 1)), .int (nI i)] [] z sh m2 mr := by
        intro h24 m2 ho2 hm2
        refine r_iincN 4 (b := 1) (ls2 := [_, _, _, _, _]) dX1_dropOld_37 rfl (by decide) (by decide) rfl ?_
        refine r_goto 5 dX1_dropOld_40 (by decide) ?_
        refine ih (i + 1) (c + 1) m2 (by omega) ?_ (ho.trans ho2) (fun j q hq => ?_) (fun r q r1 r3 hq => ?_)
        · rw [htk, if_pos (by omega), List.length_append, ← hc]; rfl
        · rw [htk, if_pos (by omega)] at hq
          unfold KnE
          rw [hm2 1 j (by omega) (by omega), hm2 2 j (by omega) (by omega), hm2 3 j (by omega) (by omega)]
          by_cases hj : j = c
          · rw [if_pos hj, if_pos hj, if_pos hj, hm 1 i (by omega) (by omega) (by omega), hm 2 i (by omega) (by omega) (by omega), hm 3 i (by omega) (by omega) (by omega)]
            rw [List.getElem?_append_right (by omega), ← hc, hj, Nat.sub_self] at hq
            cases hq
            exact ⟨v1, v2, v3⟩
          · rw [if_neg hj, if_neg hj, if_neg hj]
            have hjl := gl_lt hq
            rw [List.length_append, ← hc] at hjl
            simp at hjl
            rw [List.getElem?_append_left (by omega)] at hq
            exact hf j q hq
        · rw [hm2 r q r1 r3, if_neg (by omega)]
          exact hm r q r1 r3 (by omega)
      refine r_iload 4 dX1_dropOld_5 rfl ?_
      refine r_aload_n 0 dX1_dropOld_7 rfl rfl ?_
      refine r_getV dX1_dropOld_8 fl_RX1_27 rfl (by assumption) (by first | assumption | exact up2_same _ _ _ _ | exact (Eq.trans (up2_ne _ _ (by omega)) (by first | assumption | exact up2_same _ _ _ _)) | exact (Eq.trans (up2_ne _ _ (by omega)) (Eq.trans (up2_ne _ _ (by omega)) (by first | assumption | exact up2_same _ _ _ _))) | exact (Eq.trans (up2_ne _ _ (by omega)) (Eq.trans (up2_ne _ _ (by omega)) (Eq.trans (up2_ne _ _ (by omega)) (by first | assumption | exact up2_same _ _ _ _)))) | exact (Eq.trans (up2_ne _ _ (by omega)) (Eq.trans (up2_ne _ _ (by omega)) (Eq.trans (up2_ne _ _ (by omega)) (Eq.trans (up2_ne _ _ (by omega)) (by first | assumption | exact up2_same _ _ _ _))))) | rfl) ?_
      refine r_icmpN_ge 43 dX1_dropOld_11 (by decide) (by omega) (by omega) (fun h11 => ?_) (fun h11 => ?_)
      · omega
      · refine r_iload_n 1 dX1_dropOld_14 rfl rfl ?_
        refine r_aload_n 0 dX1_dropOld_15 rfl rfl ?_
        refine r_getR dX1_dropOld_16 fl_RX1_18 rfl (by assumption) (by assumption) ?_
        refine r_iload 4 dX1_dropOld_19 rfl ?_
        refine r_ialdV dX1_dropOld_21 (by assumption) (by omega) (by omega) (by first | assumption | exact up2_same _ _ _ _ | exact (Eq.trans (up2_ne _ _ (by omega)) (by first | assumption | exact up2_same _ _ _ _)) | exact (Eq.trans (up2_ne _ _ (by omega)) (Eq.trans (up2_ne _ _ (by omega)) (by first | assumption | exact up2_same _ _ _ _))) | exact (Eq.trans (up2_ne _ _ (by omega)) (Eq.trans (up2_ne _ _ (by omega)) (Eq.trans (up2_ne _ _ (by omega)) (by first | assumption | exact up2_same _ _ _ _)))) | exact (Eq.trans (up2_ne _ _ (by omega)) (Eq.trans (up2_ne _ _ (by omega)) (Eq.trans (up2_ne _ _ (by omega)) (Eq.trans (up2_ne _ _ (by omega)) (by first | assumption | exact up2_same _ _ _ _))))) | rfl) ?_
        refine r_isubN dX1_dropOld_22 (by omega) ?_
        refine r_iload_n 2 dX1_dropOld_23 rfl rfl ?_
        refine r_icmpN_gt 37 dX1_dropOld_24 (by decide) (by omega) (by omega) (fun h24 => ?_) (fun h24 => ?_)
        · first | exact KA h24 | exact KB h24 m2 ho2 hm2
        · refine r_aload_n 0 dX1_dropOld_27 rfl rfl ?_
          refine r_iload 4 dX1_dropOld_28 rfl ?_
          refine r_iload_n 3 dX1_dropOld_30 rfl rfl ?_
          refine r_callVw [_, _] dX1_dropOld_31 ok_RX1_43 ivX1_move (by assumption) ⟨_, _, rfl⟩ rfl rfl (Nat.le_of_ble_eq_true rfl) (by refine ⟨?_, ?_, ?_, ?_⟩ <;> exact Nat.le_of_ble_eq_true rfl) (c_move hL (by omega) (by omega)) ?_
          intro m2 ⟨ho2, hm2⟩
          refine r_iincN 3 (b := 1) (ls2 := [_, _, _, _, _]) dX1_dropOld_34 rfl (by decide) (by decide) rfl ?_
          first | exact KA h24 | exact KB h24 m2 ho2 hm2
  refine Mv.of pnX1_dropOld (Nat.le_of_ble_eq_true rfl) rfl ?_
  refine r_iconst (v := nI 0) dX1_dropOld_0 (by decide) ?_
  refine r_istore_n 3 (ls2 := [_, _, _, _]) dX1_dropOld_1 rfl (by decide) (Nat.le_of_ble_eq_true rfl) rfl ?_
  refine r_iconst (v := nI 0) dX1_dropOld_2 (by decide) ?_
  refine r_istore 4 (ls2 := [_, _, _, _, _]) dX1_dropOld_3 (by decide) (Nat.le_of_ble_eq_true rfl) rfl ?_
  exact H l.length 0 0 mi (by omega) (by simp [knOld]) Oth.rf (fun j q hq => by simp [knOld] at hq) (fun _ _ _ _ _ => rfl)
theorem c_knAdd {b : Nat} (hL : LKn sh mr a) (hB : LPk sh mr b) {l : Kn} (hC : KnC mi a l) (hl : l.length ≤ 16) {p : Pk} (hP : PkC mi b p) {now : Nat} : Mi mX1_add 2 [.ref a, .ref b, .int (nI now)] z sh mi mr (fun v mi' => v = none ∧ KnC mi' a (knAdd l p now) ∧ Oth mi mi' a (a + 4)) := by
  obtain ⟨l0, l1, l2, l3, l4, l5, l6⟩ := id hL
  obtain ⟨k0, k1, k2⟩ := id hB
  obtain ⟨p1, p2⟩ := id hC
  obtain ⟨q1, q2, q3, q4⟩ := id hP
  have n0 : b ≠ a := fun e => by rw [e, l0] at k0; cases k0
  have n1 : b ≠ a + 1 := fun e => by rw [e, l2] at k0; cases k0
  have n2 : b ≠ a + 2 := fun e => by rw [e, l4] at k0; cases k0
  have n3 : b ≠ a + 3 := fun e => by rw [e, l6] at k0; cases k0
  have H : ∀ (m : MI) (l' : Kn), Oth mi m a (a + 4) → KnC m a l' → l'.length < 16 → knAdd l p now = l' ++ [(p.1, p.2.1, now)] → Wp yX1_add cX1_add 3 none (EI 2 z sh mr (fun v mi' => v = none ∧ KnC mi' a (knAdd l p now) ∧ Oth mi mi' a (a + 4))) 0 0 14 [.ref a, .ref b, .int (nI now)] [] z sh m mr := by
    intro m l' ho hC' hl' he
    obtain ⟨r1, r2⟩ := id hC'
    have s2 : m b 2 = nI (en 32 p.1) := by rw [ho b (by omega)]; exact q2
    have s3 : m b 3 = nI (en 32 p.2.1) := by rw [ho b (by omega)]; exact q3
    refine r_aload_n 0 dX1_add_14 rfl rfl ?_
    refine r_getR dX1_add_15 fl_RX1_9 rfl (by assumption) (by assumption) ?_
    refine r_aload_n 0 dX1_add_18 rfl rfl ?_
    refine r_getV dX1_add_19 fl_RX1_27 rfl (by assumption) (by first | assumption | exact up2_same _ _ _ _ | exact (Eq.trans (up2_ne _ _ (by omega)) (by first | assumption | exact up2_same _ _ _ _)) | exact (Eq.trans (up2_ne _ _ (by omega)) (Eq.trans (up2_ne _ _ (by omega)) (by first | assumption | exact up2_same _ _ _ _))) | exact (Eq.trans (up2_ne _ _ (by omega)) (Eq.trans (up2_ne _ _ (by omega)) (Eq.trans (up2_ne _ _ (by omega)) (by first | assumption | exact up2_same _ _ _ _)))) | exact (Eq.trans (up2_ne _ _ (by omega)) (Eq.trans (up2_ne _ _ (by omega)) (Eq.trans (up2_ne _ _ (by omega)) (Eq.trans (up2_ne _ _ (by omega)) (by first | assumption | exact up2_same _ _ _ _))))) | rfl) ?_
    refine r_aload_n 1 dX1_add_22 rfl rfl ?_
    refine r_getV dX1_add_23 fl_RX1_31 rfl (by assumption) (by first | assumption | exact up2_same _ _ _ _ | exact (Eq.trans (up2_ne _ _ (by omega)) (by first | assumption | exact up2_same _ _ _ _)) | exact (Eq.trans (up2_ne _ _ (by omega)) (Eq.trans (up2_ne _ _ (by omega)) (by first | assumption | exact up2_same _ _ _ _))) | exact (Eq.trans (up2_ne _ _ (by omega)) (Eq.trans (up2_ne _ _ (by omega)) (Eq.trans (up2_ne _ _ (by omega)) (by first | assumption | exact up2_same _ _ _ _)))) | exact (Eq.trans (up2_ne _ _ (by omega)) (Eq.trans (up2_ne _ _ (by omega)) (Eq.trans (up2_ne _ _ (by omega)) (Eq.trans (up2_ne _ _ (by omega)) (by first | assumption | exact up2_same _ _ _ _))))) | rfl) ?_
    refine r_iast dX1_add_26 (by assumption) (by omega) (by omega) ?_
    refine r_aload_n 0 dX1_add_27 rfl rfl ?_
    refine r_getR dX1_add_28 fl_RX1_15 rfl (by assumption) (by assumption) ?_
    refine r_aload_n 0 dX1_add_31 rfl rfl ?_
    refine r_getV dX1_add_32 fl_RX1_27 rfl (by assumption) (by first | assumption | exact up2_same _ _ _ _ | exact (Eq.trans (up2_ne _ _ (by omega)) (by first | assumption | exact up2_same _ _ _ _)) | exact (Eq.trans (up2_ne _ _ (by omega)) (Eq.trans (up2_ne _ _ (by omega)) (by first | assumption | exact up2_same _ _ _ _))) | exact (Eq.trans (up2_ne _ _ (by omega)) (Eq.trans (up2_ne _ _ (by omega)) (Eq.trans (up2_ne _ _ (by omega)) (by first | assumption | exact up2_same _ _ _ _)))) | exact (Eq.trans (up2_ne _ _ (by omega)) (Eq.trans (up2_ne _ _ (by omega)) (Eq.trans (up2_ne _ _ (by omega)) (Eq.trans (up2_ne _ _ (by omega)) (by first | assumption | exact up2_same _ _ _ _))))) | rfl) ?_
    refine r_aload_n 1 dX1_add_35 rfl rfl ?_
    refine r_getV dX1_add_36 fl_RX1_36 rfl (by assumption) (by first | assumption | exact up2_same _ _ _ _ | exact (Eq.trans (up2_ne _ _ (by omega)) (by first | assumption | exact up2_same _ _ _ _)) | exact (Eq.trans (up2_ne _ _ (by omega)) (Eq.trans (up2_ne _ _ (by omega)) (by first | assumption | exact up2_same _ _ _ _))) | exact (Eq.trans (up2_ne _ _ (by omega)) (Eq.trans (up2_ne _ _ (by omega)) (Eq.trans (up2_ne _ _ (by omega)) (by first | assumption | exact up2_same _ _ _ _)))) | exact (Eq.trans (up2_ne _ _ (by omega)) (Eq.trans (up2_ne _ _ (by omega)) (Eq.trans (up2_ne _ _ (by omega)) (Eq.trans (up2_ne _ _ (by omega)) (by first | assumption | exact up2_same _ _ _ _))))) | rfl) ?_
    refine r_iast dX1_add_39 (by assumption) (by omega) (by omega) ?_
    refine r_aload_n 0 dX1_add_40 rfl rfl ?_
    refine r_getR dX1_add_41 fl_RX1_18 rfl (by assumption) (by assumption) ?_
    refine r_aload_n 0 dX1_add_44 rfl rfl ?_
    refine r_getV dX1_add_45 fl_RX1_27 rfl (by assumption) (by first | assumption | exact up2_same _ _ _ _ | exact (Eq.trans (up2_ne _ _ (by omega)) (by first | assumption | exact up2_same _ _ _ _)) | exact (Eq.trans (up2_ne _ _ (by omega)) (Eq.trans (up2_ne _ _ (by omega)) (by first | assumption | exact up2_same _ _ _ _))) | exact (Eq.trans (up2_ne _ _ (by omega)) (Eq.trans (up2_ne _ _ (by omega)) (Eq.trans (up2_ne _ _ (by omega)) (by first | assumption | exact up2_same _ _ _ _)))) | exact (Eq.trans (up2_ne _ _ (by omega)) (Eq.trans (up2_ne _ _ (by omega)) (Eq.trans (up2_ne _ _ (by omega)) (Eq.trans (up2_ne _ _ (by omega)) (by first | assumption | exact up2_same _ _ _ _))))) | rfl) ?_
    refine r_iload_n 2 dX1_add_48 rfl rfl ?_
    refine r_iast dX1_add_49 (by assumption) (by omega) (by omega) ?_
    refine r_aload_n 0 dX1_add_50 rfl rfl ?_
    refine r_dup dX1_add_51 rfl ?_
    refine r_getV dX1_add_52 fl_RX1_27 rfl (by assumption) (by first | assumption | exact up2_same _ _ _ _ | exact (Eq.trans (up2_ne _ _ (by omega)) (by first | assumption | exact up2_same _ _ _ _)) | exact (Eq.trans (up2_ne _ _ (by omega)) (Eq.trans (up2_ne _ _ (by omega)) (by first | assumption | exact up2_same _ _ _ _))) | exact (Eq.trans (up2_ne _ _ (by omega)) (Eq.trans (up2_ne _ _ (by omega)) (Eq.trans (up2_ne _ _ (by omega)) (by first | assumption | exact up2_same _ _ _ _)))) | exact (Eq.trans (up2_ne _ _ (by omega)) (Eq.trans (up2_ne _ _ (by omega)) (Eq.trans (up2_ne _ _ (by omega)) (Eq.trans (up2_ne _ _ (by omega)) (by first | assumption | exact up2_same _ _ _ _))))) | rfl) ?_
    refine r_iconst (v := nI 1) dX1_add_55 (by decide) ?_
    refine r_iaddN dX1_add_56 ?_
    refine r_putI dX1_add_57 fl_RX1_27 rfl rfl rfl (by assumption) ?_
    refine r_vret dX1_add_60 rfl (Nat.le_of_ble_eq_true rfl) (Nat.le_of_ble_eq_true rfl) ?_
    refine ⟨rfl, rfl, rfl, rfl, ?_, ((((ho.up (by omega) (by omega)).up (by omega) (by omega)).up (by omega) (by omega)).up (by omega) (by omega))⟩
    rw [he]
    refine ⟨?_, fun i q hq => ?_⟩
    · rw [up2_same, List.length_append]; rfl
    · by_cases hi : i = l'.length
      · subst hi
        rw [List.getElem?_append_right (Nat.le_refl _), Nat.sub_self] at hq
        cases hq
        refine ⟨?_, ?_, ?_⟩ <;> simp [up2]
      · have hil := gl_lt hq
        rw [List.length_append] at hil
        simp at hil
        rw [List.getElem?_append_left (by omega)] at hq
        have := r2 i q hq
        simpa [up2, hi] using this
  refine Mv.of pnX1_add (Nat.le_of_ble_eq_true rfl) rfl ?_
  refine r_aload_n 0 dX1_add_0 rfl rfl ?_
  refine r_getV dX1_add_1 fl_RX1_27 rfl (by assumption) (by first | assumption | exact up2_same _ _ _ _ | exact (Eq.trans (up2_ne _ _ (by omega)) (by first | assumption | exact up2_same _ _ _ _)) | exact (Eq.trans (up2_ne _ _ (by omega)) (Eq.trans (up2_ne _ _ (by omega)) (by first | assumption | exact up2_same _ _ _ _))) | exact (Eq.trans (up2_ne _ _ (by omega)) (Eq.trans (up2_ne _ _ (by omega)) (Eq.trans (up2_ne _ _ (by omega)) (by first | assumption | exact up2_same _ _ _ _)))) | exact (Eq.trans (up2_ne _ _ (by omega)) (Eq.trans (up2_ne _ _ (by omega)) (Eq.trans (up2_ne _ _ (by omega)) (Eq.trans (up2_ne _ _ (by omega)) (by first | assumption | exact up2_same _ _ _ _))))) | rfl) ?_
  refine r_bipush (v := nI 16) dX1_add_4 (by decide) ?_
  refine r_icmpN_lt 14 dX1_add_6 (by decide) (by omega) (by omega) (fun h6 => ?_) (fun h6 => ?_)
  · first | exact H mi l Oth.rf hC (by omega) (by unfold knAdd; rw [if_neg (by omega)]) | exact H m (l.eraseIdx 0) ho hC' (by rw [List.length_eraseIdx_of_lt (by omega)]; omega) (by unfold knAdd; rw [if_pos (by omega)])
  · refine r_aload_n 0 dX1_add_9 rfl rfl ?_
    refine r_iconst (v := nI 0) dX1_add_10 (by decide) ?_
    refine r_callVw [_] dX1_add_11 ok_RX1_39 ivX1_removeAt (by assumption) ⟨_, _, rfl⟩ rfl rfl (Nat.le_of_ble_eq_true rfl) (by refine ⟨?_, ?_, ?_, ?_⟩ <;> exact Nat.le_of_ble_eq_true rfl) (c_knRem hL hC hl (by omega)) ?_
    intro m ⟨hC', ho⟩
    first | exact H mi l Oth.rf hC (by omega) (by unfold knAdd; rw [if_neg (by omega)]) | exact H m (l.eraseIdx 0) ho hC' (by rw [List.length_eraseIdx_of_lt (by omega)]; omega) (by unfold knAdd; rw [if_pos (by omega)])
end KNOWN
