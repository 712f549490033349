/-- the reference's layout: its object at o, its ten rows behind it -/
def LM (sh : SH) (mr : MR) (o : Nat) : Prop := sh o = (10, 0) ∧ (mr o 0 = some (o + 1) ∧ sh (o + 1) = (11, 1387)) ∧ (mr o 1 = some (o + 2) ∧ sh (o + 2) = (11, 4161)) ∧ (mr o 2 = some (o + 3) ∧ sh (o + 3) = (12, 2)) ∧ (mr o 3 = some (o + 4) ∧ sh (o + 4) = (11, 40)) ∧ (mr o 5 = some (o + 5) ∧ sh (o + 5) = (11, 11)) ∧ (mr o 8 = some (o + 6) ∧ sh (o + 6) = (11, 66)) ∧ (mr o 9 = some (o + 7) ∧ sh (o + 7) = (12, 6)) ∧ (mr o 10 = some (o + 8) ∧ sh (o + 8) = (11, 6)) ∧ (mr o 11 = some (o + 9) ∧ sh (o + 9) = (11, 6)) ∧ (mr o 12 = some (o + 10) ∧ sh (o + 10) = (11, 80))
section REF1
variable {z : Nat} {sh : SH} {mi : MI} {mr : MR}
def inB (v lo hi : Int32) : Bool := !decide (v < lo) && !decide (hi < v)
theorem c_in (v lo hi : Int32) : Mp mX10_in 0 [.int v, .int lo, .int hi] z sh mi mr (b2 (inB v lo hi)) := by
  refine Mv.of pnX10_in (Nat.le_of_ble_eq_true rfl) rfl ?_
  refine r_iload_n 0 dX10_in_0 rfl rfl ?_
  refine r_iload_n 1 dX10_in_1 rfl rfl ?_
  refine r_icmp_lt 14 dX10_in_2 (by decide) (fun h2 => ?_) (fun h2 => ?_)
  · refine r_iconst (v := nI 0) dX10_in_14 (by decide) ?_
    refine r_zret dX10_in_15 rfl (by first | exact b2_nar _ | decide) (Nat.le_of_ble_eq_true rfl) (Nat.le_of_ble_eq_true rfl) ?_
    refine ⟨rfl, rfl, rfl, ?_, rfl⟩
    simp only [inB]; simp only [h2, decide_true, decide_false]; try simp only [h7, decide_true, decide_false]
    rfl
  · refine r_iload_n 0 dX10_in_5 rfl rfl ?_
    refine r_iload_n 2 dX10_in_6 rfl rfl ?_
    refine r_icmp_gt 14 dX10_in_7 (by decide) (fun h7 => ?_) (fun h7 => ?_)
    · refine r_iconst (v := nI 0) dX10_in_14 (by decide) ?_
      refine r_zret dX10_in_15 rfl (by first | exact b2_nar _ | decide) (Nat.le_of_ble_eq_true rfl) (Nat.le_of_ble_eq_true rfl) ?_
      refine ⟨rfl, rfl, rfl, ?_, rfl⟩
      simp only [inB]; simp only [h2, decide_true, decide_false]; try simp only [h7, decide_true, decide_false]
      rfl
    · refine r_iconst (v := nI 1) dX10_in_10 (by decide) ?_
      refine r_goto 15 dX10_in_11 (by decide) ?_
      refine r_zret dX10_in_15 rfl (by first | exact b2_nar _ | decide) (Nat.le_of_ble_eq_true rfl) (Nat.le_of_ble_eq_true rfl) ?_
      refine ⟨rfl, rfl, rfl, ?_, rfl⟩
      simp only [inB]; simp only [h2, decide_true, decide_false]; try simp only [h7, decide_true, decide_false]
      rfl
def stB (s : Int32) : Bool := inB s (nI 0) (nI 5)
theorem c_isStation (s : Int32) : Mp mX10_isStation 1 [.int s] z sh mi mr (b2 (stB s)) := by
  refine Mv.of pnX10_isStation (Nat.le_of_ble_eq_true rfl) rfl ?_
  refine r_iload_n 0 dX10_isStation_0 rfl rfl ?_
  refine r_iconst (v := nI 0) dX10_isStation_1 (by decide) ?_
  refine r_iconst (v := nI 5) dX10_isStation_2 (by decide) ?_
  refine r_callSp [_, _, _] dX10_isStation_3 ok_RX10_41 isX10_in rfl rfl (Nat.le_of_ble_eq_true rfl) (by refine ⟨?_, ?_, ?_, ?_⟩ <;> exact Nat.le_of_ble_eq_true rfl) (c_in _ _ _) ?_
  refine r_zret dX10_isStation_6 rfl (by first | exact b2_nar _ | decide) (Nat.le_of_ble_eq_true rfl) (Nat.le_of_ble_eq_true rfl) ?_
  exact ⟨rfl, rfl, rfl, rfl, rfl⟩
theorem c_isAt {o : Nat} (hL : LM sh mr o) {sign : Int32} {a n : Nat} (ha : mi o 6 = nI a) (hn : mi o 4 = nI n) (hn40 : n ≤ 40) (ha40 : a ≤ 40) : Mp mX10_isAt 0 [.ref o, .int sign] z sh mi mr (b2 (decide (a < n) && decide (mi (o + 4) a = sign))) := by
  obtain ⟨l0, ⟨l1, l2⟩, ⟨l3, l4⟩, ⟨l5, l6⟩, ⟨l7, l8⟩, ⟨l9, l10⟩, ⟨l11, l12⟩, ⟨l13, l14⟩, ⟨l15, l16⟩, ⟨l17, l18⟩, ⟨l19, l20⟩⟩ := hL
  refine Mv.of pnX10_isAt (Nat.le_of_ble_eq_true rfl) rfl ?_
  refine r_aload_n 0 dX10_isAt_0 rfl rfl ?_
  refine r_getV dX10_isAt_1 fl_RX10_49 rfl (by assumption) (by first | assumption | exact up2_same _ _ _ _ | exact (Eq.trans (up2_ne _ _ (by omega)) (by first | assumption | exact up2_same _ _ _ _)) | exact (Eq.trans (up2_ne _ _ (by omega)) (Eq.trans (up2_ne _ _ (by omega)) (by first | assumption | exact up2_same _ _ _ _))) | exact (Eq.trans (up2_ne _ _ (by omega)) (Eq.trans (up2_ne _ _ (by omega)) (Eq.trans (up2_ne _ _ (by omega)) (by first | assumption | exact up2_same _ _ _ _)))) | exact (Eq.trans (up2_ne _ _ (by omega)) (Eq.trans (up2_ne _ _ (by omega)) (Eq.trans (up2_ne _ _ (by omega)) (Eq.trans (up2_ne _ _ (by omega)) (by first | assumption | exact up2_same _ _ _ _))))) | rfl) ?_
  refine r_aload_n 0 dX10_isAt_4 rfl rfl ?_
  refine r_getV dX10_isAt_5 fl_RX10_45 rfl (by assumption) (by first | assumption | exact up2_same _ _ _ _ | exact (Eq.trans (up2_ne _ _ (by omega)) (by first | assumption | exact up2_same _ _ _ _)) | exact (Eq.trans (up2_ne _ _ (by omega)) (Eq.trans (up2_ne _ _ (by omega)) (by first | assumption | exact up2_same _ _ _ _))) | exact (Eq.trans (up2_ne _ _ (by omega)) (Eq.trans (up2_ne _ _ (by omega)) (Eq.trans (up2_ne _ _ (by omega)) (by first | assumption | exact up2_same _ _ _ _)))) | exact (Eq.trans (up2_ne _ _ (by omega)) (Eq.trans (up2_ne _ _ (by omega)) (Eq.trans (up2_ne _ _ (by omega)) (Eq.trans (up2_ne _ _ (by omega)) (by first | assumption | exact up2_same _ _ _ _))))) | rfl) ?_
  refine r_icmpN_ge 28 dX10_isAt_8 (by decide) (by omega) (by omega) (fun h8 => ?_) (fun h8 => ?_)
  · refine r_iconst (v := nI 0) dX10_isAt_28 (by decide) ?_
    refine r_zret dX10_isAt_29 rfl (by first | exact b2_nar _ | decide) (Nat.le_of_ble_eq_true rfl) (Nat.le_of_ble_eq_true rfl) ?_
    refine ⟨rfl, rfl, rfl, ?_, rfl⟩
    first | rw [show decide (a < n) = false by simp; omega]; rfl | (rw [show decide (a < n) = true by simp; omega, show decide (mi (o + 4) a = sign) = true by simpa using h21]; rfl) | (rw [show decide (mi (o + 4) a = sign) = false by simpa using h21, Bool.and_false]; rfl)
  · refine r_aload_n 0 dX10_isAt_11 rfl rfl ?_
    refine r_getR dX10_isAt_12 fl_RX10_20 rfl (by assumption) (by assumption) ?_
    refine r_aload_n 0 dX10_isAt_15 rfl rfl ?_
    refine r_getV dX10_isAt_16 fl_RX10_49 rfl (by assumption) (by first | assumption | exact up2_same _ _ _ _ | exact (Eq.trans (up2_ne _ _ (by omega)) (by first | assumption | exact up2_same _ _ _ _)) | exact (Eq.trans (up2_ne _ _ (by omega)) (Eq.trans (up2_ne _ _ (by omega)) (by first | assumption | exact up2_same _ _ _ _))) | exact (Eq.trans (up2_ne _ _ (by omega)) (Eq.trans (up2_ne _ _ (by omega)) (Eq.trans (up2_ne _ _ (by omega)) (by first | assumption | exact up2_same _ _ _ _)))) | exact (Eq.trans (up2_ne _ _ (by omega)) (Eq.trans (up2_ne _ _ (by omega)) (Eq.trans (up2_ne _ _ (by omega)) (Eq.trans (up2_ne _ _ (by omega)) (by first | assumption | exact up2_same _ _ _ _))))) | rfl) ?_
    refine r_ialdV dX10_isAt_19 (by assumption) (by omega) (by omega) (by first | assumption | exact up2_same _ _ _ _ | exact (Eq.trans (up2_ne _ _ (by omega)) (by first | assumption | exact up2_same _ _ _ _)) | exact (Eq.trans (up2_ne _ _ (by omega)) (Eq.trans (up2_ne _ _ (by omega)) (by first | assumption | exact up2_same _ _ _ _))) | exact (Eq.trans (up2_ne _ _ (by omega)) (Eq.trans (up2_ne _ _ (by omega)) (Eq.trans (up2_ne _ _ (by omega)) (by first | assumption | exact up2_same _ _ _ _)))) | exact (Eq.trans (up2_ne _ _ (by omega)) (Eq.trans (up2_ne _ _ (by omega)) (Eq.trans (up2_ne _ _ (by omega)) (Eq.trans (up2_ne _ _ (by omega)) (by first | assumption | exact up2_same _ _ _ _))))) | rfl) ?_
    refine r_iload_n 1 dX10_isAt_20 rfl rfl ?_
    refine r_icmp_ne 28 dX10_isAt_21 (by decide) (fun h21 => ?_) (fun h21 => ?_)
    · refine r_iconst (v := nI 0) dX10_isAt_28 (by decide) ?_
      refine r_zret dX10_isAt_29 rfl (by first | exact b2_nar _ | decide) (Nat.le_of_ble_eq_true rfl) (Nat.le_of_ble_eq_true rfl) ?_
      refine ⟨rfl, rfl, rfl, ?_, rfl⟩
      first | rw [show decide (a < n) = false by simp; omega]; rfl | (rw [show decide (a < n) = true by simp; omega, show decide (mi (o + 4) a = sign) = true by simpa using h21]; rfl) | (rw [show decide (mi (o + 4) a = sign) = false by simpa using h21, Bool.and_false]; rfl)
    · refine r_iconst (v := nI 1) dX10_isAt_24 (by decide) ?_
      refine r_goto 29 dX10_isAt_25 (by decide) ?_
      refine r_zret dX10_isAt_29 rfl (by first | exact b2_nar _ | decide) (Nat.le_of_ble_eq_true rfl) (Nat.le_of_ble_eq_true rfl) ?_
      refine ⟨rfl, rfl, rfl, ?_, rfl⟩
      first | rw [show decide (a < n) = false by simp; omega]; rfl | (rw [show decide (a < n) = true by simp; omega, show decide (mi (o + 4) a = sign) = true by simpa using h21]; rfl) | (rw [show decide (mi (o + 4) a = sign) = false by simpa using h21, Bool.and_false]; rfl)
end REF1
