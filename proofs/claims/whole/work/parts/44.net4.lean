theorem st_6 (x : Int32) : (nI 6 ≤ x) ↔ (nI 5 < x) := by
  rw [Int32.le_iff_toInt_le, Int32.lt_iff_toInt_lt, nI_toInt (by omega), nI_toInt (by omega)]
  omega
theorem st_ex {x : Int32} (h : stB x = true) : ∃ k, k < 6 ∧ x = nI k := by
  unfold stB inB at h
  simp only [Bool.and_eq_true, Bool.not_eq_true', decide_eq_false_iff_not] at h
  obtain ⟨j, hj, e⟩ := nI_of h.1
  refine ⟨j, ?_, e⟩
  rw [e] at h
  have h2 : ¬ 5 < j := fun q => h.2 ((nI_ltI (by omega) hj).mpr q)
  omega
theorem st_no {k : Nat} (h : k < 6) : stB (nI k) = true := by
  rcases lt6 h with rfl | rfl | rfl | rfl | rfl | rfl <;> decide
section NET4
variable {z : Nat} {sh : SH} {mi : MI} {mr : MR} {a : Nat}
theorem c_isSt (x : Int32) : Mp mX9_isStation 0 [.int x] z sh mi mr (b2 (stB x)) := by
  refine Mv.of pnX9_isStation (Nat.le_of_ble_eq_true rfl) rfl ?_
  refine r_iload_n 0 dX9_isStation_0 rfl rfl ?_
  refine r_if_lt 14 dX9_isStation_1 (by decide) (fun h1 => ?_) (fun h1 => ?_)
  · refine r_iconst (v := nI 0) dX9_isStation_14 (by decide) ?_
    refine r_zret dX9_isStation_15 rfl (by first | exact b2_nar _ | decide) (Nat.le_of_ble_eq_true rfl) (Nat.le_of_ble_eq_true rfl) ?_
    refine ⟨rfl, rfl, rfl, ?_, rfl⟩
    simp only [stB, inB]
    simp only [nI_zero] at *
    first | (simp only [h1, decide_true]; rfl) | (rw [st_6] at h7; simp only [h1, h7, decide_true, decide_false]; rfl)
  · refine r_iload_n 0 dX9_isStation_4 rfl rfl ?_
    refine r_bipush (v := nI 6) dX9_isStation_5 (by decide) ?_
    refine r_icmp_ge 14 dX9_isStation_7 (by decide) (fun h7 => ?_) (fun h7 => ?_)
    · refine r_iconst (v := nI 0) dX9_isStation_14 (by decide) ?_
      refine r_zret dX9_isStation_15 rfl (by first | exact b2_nar _ | decide) (Nat.le_of_ble_eq_true rfl) (Nat.le_of_ble_eq_true rfl) ?_
      refine ⟨rfl, rfl, rfl, ?_, rfl⟩
      simp only [stB, inB]
      simp only [nI_zero] at *
      first | (simp only [h1, decide_true]; rfl) | (rw [st_6] at h7; simp only [h1, h7, decide_true, decide_false]; rfl)
    · refine r_iconst (v := nI 1) dX9_isStation_10 (by decide) ?_
      refine r_goto 15 dX9_isStation_11 (by decide) ?_
      refine r_zret dX9_isStation_15 rfl (by first | exact b2_nar _ | decide) (Nat.le_of_ble_eq_true rfl) (Nat.le_of_ble_eq_true rfl) ?_
      refine ⟨rfl, rfl, rfl, ?_, rfl⟩
      simp only [stB, inB]
      simp only [nI_zero] at *
      first | (simp only [h1, decide_true]; rfl) | (rw [st_6] at h7; simp only [h1, h7, decide_true, decide_false]; rfl)
theorem c_join (hL : LNt sh mr a) {n : Nt} (hN : NtC mi mr a n) {i j : Nat} (hi : i < 6) (hj : j < 6) (hij : i ≠ j) (v : Bool) : Mi mX3_join 1 [.ref a, .int (nI i), .int (nI j), .int (b2 v)] z sh mi mr (fun r m => r = none ∧ m = up2 (up2 mi (a + 2) i (nI (bs (upB (n.2.1 i) j v)))) (a + 2) j (nI (bs (upB (n.2.1 j) i v)))) := by
  obtain ⟨l0, l1, l2, l3, l4, l5⟩ := id hL
  have ni := (hN.2 i hi).1
  have nj := (hN.2 j hj).1
  have hli := bs_lt (n.2.1 i)
  have hlj := bs_lt (n.2.1 j)
  have p1 : 1 * 2 ^ i < 2 ^ 32 := by have := Nat.pow_lt_pow_right (a := 2) (by omega) (show i < 32 by omega); omega
  have p2 : 1 * 2 ^ j < 2 ^ 32 := by have := Nat.pow_lt_pow_right (a := 2) (by omega) (show j < 32 by omega); omega
  refine Mv.of pnX3_join (Nat.le_of_ble_eq_true rfl) rfl ?_
  refine r_iload_n 1 dX3_join_0 rfl rfl ?_
  refine r_callSNp [_] dX3_join_1 ok_RX3_35 isX9_isStation rfl rfl (Nat.le_of_ble_eq_true rfl) (by refine ⟨?_, ?_, ?_, ?_⟩ <;> exact Nat.le_of_ble_eq_true rfl) (c_isSt _) ?_
  rw [st_no hi]
  refine r_ifB_eq 14 dX3_join_4 (by decide) (fun h4 => ?_) (fun h4 => ?_)
  · first | exact absurd h4 (by decide) | exact absurd h11 (by decide)
  · refine r_iload_n 2 dX3_join_7 rfl rfl ?_
    refine r_callSNp [_] dX3_join_8 ok_RX3_35 isX9_isStation rfl rfl (Nat.le_of_ble_eq_true rfl) (by refine ⟨?_, ?_, ?_, ?_⟩ <;> exact Nat.le_of_ble_eq_true rfl) (c_isSt _) ?_
    rw [st_no hj]
    refine r_ifB_ne 15 dX3_join_11 (by decide) (fun h11 => ?_) (fun h11 => ?_)
    · refine r_iload_n 3 dX3_join_15 rfl rfl ?_
      refine r_ifB_eq 46 dX3_join_16 (by decide) (fun h16 => ?_) (fun h16 => ?_)
      · refine r_aload_n 0 dX3_join_46 rfl rfl ?_
        refine r_getR dX3_join_47 fl_RX3_17 rfl (by assumption) (by assumption) ?_
        refine r_iload_n 1 dX3_join_50 rfl rfl ?_
        refine r_dup2 dX3_join_51 rfl rfl ?_
        refine r_ialdV dX3_join_52 (by assumption) (by omega) (by omega) (by first | assumption | exact up2_same _ _ _ _ | exact (Eq.trans (up2_ne _ _ (by omega)) (by first | assumption | exact up2_same _ _ _ _)) | exact (Eq.trans (up2_ne _ _ (by omega)) (Eq.trans (up2_ne _ _ (by omega)) (by first | assumption | exact up2_same _ _ _ _))) | exact (Eq.trans (up2_ne _ _ (by omega)) (Eq.trans (up2_ne _ _ (by omega)) (Eq.trans (up2_ne _ _ (by omega)) (by first | assumption | exact up2_same _ _ _ _)))) | exact (Eq.trans (up2_ne _ _ (by omega)) (Eq.trans (up2_ne _ _ (by omega)) (Eq.trans (up2_ne _ _ (by omega)) (Eq.trans (up2_ne _ _ (by omega)) (by first | assumption | exact up2_same _ _ _ _))))) | rfl) ?_
        refine r_iconst (v := nI 1) dX3_join_53 (by decide) ?_
        refine r_iload_n 2 dX3_join_54 rfl rfl ?_
        refine r_ishlN dX3_join_55 (by omega) (by omega) ?_
        refine r_iconst (v := -1) dX3_join_56 (by decide) ?_
        refine r_ixor dX3_join_57 ?_
        refine r_iand dX3_join_58 ?_
        refine r_top (bs_clr _ hj) ?_
        refine r_iast dX3_join_59 (by assumption) (by omega) (by omega) ?_
        refine r_aload_n 0 dX3_join_60 rfl rfl ?_
        refine r_getR dX3_join_61 fl_RX3_17 rfl (by assumption) (by assumption) ?_
        refine r_iload_n 2 dX3_join_64 rfl rfl ?_
        refine r_dup2 dX3_join_65 rfl rfl ?_
        refine r_ialdV dX3_join_66 (by assumption) (by omega) (by omega) (by first | assumption | exact up2_same _ _ _ _ | exact (Eq.trans (up2_ne _ _ (by omega)) (by first | assumption | exact up2_same _ _ _ _)) | exact (Eq.trans (up2_ne _ _ (by omega)) (Eq.trans (up2_ne _ _ (by omega)) (by first | assumption | exact up2_same _ _ _ _))) | exact (Eq.trans (up2_ne _ _ (by omega)) (Eq.trans (up2_ne _ _ (by omega)) (Eq.trans (up2_ne _ _ (by omega)) (by first | assumption | exact up2_same _ _ _ _)))) | exact (Eq.trans (up2_ne _ _ (by omega)) (Eq.trans (up2_ne _ _ (by omega)) (Eq.trans (up2_ne _ _ (by omega)) (Eq.trans (up2_ne _ _ (by omega)) (by first | assumption | exact up2_same _ _ _ _))))) | rfl) ?_
        refine r_iconst (v := nI 1) dX3_join_67 (by decide) ?_
        refine r_iload_n 1 dX3_join_68 rfl rfl ?_
        refine r_ishlN dX3_join_69 (by omega) (by omega) ?_
        refine r_iconst (v := -1) dX3_join_70 (by decide) ?_
        refine r_ixor dX3_join_71 ?_
        refine r_iand dX3_join_72 ?_
        refine r_top (bs_clr _ hi) ?_
        refine r_iast dX3_join_73 (by assumption) (by omega) (by omega) ?_
        refine r_vret dX3_join_74 rfl (Nat.le_of_ble_eq_true rfl) (Nat.le_of_ble_eq_true rfl) ?_
        exact ⟨rfl, rfl, rfl, rfl, by rw [h16]⟩
      · refine r_aload_n 0 dX3_join_19 rfl rfl ?_
        refine r_getR dX3_join_20 fl_RX3_17 rfl (by assumption) (by assumption) ?_
        refine r_iload_n 1 dX3_join_23 rfl rfl ?_
        refine r_dup2 dX3_join_24 rfl rfl ?_
        refine r_ialdV dX3_join_25 (by assumption) (by omega) (by omega) (by first | assumption | exact up2_same _ _ _ _ | exact (Eq.trans (up2_ne _ _ (by omega)) (by first | assumption | exact up2_same _ _ _ _)) | exact (Eq.trans (up2_ne _ _ (by omega)) (Eq.trans (up2_ne _ _ (by omega)) (by first | assumption | exact up2_same _ _ _ _))) | exact (Eq.trans (up2_ne _ _ (by omega)) (Eq.trans (up2_ne _ _ (by omega)) (Eq.trans (up2_ne _ _ (by omega)) (by first | assumption | exact up2_same _ _ _ _)))) | exact (Eq.trans (up2_ne _ _ (by omega)) (Eq.trans (up2_ne _ _ (by omega)) (Eq.trans (up2_ne _ _ (by omega)) (Eq.trans (up2_ne _ _ (by omega)) (by first | assumption | exact up2_same _ _ _ _))))) | rfl) ?_
        refine r_iconst (v := nI 1) dX3_join_26 (by decide) ?_
        refine r_iload_n 2 dX3_join_27 rfl rfl ?_
        refine r_ishlN dX3_join_28 (by omega) (by omega) ?_
        refine r_iorN dX3_join_29 ?_
        rw [bs_or _ hj]
        refine r_iast dX3_join_30 (by assumption) (by omega) (by omega) ?_
        refine r_aload_n 0 dX3_join_31 rfl rfl ?_
        refine r_getR dX3_join_32 fl_RX3_17 rfl (by assumption) (by assumption) ?_
        refine r_iload_n 2 dX3_join_35 rfl rfl ?_
        refine r_dup2 dX3_join_36 rfl rfl ?_
        refine r_ialdV dX3_join_37 (by assumption) (by omega) (by omega) (by first | assumption | exact up2_same _ _ _ _ | exact (Eq.trans (up2_ne _ _ (by omega)) (by first | assumption | exact up2_same _ _ _ _)) | exact (Eq.trans (up2_ne _ _ (by omega)) (Eq.trans (up2_ne _ _ (by omega)) (by first | assumption | exact up2_same _ _ _ _))) | exact (Eq.trans (up2_ne _ _ (by omega)) (Eq.trans (up2_ne _ _ (by omega)) (Eq.trans (up2_ne _ _ (by omega)) (by first | assumption | exact up2_same _ _ _ _)))) | exact (Eq.trans (up2_ne _ _ (by omega)) (Eq.trans (up2_ne _ _ (by omega)) (Eq.trans (up2_ne _ _ (by omega)) (Eq.trans (up2_ne _ _ (by omega)) (by first | assumption | exact up2_same _ _ _ _))))) | rfl) ?_
        refine r_iconst (v := nI 1) dX3_join_38 (by decide) ?_
        refine r_iload_n 1 dX3_join_39 rfl rfl ?_
        refine r_ishlN dX3_join_40 (by omega) (by omega) ?_
        refine r_iorN dX3_join_41 ?_
        rw [bs_or _ hi]
        refine r_iast dX3_join_42 (by assumption) (by omega) (by omega) ?_
        refine r_goto 74 dX3_join_43 (by decide) ?_
        refine r_vret dX3_join_74 rfl (Nat.le_of_ble_eq_true rfl) (Nat.le_of_ble_eq_true rfl) ?_
        exact ⟨rfl, rfl, rfl, rfl, by rw [h16]⟩
    · first | exact absurd h4 (by decide) | exact absurd h11 (by decide)
theorem c_isolate (hL : LNt sh mr a) {n : Nt} (hN : NtC mi mr a n) {w : Nat} (hw : w < 6) : Mi mX3_isolate 0 [.ref a, .int (nI w)] z sh mi mr (fun r m => r = none ∧ (∀ x, x ≠ a + 2 → m x = mi x) ∧ ∀ s, s < 6 → m (a + 2) s = nI (bs (fun q => n.2.1 s q && decide (some s ≠ some w) && decide (some q ≠ some w)))) := by
  obtain ⟨l0, l1, l2, l3, l4, l5⟩ := id hL
  have p1 : 1 * 2 ^ w < 2 ^ 32 := by have := Nat.pow_lt_pow_right (a := 2) (by omega) (show w < 32 by omega); omega
  have H : ∀ (k i : Nat) (m : MI), i + k = 6 → (∀ x, x ≠ a + 2 → m x = mi x) → (∀ s, s < i → m (a + 2) s = nI (bs (fun q => n.2.1 s q && decide (some s ≠ some w) && decide (some q ≠ some w)))) → (∀ s, i ≤ s → m (a + 2) s = mi (a + 2) s) → Wp yX3_isolate cX3_isolate 3 none (EI 0 z sh mr (fun r m => r = none ∧ (∀ x, x ≠ a + 2 → m x = mi x) ∧ ∀ s, s < 6 → m (a + 2) s = nI (bs (fun q => n.2.1 s q && decide (some s ≠ some w) && decide (some q ≠ some w))))) 0 0 2 [.ref a, .int (nI w), .int (nI i)] [] z sh m mr := by
    intro k
    induction k with
    | zero =>
      intro i m hi ho hm hr
      refine r_iload_n 2 dX3_isolate_2 rfl rfl ?_
      refine r_bipush (v := nI 6) dX3_isolate_3 (by decide) ?_
      refine r_icmpN_ge 43 dX3_isolate_5 (by decide) (by omega) (by omega) (fun h5 => ?_) (fun h5 => ?_)
      · refine r_vret dX3_isolate_43 rfl (Nat.le_of_ble_eq_true rfl) (Nat.le_of_ble_eq_true rfl) ?_
        exact ⟨rfl, rfl, rfl, rfl, ho, fun s hs => hm s (by omega)⟩
      · omega
    | succ k ih =>
      intro i m hi ho hm hr
      have ni : m (a + 2) i = nI (bs (n.2.1 i)) := by rw [hr i (by omega)]; exact (hN.2 i (by omega)).1
      have step : ∀ x : Int32, x = nI (bs (fun q => n.2.1 i q && decide (some i ≠ some w) && decide (some q ≠ some w))) → Wp yX3_isolate cX3_isolate 3 none (EI 0 z sh mr (fun r m => r = none ∧ (∀ x, x ≠ a + 2 → m x = mi x) ∧ ∀ s, s < 6 → m (a + 2) s = nI (bs (fun q => n.2.1 s q && decide (some s ≠ some w) && decide (some q ≠ some w))))) 0 0 2 [.ref a, .int (nI w), .int (nI (i + 1))] [] z sh (up2 m (a + 2) i x) mr := by
        intro x hx
        refine ih (i + 1) _ (by omega) (fun y hy => by rw [up2_row _ _ hy]; exact ho y hy) (fun s hs => ?_) (fun s hs => by rw [up2_ne _ _ (Or.inr (by omega))]; exact hr s (by omega))
        by_cases e : s = i
        · subst e; rw [up2_same]; exact hx
        · rw [up2_ne _ _ (Or.inr e)]; exact hm s (by omega)
      refine r_iload_n 2 dX3_isolate_2 rfl rfl ?_
      refine r_bipush (v := nI 6) dX3_isolate_3 (by decide) ?_
      refine r_icmpN_ge 43 dX3_isolate_5 (by decide) (by omega) (by omega) (fun h5 => ?_) (fun h5 => ?_)
      · omega
      · refine r_iload_n 2 dX3_isolate_8 rfl rfl ?_
        refine r_iload_n 1 dX3_isolate_9 rfl rfl ?_
        refine r_icmpN_ne 23 dX3_isolate_10 (by decide) (by omega) (by omega) (fun h10 => ?_) (fun h10 => ?_)
        · refine r_aload_n 0 dX3_isolate_23 rfl rfl ?_
          refine r_getR dX3_isolate_24 fl_RX3_17 rfl (by assumption) (by assumption) ?_
          refine r_iload_n 2 dX3_isolate_27 rfl rfl ?_
          refine r_dup2 dX3_isolate_28 rfl rfl ?_
          refine r_ialdV dX3_isolate_29 (by assumption) (by omega) (by omega) (by first | assumption | exact up2_same _ _ _ _ | exact (Eq.trans (up2_ne _ _ (by omega)) (by first | assumption | exact up2_same _ _ _ _)) | exact (Eq.trans (up2_ne _ _ (by omega)) (Eq.trans (up2_ne _ _ (by omega)) (by first | assumption | exact up2_same _ _ _ _))) | exact (Eq.trans (up2_ne _ _ (by omega)) (Eq.trans (up2_ne _ _ (by omega)) (Eq.trans (up2_ne _ _ (by omega)) (by first | assumption | exact up2_same _ _ _ _)))) | exact (Eq.trans (up2_ne _ _ (by omega)) (Eq.trans (up2_ne _ _ (by omega)) (Eq.trans (up2_ne _ _ (by omega)) (Eq.trans (up2_ne _ _ (by omega)) (by first | assumption | exact up2_same _ _ _ _))))) | rfl) ?_
          refine r_iconst (v := nI 1) dX3_isolate_30 (by decide) ?_
          refine r_iload_n 1 dX3_isolate_31 rfl rfl ?_
          refine r_ishlN dX3_isolate_32 (by omega) (by omega) ?_
          refine r_iconst (v := -1) dX3_isolate_33 (by decide) ?_
          refine r_ixor dX3_isolate_34 ?_
          refine r_iand dX3_isolate_35 ?_
          refine r_top (bs_clr _ hw) ?_
          refine r_iast dX3_isolate_36 (by assumption) (by omega) (by omega) ?_
          refine r_iincN 2 (b := 1) (ls2 := [_, _, _]) dX3_isolate_37 rfl (by decide) (by decide) rfl ?_
          refine r_goto 2 dX3_isolate_40 (by decide) ?_
          first | exact step _ (by subst h10; rw [bs_eq (g := fun _ => false) (fun q _ => by simp)]; rfl) | exact step _ (congrArg nI (bs_eq (fun q hq => by unfold upB; by_cases e : q = w; (subst e; simp); (simp [e, h10]))))
        · refine r_aload_n 0 dX3_isolate_13 rfl rfl ?_
          refine r_getR dX3_isolate_14 fl_RX3_17 rfl (by assumption) (by assumption) ?_
          refine r_iload_n 2 dX3_isolate_17 rfl rfl ?_
          refine r_iconst (v := nI 0) dX3_isolate_18 (by decide) ?_
          refine r_iast dX3_isolate_19 (by assumption) (by omega) (by omega) ?_
          refine r_goto 37 dX3_isolate_20 (by decide) ?_
          refine r_iincN 2 (b := 1) (ls2 := [_, _, _]) dX3_isolate_37 rfl (by decide) (by decide) rfl ?_
          refine r_goto 2 dX3_isolate_40 (by decide) ?_
          first | exact step _ (by subst h10; rw [bs_eq (g := fun _ => false) (fun q _ => by simp)]; rfl) | exact step _ (congrArg nI (bs_eq (fun q hq => by unfold upB; by_cases e : q = w; (subst e; simp); (simp [e, h10]))))
  refine Mv.of pnX3_isolate (Nat.le_of_ble_eq_true rfl) rfl ?_
  refine r_iconst (v := nI 0) dX3_isolate_0 (by decide) ?_
  refine r_istore_n 2 (ls2 := [_, _, _]) dX3_isolate_1 rfl (by decide) (Nat.le_of_ble_eq_true rfl) rfl ?_
  exact H 6 0 mi rfl (fun _ _ => rfl) (fun s hs => by omega) (fun _ _ => rfl)
theorem c_ntCopy {b : Nat} (hL : LNt sh mr a) (hB : LNt sh mr b) (hab : b + 261 ≤ a ∨ a + 261 ≤ b) {n : Nt} (hN : NtC mi mr b n) (hok : ∀ s, s < 6 → okSt (n.1 s) n.2.2) (hR : ∀ s, s < 6 → KpR mr (a + 3 + 43 * s + 6)) : Mi mX3_copyFrom 4 [.ref a, .ref b] z sh mi mr (fun v m => v = none ∧ NtC m mr a n ∧ Oth mi m a (a + 261)) := by
  obtain ⟨l0, l1, l2, l3, l4, l5⟩ := id hL
  obtain ⟨k0, k1, k2, k3, k4, k5⟩ := id hB
  have hln : ∀ s, s < 6 → (n.1 s).2.2.1.length ≤ 12 := fun s hs => (hok s hs).2.2.1.1
  have H : ∀ (k i : Nat) (m : MI), i + k = 6 → Oth mi m a (a + 261) → (∀ s, s < i → m (a + 2) s = nI (bs (n.2.1 s)) ∧ StC m mr (a + 3 + 43 * s) (n.1 s)) → Wp yX3_copyFrom cX3_copyFrom 3 none (EI 4 z sh mr (fun v m => v = none ∧ NtC m mr a n ∧ Oth mi m a (a + 261))) 0 0 2 [.ref a, .ref b, .int (nI i)] [] z sh m mr := by
    intro k
    induction k with
    | zero =>
      intro i m hi ho hm
      have hb2 : m b 2 = nI n.2.2 := by rw [ho b (by omega)]; exact hN.1
      refine r_iload_n 2 dX3_copyFrom_2 rfl rfl ?_
      refine r_bipush (v := nI 6) dX3_copyFrom_3 (by decide) ?_
      refine r_icmpN_ge 41 dX3_copyFrom_5 (by decide) (by omega) (by omega) (fun h5 => ?_) (fun h5 => ?_)
      · refine r_aload_n 0 dX3_copyFrom_41 rfl rfl ?_
        refine r_aload_n 1 dX3_copyFrom_42 rfl rfl ?_
        refine r_getV dX3_copyFrom_43 fl_RX3_28 rfl (by assumption) (by first | assumption | exact up2_same _ _ _ _ | exact (Eq.trans (up2_ne _ _ (by omega)) (by first | assumption | exact up2_same _ _ _ _)) | exact (Eq.trans (up2_ne _ _ (by omega)) (Eq.trans (up2_ne _ _ (by omega)) (by first | assumption | exact up2_same _ _ _ _))) | exact (Eq.trans (up2_ne _ _ (by omega)) (Eq.trans (up2_ne _ _ (by omega)) (Eq.trans (up2_ne _ _ (by omega)) (by first | assumption | exact up2_same _ _ _ _)))) | exact (Eq.trans (up2_ne _ _ (by omega)) (Eq.trans (up2_ne _ _ (by omega)) (Eq.trans (up2_ne _ _ (by omega)) (Eq.trans (up2_ne _ _ (by omega)) (by first | assumption | exact up2_same _ _ _ _))))) | rfl) ?_
        refine r_putI dX3_copyFrom_46 fl_RX3_28 rfl rfl rfl (by assumption) ?_
        refine r_vret dX3_copyFrom_49 rfl (Nat.le_of_ble_eq_true rfl) (Nat.le_of_ble_eq_true rfl) ?_
        refine ⟨rfl, rfl, rfl, rfl, ⟨up2_same _ _ _ _, fun s hs => ⟨?_, ?_⟩⟩, ho.up (by omega) (by omega)⟩
        · rw [up2_row _ _ (by omega)]; exact (hm s (by omega)).1
        · exact (hm s (by omega)).2.keep (hln s hs) (fun y y1 y2 => up2_row _ _ (by omega))
      · omega
    | succ k ih =>
      intro i m hi ho hm
      obtain ⟨q1, q2⟩ := l5 i (by omega)
      obtain ⟨w1, w2⟩ := k5 i (by omega)
      have q0 := q2.1
      obtain ⟨n1, n2⟩ := hN.2 i (by omega)
      have n2m := n2.keep (m' := m) (hln i (by omega)) (fun y y1 y2 => ho y (by omega))
      refine r_iload_n 2 dX3_copyFrom_2 rfl rfl ?_
      refine r_bipush (v := nI 6) dX3_copyFrom_3 (by decide) ?_
      refine r_icmpN_ge 41 dX3_copyFrom_5 (by decide) (by omega) (by omega) (fun h5 => ?_) (fun h5 => ?_)
      · omega
      · refine r_aload_n 0 dX3_copyFrom_8 rfl rfl ?_
        refine r_getR dX3_copyFrom_9 fl_RX3_11 rfl (by assumption) (by assumption) ?_
        refine r_iload_n 2 dX3_copyFrom_12 rfl rfl ?_
        refine r_aald dX3_copyFrom_13 (by assumption) (by decide) (by intro _; rfl) (by omega) (by omega) (by assumption) ?_
        refine r_aload_n 1 dX3_copyFrom_14 rfl rfl ?_
        refine r_getR dX3_copyFrom_15 fl_RX3_11 rfl (by assumption) (by assumption) ?_
        refine r_iload_n 2 dX3_copyFrom_18 rfl rfl ?_
        refine r_aald dX3_copyFrom_19 (by assumption) (by decide) (by intro _; rfl) (by omega) (by omega) (by assumption) ?_
        refine r_callVw [_] dX3_copyFrom_20 ok_RX3_24 ivX6_copyFrom (by assumption) ⟨_, _, rfl⟩ rfl rfl (Nat.le_of_ble_eq_true rfl) (by refine ⟨?_, ?_, ?_, ?_⟩ <;> exact Nat.le_of_ble_eq_true rfl) (c_stCopy q2 w2 (by omega) n2m (hok i (by omega)) (hR i (by omega))) ?_
        intro m2 ⟨g1, g2⟩
        have nb : m2 (b + 2) i = nI (bs (n.2.1 i)) := by rw [g2 (b + 2) (by omega), ho (b + 2) (by omega)]; exact n1
        refine r_aload_n 0 dX3_copyFrom_23 rfl rfl ?_
        refine r_getR dX3_copyFrom_24 fl_RX3_17 rfl (by assumption) (by assumption) ?_
        refine r_iload_n 2 dX3_copyFrom_27 rfl rfl ?_
        refine r_aload_n 1 dX3_copyFrom_28 rfl rfl ?_
        refine r_getR dX3_copyFrom_29 fl_RX3_17 rfl (by assumption) (by assumption) ?_
        refine r_iload_n 2 dX3_copyFrom_32 rfl rfl ?_
        refine r_ialdV dX3_copyFrom_33 (by assumption) (by omega) (by omega) (by first | assumption | exact up2_same _ _ _ _ | exact (Eq.trans (up2_ne _ _ (by omega)) (by first | assumption | exact up2_same _ _ _ _)) | exact (Eq.trans (up2_ne _ _ (by omega)) (Eq.trans (up2_ne _ _ (by omega)) (by first | assumption | exact up2_same _ _ _ _))) | exact (Eq.trans (up2_ne _ _ (by omega)) (Eq.trans (up2_ne _ _ (by omega)) (Eq.trans (up2_ne _ _ (by omega)) (by first | assumption | exact up2_same _ _ _ _)))) | exact (Eq.trans (up2_ne _ _ (by omega)) (Eq.trans (up2_ne _ _ (by omega)) (Eq.trans (up2_ne _ _ (by omega)) (Eq.trans (up2_ne _ _ (by omega)) (by first | assumption | exact up2_same _ _ _ _))))) | rfl) ?_
        refine r_iast dX3_copyFrom_34 (by assumption) (by omega) (by omega) ?_
        refine r_iincN 2 (b := 1) (ls2 := [_, _, _]) dX3_copyFrom_35 rfl (by decide) (by decide) rfl ?_
        refine r_goto 2 dX3_copyFrom_38 (by decide) ?_
        refine ih (i + 1) _ (by omega) (fun y hy => by rw [up2_row _ _ (by omega), g2 y (by omega)]; exact ho y hy) (fun s hs => ?_)
        by_cases e : s = i
        · subst e
          exact ⟨up2_same _ _ _ _, g1.keep (hln s (by omega)) (fun y y1 y2 => up2_row _ _ (by omega))⟩
        · obtain ⟨h1, h2⟩ := hm s (by omega)
          exact ⟨by rw [up2_ne _ _ (Or.inr e), g2 _ (by omega)]; exact h1, h2.keep (hln s (by omega)) (fun y y1 y2 => by rw [up2_row _ _ (by omega), g2 y (by omega)])⟩
  refine Mv.of pnX3_copyFrom (Nat.le_of_ble_eq_true rfl) rfl ?_
  refine r_iconst (v := nI 0) dX3_copyFrom_0 (by decide) ?_
  refine r_istore_n 2 (ls2 := [_, _, _]) dX3_copyFrom_1 rfl (by decide) (Nat.le_of_ble_eq_true rfl) rfl ?_
  exact H 6 0 mi rfl Oth.rf (fun s hs => by omega)
theorem c_ntBegin {b : Nat} (hL : LNt sh mr a) (hB : LNt sh mr b) (hab : b + 261 ≤ a ∨ a + 261 ≤ b) {n : Nt} (hN : NtC mi mr b n) (hok : ∀ s, s < 6 → okSt (n.1 s) n.2.2) (hR : ∀ s, s < 6 → KpR mr (a + 3 + 43 * s + 6)) : Mi mX3_beginLike 4 [.ref a, .ref b] z sh mi mr (fun v m => v = none ∧ NtC m mr a (triN n none) ∧ Oth mi m a (a + 261)) := by
  obtain ⟨l0, l1, l2, l3, l4, l5⟩ := id hL
  obtain ⟨k0, k1, k2, k3, k4, k5⟩ := id hB
  have hln : ∀ s, s < 6 → (n.1 s).2.2.1.length ≤ 12 := fun s hs => (hok s hs).2.2.1.1
  have hnr : ∀ s, bs ((triN n none).2.1 s) = bs (n.2.1 s) := fun s => bs_eq (fun q _ => by simp [triN])
  have H : ∀ (k i : Nat) (m : MI), i + k = 6 → Oth mi m a (a + 261) → (∀ s, s < i → m (a + 2) s = nI (bs (n.2.1 s)) ∧ StC m mr (a + 3 + 43 * s) ((triN n none).1 s)) → Wp yX3_beginLike cX3_beginLike 3 none (EI 4 z sh mr (fun v m => v = none ∧ NtC m mr a (triN n none) ∧ Oth mi m a (a + 261))) 0 0 2 [.ref a, .ref b, .int (nI i)] [] z sh m mr := by
    intro k
    induction k with
    | zero =>
      intro i m hi ho hm
      refine r_iload_n 2 dX3_beginLike_2 rfl rfl ?_
      refine r_bipush (v := nI 6) dX3_beginLike_3 (by decide) ?_
      refine r_icmpN_ge 41 dX3_beginLike_5 (by decide) (by omega) (by omega) (fun h5 => ?_) (fun h5 => ?_)
      · refine r_aload_n 0 dX3_beginLike_41 rfl rfl ?_
        refine r_iconst (v := nI 0) dX3_beginLike_42 (by decide) ?_
        refine r_putI dX3_beginLike_43 fl_RX3_28 rfl rfl rfl (by assumption) ?_
        refine r_vret dX3_beginLike_46 rfl (Nat.le_of_ble_eq_true rfl) (Nat.le_of_ble_eq_true rfl) ?_
        refine ⟨rfl, rfl, rfl, rfl, ⟨up2_same _ _ _ _, fun s hs => ⟨?_, ?_⟩⟩, ho.up (by omega) (by omega)⟩
        · rw [up2_row _ _ (by omega), hnr]; exact (hm s (by omega)).1
        · exact (hm s (by omega)).2.keep (Nat.zero_le _) (fun y y1 y2 => up2_row _ _ (by omega))
      · omega
    | succ k ih =>
      intro i m hi ho hm
      obtain ⟨q1, q2⟩ := l5 i (by omega)
      obtain ⟨w1, w2⟩ := k5 i (by omega)
      have q0 := q2.1
      obtain ⟨n1, n2⟩ := hN.2 i (by omega)
      have n2m := n2.keep (m' := m) (hln i (by omega)) (fun y y1 y2 => ho y (by omega))
      refine r_iload_n 2 dX3_beginLike_2 rfl rfl ?_
      refine r_bipush (v := nI 6) dX3_beginLike_3 (by decide) ?_
      refine r_icmpN_ge 41 dX3_beginLike_5 (by decide) (by omega) (by omega) (fun h5 => ?_) (fun h5 => ?_)
      · omega
      · refine r_aload_n 0 dX3_beginLike_8 rfl rfl ?_
        refine r_getR dX3_beginLike_9 fl_RX3_11 rfl (by assumption) (by assumption) ?_
        refine r_iload_n 2 dX3_beginLike_12 rfl rfl ?_
        refine r_aald dX3_beginLike_13 (by assumption) (by decide) (by intro _; rfl) (by omega) (by omega) (by assumption) ?_
        refine r_aload_n 1 dX3_beginLike_14 rfl rfl ?_
        refine r_getR dX3_beginLike_15 fl_RX3_11 rfl (by assumption) (by assumption) ?_
        refine r_iload_n 2 dX3_beginLike_18 rfl rfl ?_
        refine r_aald dX3_beginLike_19 (by assumption) (by decide) (by intro _; rfl) (by omega) (by omega) (by assumption) ?_
        refine r_callVw [_] dX3_beginLike_20 ok_RX3_32 ivX6_beginLike (by assumption) ⟨_, _, rfl⟩ rfl rfl (Nat.le_of_ble_eq_true rfl) (by refine ⟨?_, ?_, ?_, ?_⟩ <;> exact Nat.le_of_ble_eq_true rfl) (c_begin q2 w2 (by omega) n2m.1 (hok i (by omega)).1 (hR i (by omega))) ?_
        intro m2 ⟨g1, g2⟩
        have nb : m2 (b + 2) i = nI (bs (n.2.1 i)) := by rw [g2 (b + 2) (by omega), ho (b + 2) (by omega)]; exact n1
        refine r_aload_n 0 dX3_beginLike_23 rfl rfl ?_
        refine r_getR dX3_beginLike_24 fl_RX3_17 rfl (by assumption) (by assumption) ?_
        refine r_iload_n 2 dX3_beginLike_27 rfl rfl ?_
        refine r_aload_n 1 dX3_beginLike_28 rfl rfl ?_
        refine r_getR dX3_beginLike_29 fl_RX3_17 rfl (by assumption) (by assumption) ?_
        refine r_iload_n 2 dX3_beginLike_32 rfl rfl ?_
        refine r_ialdV dX3_beginLike_33 (by assumption) (by omega) (by omega) (by first | assumption | exact up2_same _ _ _ _ | exact (Eq.trans (up2_ne _ _ (by omega)) (by first | assumption | exact up2_same _ _ _ _)) | exact (Eq.trans (up2_ne _ _ (by omega)) (Eq.trans (up2_ne _ _ (by omega)) (by first | assumption | exact up2_same _ _ _ _))) | exact (Eq.trans (up2_ne _ _ (by omega)) (Eq.trans (up2_ne _ _ (by omega)) (Eq.trans (up2_ne _ _ (by omega)) (by first | assumption | exact up2_same _ _ _ _)))) | exact (Eq.trans (up2_ne _ _ (by omega)) (Eq.trans (up2_ne _ _ (by omega)) (Eq.trans (up2_ne _ _ (by omega)) (Eq.trans (up2_ne _ _ (by omega)) (by first | assumption | exact up2_same _ _ _ _))))) | rfl) ?_
        refine r_iast dX3_beginLike_34 (by assumption) (by omega) (by omega) ?_
        refine r_iincN 2 (b := 1) (ls2 := [_, _, _]) dX3_beginLike_35 rfl (by decide) (by decide) rfl ?_
        refine r_goto 2 dX3_beginLike_38 (by decide) ?_
        refine ih (i + 1) _ (by omega) (fun y hy => by rw [up2_row _ _ (by omega), g2 y (by omega)]; exact ho y hy) (fun s hs => ?_)
        by_cases e : s = i
        · subst e
          exact ⟨up2_same _ _ _ _, g1.keep (Nat.zero_le _) (fun y y1 y2 => up2_row _ _ (by omega))⟩
        · obtain ⟨h1, h2⟩ := hm s (by omega)
          exact ⟨by rw [up2_ne _ _ (Or.inr e), g2 _ (by omega)]; exact h1, h2.keep (Nat.zero_le _) (fun y y1 y2 => by rw [up2_row _ _ (by omega), g2 y (by omega)])⟩
  refine Mv.of pnX3_beginLike (Nat.le_of_ble_eq_true rfl) rfl ?_
  refine r_iconst (v := nI 0) dX3_beginLike_0 (by decide) ?_
  refine r_istore_n 2 (ls2 := [_, _, _]) dX3_beginLike_1 rfl (by decide) (Nat.le_of_ble_eq_true rfl) rfl ?_
  exact H 6 0 mi rfl Oth.rf (fun s hs => by omega)
end NET4
