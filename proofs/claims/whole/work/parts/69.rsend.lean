section RSEND
variable {z : Nat} {sh : SH} {mi : MI} {mr : MR} {o : Nat}
theorem m_know (hL : LM sh mr o) {s now : Nat} (hs : s < 6) {l : Kn} (hK : KnM (mi (o + 1)) s l) (hl : l.length ≤ 16) {p : Pk} (hnow : mi (o + 1) 1386 = nI now) : Mi mX10_know 2 [.ref o, .int (nI s), .int (nI (en 27 p.1)), .int (nI (en 27 p.2.1))] z sh mi mr (fun v m => v = none ∧ KnM (m (o + 1)) s (knAdd l p now) ∧ Fr s 1020 1314 (mi (o + 1)) (m (o + 1)) ∧ ∀ x, x ≠ o + 1 → m x = mi x) := by
  obtain ⟨l0, ⟨l1, l2⟩, -⟩ := id hL
  have h1 := hK.1
  have K21 : ∀ (m : MI) (l' : Kn), l'.length < 16 → KnM (m (o + 1)) s l' → m (o + 1) 1386 = nI now → Fr s 1020 1314 (mi (o + 1)) (m (o + 1)) → (∀ x, x ≠ o + 1 → m x = mi x) → knAdd l p now = l' ++ [(p.1, p.2.1, now)] → Wp yX10_know cX10_know 5 none (EI 2 z sh mr (fun v m => v = none ∧ KnM (m (o + 1)) s (knAdd l p now) ∧ Fr s 1020 1314 (mi (o + 1)) (m (o + 1)) ∧ ∀ x, x ≠ o + 1 → m x = mi x)) 0 0 21 [.ref o, .int (nI s), .int (nI (en 27 p.1)), .int (nI (en 27 p.2.1))] [] z sh m mr := by
    intro m l' hl' hK' hn hF ho he
    have h1' := hK'.1
    have hq : ∀ (a b c d : Int32) (q : Nat), q ≠ 1020 + s → q ≠ 1026 + 3 * (16 * s + l'.length) → q ≠ 1026 + 3 * (16 * s + l'.length) + 1 → q ≠ 1026 + 3 * (16 * s + l'.length) + 2 → up2 (up2 (up2 (up2 m (o + 1) (1026 + 3 * (16 * s + l'.length)) a) (o + 1) (1026 + 3 * (16 * s + l'.length) + 1) b) (o + 1) (1026 + 3 * (16 * s + l'.length) + 2) c) (o + 1) (1020 + s) d (o + 1) q = m (o + 1) q := fun a b c d q q1 q2 q3 q4 => by rw [up2_ne _ _ (Or.inr q1), up2_ne _ _ (Or.inr q4), up2_ne _ _ (Or.inr q3), up2_ne _ _ (Or.inr q2)]
    refine r_aload_n 0 dX10_know_21 rfl rfl ?_
    refine r_getR dX10_know_22 fl_RX10_7 rfl (by assumption) (by assumption) ?_
    refine r_sipush (v := nI 1020) dX10_know_25 (by decide) ?_
    refine r_iload_n 1 dX10_know_28 rfl rfl ?_
    refine r_iaddN dX10_know_29 ?_
    refine r_ialdV dX10_know_30 (by assumption) (by omega) (by omega) (by first | assumption | exact up2_same _ _ _ _ | exact (Eq.trans (up2_ne _ _ (by omega)) (by first | assumption | exact up2_same _ _ _ _)) | exact (Eq.trans (up2_ne _ _ (by omega)) (Eq.trans (up2_ne _ _ (by omega)) (by first | assumption | exact up2_same _ _ _ _))) | exact (Eq.trans (up2_ne _ _ (by omega)) (Eq.trans (up2_ne _ _ (by omega)) (Eq.trans (up2_ne _ _ (by omega)) (by first | assumption | exact up2_same _ _ _ _)))) | exact (Eq.trans (up2_ne _ _ (by omega)) (Eq.trans (up2_ne _ _ (by omega)) (Eq.trans (up2_ne _ _ (by omega)) (Eq.trans (up2_ne _ _ (by omega)) (by first | assumption | exact up2_same _ _ _ _))))) | rfl) ?_
    refine r_istore 4 (ls2 := [_, _, _, _, _]) dX10_know_31 (by decide) (Nat.le_of_ble_eq_true rfl) rfl ?_
    refine r_aload_n 0 dX10_know_33 rfl rfl ?_
    refine r_getR dX10_know_34 fl_RX10_7 rfl (by assumption) (by assumption) ?_
    refine r_iload_n 1 dX10_know_37 rfl rfl ?_
    refine r_iload 4 dX10_know_38 rfl ?_
    refine r_callSp [_, _] dX10_know_40 ok_RX10_98 isX10_known rfl rfl (Nat.le_of_ble_eq_true rfl) (by refine ⟨?_, ?_, ?_, ?_⟩ <;> exact Nat.le_of_ble_eq_true rfl) (m_known) ?_
    refine r_iload_n 2 dX10_know_43 rfl rfl ?_
    refine r_iast dX10_know_44 (by assumption) (by omega) (by omega) ?_
    refine r_aload_n 0 dX10_know_45 rfl rfl ?_
    refine r_getR dX10_know_46 fl_RX10_7 rfl (by assumption) (by assumption) ?_
    refine r_iload_n 1 dX10_know_49 rfl rfl ?_
    refine r_iload 4 dX10_know_50 rfl ?_
    refine r_callSp [_, _] dX10_know_52 ok_RX10_98 isX10_known rfl rfl (Nat.le_of_ble_eq_true rfl) (by refine ⟨?_, ?_, ?_, ?_⟩ <;> exact Nat.le_of_ble_eq_true rfl) (m_known) ?_
    refine r_iconst (v := nI 1) dX10_know_55 (by decide) ?_
    refine r_iaddN dX10_know_56 ?_
    refine r_iload_n 3 dX10_know_57 rfl rfl ?_
    refine r_iast dX10_know_58 (by assumption) (by omega) (by omega) ?_
    refine r_aload_n 0 dX10_know_59 rfl rfl ?_
    refine r_getR dX10_know_60 fl_RX10_7 rfl (by assumption) (by assumption) ?_
    refine r_iload_n 1 dX10_know_63 rfl rfl ?_
    refine r_iload 4 dX10_know_64 rfl ?_
    refine r_callSp [_, _] dX10_know_66 ok_RX10_98 isX10_known rfl rfl (Nat.le_of_ble_eq_true rfl) (by refine ⟨?_, ?_, ?_, ?_⟩ <;> exact Nat.le_of_ble_eq_true rfl) (m_known) ?_
    refine r_iconst (v := nI 2) dX10_know_69 (by decide) ?_
    refine r_iaddN dX10_know_70 ?_
    refine r_aload_n 0 dX10_know_71 rfl rfl ?_
    refine r_getR dX10_know_72 fl_RX10_7 rfl (by assumption) (by assumption) ?_
    refine r_sipush (v := nI 1386) dX10_know_75 (by decide) ?_
    refine r_ialdV dX10_know_78 (by assumption) (by omega) (by omega) (by first | assumption | exact up2_same _ _ _ _ | exact (Eq.trans (up2_ne _ _ (by omega)) (by first | assumption | exact up2_same _ _ _ _)) | exact (Eq.trans (up2_ne _ _ (by omega)) (Eq.trans (up2_ne _ _ (by omega)) (by first | assumption | exact up2_same _ _ _ _))) | exact (Eq.trans (up2_ne _ _ (by omega)) (Eq.trans (up2_ne _ _ (by omega)) (Eq.trans (up2_ne _ _ (by omega)) (by first | assumption | exact up2_same _ _ _ _)))) | exact (Eq.trans (up2_ne _ _ (by omega)) (Eq.trans (up2_ne _ _ (by omega)) (Eq.trans (up2_ne _ _ (by omega)) (Eq.trans (up2_ne _ _ (by omega)) (by first | assumption | exact up2_same _ _ _ _))))) | rfl) ?_
    refine r_iast dX10_know_79 (by assumption) (by omega) (by omega) ?_
    refine r_aload_n 0 dX10_know_80 rfl rfl ?_
    refine r_getR dX10_know_81 fl_RX10_7 rfl (by assumption) (by assumption) ?_
    refine r_sipush (v := nI 1020) dX10_know_84 (by decide) ?_
    refine r_iload_n 1 dX10_know_87 rfl rfl ?_
    refine r_iaddN dX10_know_88 ?_
    refine r_dup2 dX10_know_89 rfl rfl ?_
    refine r_ialdV dX10_know_90 (by assumption) (by omega) (by omega) (by first | assumption | exact up2_same _ _ _ _ | exact (Eq.trans (up2_ne _ _ (by omega)) (by first | assumption | exact up2_same _ _ _ _)) | exact (Eq.trans (up2_ne _ _ (by omega)) (Eq.trans (up2_ne _ _ (by omega)) (by first | assumption | exact up2_same _ _ _ _))) | exact (Eq.trans (up2_ne _ _ (by omega)) (Eq.trans (up2_ne _ _ (by omega)) (Eq.trans (up2_ne _ _ (by omega)) (by first | assumption | exact up2_same _ _ _ _)))) | exact (Eq.trans (up2_ne _ _ (by omega)) (Eq.trans (up2_ne _ _ (by omega)) (Eq.trans (up2_ne _ _ (by omega)) (Eq.trans (up2_ne _ _ (by omega)) (by first | assumption | exact up2_same _ _ _ _))))) | rfl) ?_
    refine r_iconst (v := nI 1) dX10_know_91 (by decide) ?_
    refine r_iaddN dX10_know_92 ?_
    refine r_iast dX10_know_93 (by assumption) (by omega) (by omega) ?_
    refine r_vret dX10_know_94 rfl (Nat.le_of_ble_eq_true rfl) (Nat.le_of_ble_eq_true rfl) ?_
    refine ⟨rfl, rfl, rfl, rfl, ?_, ?_, fun x hx => by rw [up2_row _ _ hx, up2_row _ _ hx, up2_row _ _ hx, up2_row _ _ hx]; exact ho x hx⟩
    · rw [he]
      refine ⟨by rw [up2_same, List.length_append]; rfl, fun i q hi => ?_⟩
      by_cases e : i = l'.length
      · subst e
        rw [List.getElem?_append_right (Nat.le_refl _), Nat.sub_self] at hi
        cases hi
        refine ⟨?_, ?_, ?_⟩
        · rw [up2_ne _ _ (Or.inr (by omega)), up2_ne _ _ (Or.inr (by omega)), up2_ne _ _ (Or.inr (by omega)), up2_same]
        · rw [up2_ne _ _ (Or.inr (by omega)), up2_ne _ _ (Or.inr (by omega)), up2_same]
        · rw [up2_ne _ _ (Or.inr (by omega)), up2_same]
      · have hil := gl_lt hi
        simp at hil
        rw [List.getElem?_append_left (by omega)] at hi
        rw [hq _ _ _ _ _ (by omega) (by omega) (by omega) (by omega), hq _ _ _ _ _ (by omega) (by omega) (by omega) (by omega), hq _ _ _ _ _ (by omega) (by omega) (by omega) (by omega)]
        exact hK'.2 i q hi
    · exact Fr.tr (Fr.tr (Fr.tr (Fr.tr hF (Fr.up (ow_kn hs (by omega)).1 (by omega) (by omega))) (Fr.up (ow_kn hs (by omega)).1 (by omega) (by omega))) (Fr.up (ow_kn hs (by omega)).1 (by omega) (by omega))) (Fr.up (ow_kn hs (by omega)).1 (by omega) (by omega))
  refine Mv.of pnX10_know (Nat.le_of_ble_eq_true rfl) rfl ?_
  refine r_aload_n 0 dX10_know_0 rfl rfl ?_
  refine r_getR dX10_know_1 fl_RX10_7 rfl (by assumption) (by assumption) ?_
  refine r_sipush (v := nI 1020) dX10_know_4 (by decide) ?_
  refine r_iload_n 1 dX10_know_7 rfl rfl ?_
  refine r_iaddN dX10_know_8 ?_
  refine r_ialdV dX10_know_9 (by assumption) (by omega) (by omega) (by first | assumption | exact up2_same _ _ _ _ | exact (Eq.trans (up2_ne _ _ (by omega)) (by first | assumption | exact up2_same _ _ _ _)) | exact (Eq.trans (up2_ne _ _ (by omega)) (Eq.trans (up2_ne _ _ (by omega)) (by first | assumption | exact up2_same _ _ _ _))) | exact (Eq.trans (up2_ne _ _ (by omega)) (Eq.trans (up2_ne _ _ (by omega)) (Eq.trans (up2_ne _ _ (by omega)) (by first | assumption | exact up2_same _ _ _ _)))) | exact (Eq.trans (up2_ne _ _ (by omega)) (Eq.trans (up2_ne _ _ (by omega)) (Eq.trans (up2_ne _ _ (by omega)) (Eq.trans (up2_ne _ _ (by omega)) (by first | assumption | exact up2_same _ _ _ _))))) | rfl) ?_
  refine r_bipush (v := nI 16) dX10_know_10 (by decide) ?_
  refine r_icmpN_ne 21 dX10_know_12 (by decide) (by omega) (by omega) (fun h12 => ?_) (fun h12 => ?_)
  · first | exact K21 mi l (by omega) hK hnow Fr.rf (fun _ _ => rfl) (by unfold knAdd; rw [if_neg (by omega)]) | exact K21 mA (l.eraseIdx 0) (by rw [List.length_eraseIdx_of_lt (by omega)]; omega) uK (by rw [uF.out (by omega)]; exact hnow) uF uO (by unfold knAdd; rw [if_pos (by omega)])
  · refine r_aload_n 0 dX10_know_15 rfl rfl ?_
    refine r_iload_n 1 dX10_know_16 rfl rfl ?_
    refine r_iconst (v := nI 0) dX10_know_17 (by decide) ?_
    refine r_callVw [_, _] dX10_know_18 ok_RX10_101 ivX10_unknow (by assumption) ⟨_, _, rfl⟩ rfl rfl (Nat.le_of_ble_eq_true rfl) (by refine ⟨?_, ?_, ?_, ?_⟩ <;> exact Nat.le_of_ble_eq_true rfl) (m_unknow hL hs hK hl (by omega)) ?_
    intro mA ⟨uK, uF, uO⟩
    first | exact K21 mi l (by omega) hK hnow Fr.rf (fun _ _ => rfl) (by unfold knAdd; rw [if_neg (by omega)]) | exact K21 mA (l.eraseIdx 0) (by rw [List.length_eraseIdx_of_lt (by omega)]; omega) uK (by rw [uF.out (by omega)]; exact hnow) uF uO (by unfold knAdd; rw [if_pos (by omega)])
theorem m_begin (hL : LM sh mr o) {s now : Nat} (hs : s < 6) {l : Kn} (hK : KnM (mi (o + 1)) s l) (hok : okKn l now) {p : Pk} (hp : PkM (mi (o + 5)) 0 p) (hpk : okP p) (hnow : mi (o + 1) 1386 = nI now) : Mi mX10_begin 3 [.ref o, .int (nI s)] z sh mi mr (fun v m => v = none ∧ KnM (m (o + 1)) s (knAdd (l.eraseIdx (knIx l p)) p now) ∧ Fr s 1020 1314 (mi (o + 1)) (m (o + 1)) ∧ ∀ x, x ≠ o + 1 → m x = mi x) := by
  obtain ⟨l0, ⟨l1, l2⟩, -, -, -, ⟨l9, l10⟩, -⟩ := id hL
  have p0 := hp.1
  have p1 := hp.2.1
  have h16 := hok.1
  have K28 : ∀ (m : MI) (w : Int32), KnM (m (o + 1)) s (l.eraseIdx (knIx l p)) → Fr s 1020 1314 (mi (o + 1)) (m (o + 1)) → (∀ x, x ≠ o + 1 → m x = mi x) → Wp yX10_begin cX10_begin 3 none (EI 3 z sh mr (fun v m => v = none ∧ KnM (m (o + 1)) s (knAdd (l.eraseIdx (knIx l p)) p now) ∧ Fr s 1020 1314 (mi (o + 1)) (m (o + 1)) ∧ ∀ x, x ≠ o + 1 → m x = mi x)) 0 0 28 [.ref o, .int (nI s), .int w] [] z sh m mr := by
    intro m w hK' hF ho
    have q0 : m (o + 5) 0 = nI (en 27 p.1) := by rw [ho _ (by omega)]; exact p0
    have q1 : m (o + 5) (0 + 1) = nI (en 27 p.2.1) := by rw [ho _ (by omega)]; exact p1
    have hlen : (l.eraseIdx (knIx l p)).length ≤ 16 := Nat.le_trans (List.length_eraseIdx_le _ _) h16
    refine r_aload_n 0 dX10_begin_28 rfl rfl ?_
    refine r_iload_n 1 dX10_begin_29 rfl rfl ?_
    refine r_aload_n 0 dX10_begin_30 rfl rfl ?_
    refine r_getR dX10_begin_31 fl_RX10_23 rfl (by assumption) (by assumption) ?_
    refine r_iconst (v := nI 0) dX10_begin_34 (by decide) ?_
    refine r_ialdV dX10_begin_35 (by assumption) (by omega) (by omega) (by first | assumption | exact up2_same _ _ _ _ | exact (Eq.trans (up2_ne _ _ (by omega)) (by first | assumption | exact up2_same _ _ _ _)) | exact (Eq.trans (up2_ne _ _ (by omega)) (Eq.trans (up2_ne _ _ (by omega)) (by first | assumption | exact up2_same _ _ _ _))) | exact (Eq.trans (up2_ne _ _ (by omega)) (Eq.trans (up2_ne _ _ (by omega)) (Eq.trans (up2_ne _ _ (by omega)) (by first | assumption | exact up2_same _ _ _ _)))) | exact (Eq.trans (up2_ne _ _ (by omega)) (Eq.trans (up2_ne _ _ (by omega)) (Eq.trans (up2_ne _ _ (by omega)) (Eq.trans (up2_ne _ _ (by omega)) (by first | assumption | exact up2_same _ _ _ _))))) | rfl) ?_
    refine r_aload_n 0 dX10_begin_36 rfl rfl ?_
    refine r_getR dX10_begin_37 fl_RX10_23 rfl (by assumption) (by assumption) ?_
    refine r_iconst (v := nI 1) dX10_begin_40 (by decide) ?_
    refine r_ialdV dX10_begin_41 (by assumption) (by omega) (by omega) (by first | assumption | exact up2_same _ _ _ _ | exact (Eq.trans (up2_ne _ _ (by omega)) (by first | assumption | exact up2_same _ _ _ _)) | exact (Eq.trans (up2_ne _ _ (by omega)) (Eq.trans (up2_ne _ _ (by omega)) (by first | assumption | exact up2_same _ _ _ _))) | exact (Eq.trans (up2_ne _ _ (by omega)) (Eq.trans (up2_ne _ _ (by omega)) (Eq.trans (up2_ne _ _ (by omega)) (by first | assumption | exact up2_same _ _ _ _)))) | exact (Eq.trans (up2_ne _ _ (by omega)) (Eq.trans (up2_ne _ _ (by omega)) (Eq.trans (up2_ne _ _ (by omega)) (Eq.trans (up2_ne _ _ (by omega)) (by first | assumption | exact up2_same _ _ _ _))))) | rfl) ?_
    refine r_callVw [_, _, _] dX10_begin_42 ok_RX10_109 ivX10_know (by assumption) ⟨_, _, rfl⟩ rfl rfl (Nat.le_of_ble_eq_true rfl) (by refine ⟨?_, ?_, ?_, ?_⟩ <;> exact Nat.le_of_ble_eq_true rfl) (m_know hL hs hK' hlen (by rw [hF.out (by omega)]; exact hnow)) ?_
    intro mA ⟨uK, uF, uO⟩
    refine r_vret dX10_begin_45 rfl (Nat.le_of_ble_eq_true rfl) (Nat.le_of_ble_eq_true rfl) ?_
    exact ⟨rfl, rfl, rfl, rfl, uK, hF.tr uF, fun x hx => (uO x hx).trans (ho x hx)⟩
  refine Mv.of pnX10_begin (Nat.le_of_ble_eq_true rfl) rfl ?_
  by_cases hd : knIx l p < l.length
  · refine r_aload_n 0 dX10_begin_0 rfl rfl ?_
    refine r_iload_n 1 dX10_begin_1 rfl rfl ?_
    refine r_aload_n 0 dX10_begin_2 rfl rfl ?_
    refine r_getR dX10_begin_3 fl_RX10_23 rfl (by assumption) (by assumption) ?_
    refine r_iconst (v := nI 0) dX10_begin_6 (by decide) ?_
    refine r_ialdV dX10_begin_7 (by assumption) (by omega) (by omega) (by first | assumption | exact up2_same _ _ _ _ | exact (Eq.trans (up2_ne _ _ (by omega)) (by first | assumption | exact up2_same _ _ _ _)) | exact (Eq.trans (up2_ne _ _ (by omega)) (Eq.trans (up2_ne _ _ (by omega)) (by first | assumption | exact up2_same _ _ _ _))) | exact (Eq.trans (up2_ne _ _ (by omega)) (Eq.trans (up2_ne _ _ (by omega)) (Eq.trans (up2_ne _ _ (by omega)) (by first | assumption | exact up2_same _ _ _ _)))) | exact (Eq.trans (up2_ne _ _ (by omega)) (Eq.trans (up2_ne _ _ (by omega)) (Eq.trans (up2_ne _ _ (by omega)) (Eq.trans (up2_ne _ _ (by omega)) (by first | assumption | exact up2_same _ _ _ _))))) | rfl) ?_
    refine r_aload_n 0 dX10_begin_8 rfl rfl ?_
    refine r_getR dX10_begin_9 fl_RX10_23 rfl (by assumption) (by assumption) ?_
    refine r_iconst (v := nI 1) dX10_begin_12 (by decide) ?_
    refine r_ialdV dX10_begin_13 (by assumption) (by omega) (by omega) (by first | assumption | exact up2_same _ _ _ _ | exact (Eq.trans (up2_ne _ _ (by omega)) (by first | assumption | exact up2_same _ _ _ _)) | exact (Eq.trans (up2_ne _ _ (by omega)) (Eq.trans (up2_ne _ _ (by omega)) (by first | assumption | exact up2_same _ _ _ _))) | exact (Eq.trans (up2_ne _ _ (by omega)) (Eq.trans (up2_ne _ _ (by omega)) (Eq.trans (up2_ne _ _ (by omega)) (by first | assumption | exact up2_same _ _ _ _)))) | exact (Eq.trans (up2_ne _ _ (by omega)) (Eq.trans (up2_ne _ _ (by omega)) (Eq.trans (up2_ne _ _ (by omega)) (Eq.trans (up2_ne _ _ (by omega)) (by first | assumption | exact up2_same _ _ _ _))))) | rfl) ?_
    refine r_callVp [_, _, _] dX10_begin_14 ok_RX10_105 ivX10_placeKnown (by assumption) ⟨_, _, rfl⟩ rfl rfl (Nat.le_of_ble_eq_true rfl) (by refine ⟨?_, ?_, ?_, ?_⟩ <;> exact Nat.le_of_ble_eq_true rfl) (m_place hL hs hK hok hpk.1 hpk.2.1) ?_
    rw [if_pos hd]
    refine r_istore_n 2 (ls2 := [_, _, _]) dX10_begin_17 rfl (by decide) (Nat.le_of_ble_eq_true rfl) rfl ?_
    refine r_iload_n 2 dX10_begin_18 rfl rfl ?_
    refine r_ifN_lt 28 dX10_begin_19 (by decide) (by omega) ?_
    refine r_aload_n 0 dX10_begin_22 rfl rfl ?_
    refine r_iload_n 1 dX10_begin_23 rfl rfl ?_
    refine r_iload_n 2 dX10_begin_24 rfl rfl ?_
    refine r_callVw [_, _] dX10_begin_25 ok_RX10_101 ivX10_unknow (by assumption) ⟨_, _, rfl⟩ rfl rfl (Nat.le_of_ble_eq_true rfl) (by refine ⟨?_, ?_, ?_, ?_⟩ <;> exact Nat.le_of_ble_eq_true rfl) (m_unknow hL hs hK h16 hd) ?_
    intro mA ⟨uK, uF, uO⟩
    exact K28 mA _ uK uF uO
  · refine r_aload_n 0 dX10_begin_0 rfl rfl ?_
    refine r_iload_n 1 dX10_begin_1 rfl rfl ?_
    refine r_aload_n 0 dX10_begin_2 rfl rfl ?_
    refine r_getR dX10_begin_3 fl_RX10_23 rfl (by assumption) (by assumption) ?_
    refine r_iconst (v := nI 0) dX10_begin_6 (by decide) ?_
    refine r_ialdV dX10_begin_7 (by assumption) (by omega) (by omega) (by first | assumption | exact up2_same _ _ _ _ | exact (Eq.trans (up2_ne _ _ (by omega)) (by first | assumption | exact up2_same _ _ _ _)) | exact (Eq.trans (up2_ne _ _ (by omega)) (Eq.trans (up2_ne _ _ (by omega)) (by first | assumption | exact up2_same _ _ _ _))) | exact (Eq.trans (up2_ne _ _ (by omega)) (Eq.trans (up2_ne _ _ (by omega)) (Eq.trans (up2_ne _ _ (by omega)) (by first | assumption | exact up2_same _ _ _ _)))) | exact (Eq.trans (up2_ne _ _ (by omega)) (Eq.trans (up2_ne _ _ (by omega)) (Eq.trans (up2_ne _ _ (by omega)) (Eq.trans (up2_ne _ _ (by omega)) (by first | assumption | exact up2_same _ _ _ _))))) | rfl) ?_
    refine r_aload_n 0 dX10_begin_8 rfl rfl ?_
    refine r_getR dX10_begin_9 fl_RX10_23 rfl (by assumption) (by assumption) ?_
    refine r_iconst (v := nI 1) dX10_begin_12 (by decide) ?_
    refine r_ialdV dX10_begin_13 (by assumption) (by omega) (by omega) (by first | assumption | exact up2_same _ _ _ _ | exact (Eq.trans (up2_ne _ _ (by omega)) (by first | assumption | exact up2_same _ _ _ _)) | exact (Eq.trans (up2_ne _ _ (by omega)) (Eq.trans (up2_ne _ _ (by omega)) (by first | assumption | exact up2_same _ _ _ _))) | exact (Eq.trans (up2_ne _ _ (by omega)) (Eq.trans (up2_ne _ _ (by omega)) (Eq.trans (up2_ne _ _ (by omega)) (by first | assumption | exact up2_same _ _ _ _)))) | exact (Eq.trans (up2_ne _ _ (by omega)) (Eq.trans (up2_ne _ _ (by omega)) (Eq.trans (up2_ne _ _ (by omega)) (Eq.trans (up2_ne _ _ (by omega)) (by first | assumption | exact up2_same _ _ _ _))))) | rfl) ?_
    refine r_callVp [_, _, _] dX10_begin_14 ok_RX10_105 ivX10_placeKnown (by assumption) ⟨_, _, rfl⟩ rfl rfl (Nat.le_of_ble_eq_true rfl) (by refine ⟨?_, ?_, ?_, ?_⟩ <;> exact Nat.le_of_ble_eq_true rfl) (m_place hL hs hK hok hpk.1 hpk.2.1) ?_
    rw [if_neg hd]
    refine r_istore_n 2 (ls2 := [_, _, _]) dX10_begin_17 rfl (by decide) (Nat.le_of_ble_eq_true rfl) rfl ?_
    refine r_iload_n 2 dX10_begin_18 rfl rfl ?_
    refine r_if_lt 28 dX10_begin_19 (by decide) (fun h19 => ?_) (fun h19 => ?_)
    · exact K28 mi _ (by rw [List.eraseIdx_of_length_le (by omega)]; exact hK) Fr.rf (fun _ _ => rfl)
    · exact absurd (by decide) h19
def cnF (g : Nat → Bool) : Nat → Nat
  | 0 => 0
  | i + 1 => cnF g i + bn (g i)
def lsF (g : Nat → Bool) : Nat → Int32
  | 0 => -6
  | i + 1 => if g i = true then nI i else lsF g i
theorem cnF_6 (g : Nat → Bool) : cnF g 6 = cn6 g := by simp [cnF, cn6, sum6]
theorem cnF_le (g : Nat → Bool) : ∀ i, cnF g i ≤ i
  | 0 => Nat.le_refl _
  | i + 1 => by have := cnF_le g i; have := bn_le (g i); unfold cnF; omega
theorem lsF_1 {g : Nat → Bool} (h : cn6 g = 1) : ∃ q, q < 6 ∧ g q = true ∧ lsF g 6 = nI q ∧ (List.range 6).filter g = [q] := by
  obtain ⟨q, q1, q2, q3, q4⟩ := fs6_1 h
  refine ⟨q, q1, q2, ?_, q4⟩
  have hm : ∀ t, t < 6 → g t = true → t = q := fun t ht hg => by
    have : t ∈ (List.range 6).filter g := List.mem_filter.mpr ⟨List.mem_range.mpr ht, hg⟩
    rw [q4] at this; exact List.mem_singleton.mp this
  have key : ∀ i, i ≤ 6 → lsF g i = if q < i then nI q else -6 := by
    intro i
    induction i with
    | zero => intro _; rfl
    | succ i ih =>
      intro hi
      unfold lsF
      by_cases hg : g i = true
      · have e := hm i (by omega) hg
        rw [if_pos hg, if_pos (by omega), e]
      · have e : i ≠ q := fun e => hg (by rw [e]; exact q2)
        rw [if_neg hg, ih (by omega)]
        by_cases hqi : q < i
        · rw [if_pos hqi, if_pos (by omega)]
        · rw [if_neg hqi, if_neg (by omega)]
  rw [key 6 (Nat.le_refl _), if_pos q1]
/-- from whom a station hears -/
theorem m_hearsFrom (hL : LM sh mr o) {s v : Nat} (hs : s < 6) {S : Nat → Bool} (hS : ∀ q, q < 6 → mi (o + 7) q = b2 (S q)) {nr : Nat → Nat → Bool} (hN : NrM (mi (o + 1)) nr) (hv : mi (o + 1) (96 + 6 * 7 + s) = nI v) : Mi mX10_hearsFrom 1 [.ref o, .int (nI s)] z sh mi mr (fun r m => r = some (.int (if cn6 (fun q => S q && nr s q) = 1 then lsF (fun q => S q && nr s q) 6 else -6)) ∧ m = if 1 < cn6 (fun q => S q && nr s q) then up2 mi (o + 1) (96 + 6 * 7 + s) (nI (v + 1)) else mi) := by
  obtain ⟨l0, ⟨l1, l2⟩, -, -, -, -, -, ⟨l13, l14⟩, -⟩ := id hL
  generalize hg : (fun q => S q && nr s q) = g
  have hgq : ∀ q, g q = (S q && nr s q) := fun q => by rw [← hg]
  have H : ∀ t i : Nat, i + t = 6 → Wp yX10_hearsFrom cX10_hearsFrom 5 (some .int) (EI 1 z sh mr (fun r m => r = some (.int (if cn6 g = 1 then lsF g 6 else -6)) ∧ m = if 1 < cn6 g then up2 mi (o + 1) (96 + 6 * 7 + s) (nI (v + 1)) else mi)) 0 0 8 [.ref o, .int (nI s), .int (nI (cnF g i)), .int (lsF g i), .int (nI i)] [] z sh mi mr := by
    intro t
    induction t with
    | zero =>
      intro i hi
      have hi : i = 6 := hi
      subst hi
      have hle := cnF_le g 6
      rw [cnF_6] at hle ⊢
      refine r_iload 4 dX10_hearsFrom_8 rfl ?_
      refine r_bipush (v := nI 6) dX10_hearsFrom_10 (by decide) ?_
      refine r_icmpN_ge 47 dX10_hearsFrom_12 (by decide) (by omega) (by omega) (fun h12 => ?_) (fun h12 => ?_)
      · refine r_iload_n 2 dX10_hearsFrom_47 rfl rfl ?_
        refine r_iconst (v := nI 1) dX10_hearsFrom_48 (by decide) ?_
        refine r_icmpN_le 59 dX10_hearsFrom_49 (by decide) (by omega) (by omega) (fun h49 => ?_) (fun h49 => ?_)
        · refine r_iload_n 2 dX10_hearsFrom_59 rfl rfl ?_
          refine r_iconst (v := nI 1) dX10_hearsFrom_60 (by decide) ?_
          refine r_icmpN_ne 68 dX10_hearsFrom_61 (by decide) (by omega) (by omega) (fun h61 => ?_) (fun h61 => ?_)
          · refine r_bipush (v := -6) dX10_hearsFrom_68 (by decide) ?_
            refine r_iret dX10_hearsFrom_70 rfl (Nat.le_of_ble_eq_true rfl) (Nat.le_of_ble_eq_true rfl) ?_
            refine ⟨rfl, rfl, rfl, ?_, ?_⟩
            · first | (rw [if_pos h61]; done) | (rw [if_neg h61]; done)
            · first | (rw [if_neg (by omega)]; done) | (rw [if_pos (by omega)]; done)
          · refine r_iload_n 3 dX10_hearsFrom_64 rfl rfl ?_
            refine r_goto 70 dX10_hearsFrom_65 (by decide) ?_
            refine r_iret dX10_hearsFrom_70 rfl (Nat.le_of_ble_eq_true rfl) (Nat.le_of_ble_eq_true rfl) ?_
            refine ⟨rfl, rfl, rfl, ?_, ?_⟩
            · first | (rw [if_pos h61]; done) | (rw [if_neg h61]; done)
            · first | (rw [if_neg (by omega)]; done) | (rw [if_pos (by omega)]; done)
        · refine r_aload_n 0 dX10_hearsFrom_52 rfl rfl ?_
          refine r_bipush (v := nI 7) dX10_hearsFrom_53 (by decide) ?_
          refine r_iload_n 1 dX10_hearsFrom_55 rfl rfl ?_
          refine r_callVw [_, _] dX10_hearsFrom_56 ok_RX10_119 ivX10_count (by assumption) ⟨_, _, rfl⟩ rfl rfl (Nat.le_of_ble_eq_true rfl) (by refine ⟨?_, ?_, ?_, ?_⟩ <;> exact Nat.le_of_ble_eq_true rfl) (m_cnt hL (w := 7) (by omega) hs hv) ?_
          intro mA uA
          subst uA
          refine r_iload_n 2 dX10_hearsFrom_59 rfl rfl ?_
          refine r_iconst (v := nI 1) dX10_hearsFrom_60 (by decide) ?_
          refine r_icmpN_ne 68 dX10_hearsFrom_61 (by decide) (by omega) (by omega) (fun h61 => ?_) (fun h61 => ?_)
          · refine r_bipush (v := -6) dX10_hearsFrom_68 (by decide) ?_
            refine r_iret dX10_hearsFrom_70 rfl (Nat.le_of_ble_eq_true rfl) (Nat.le_of_ble_eq_true rfl) ?_
            refine ⟨rfl, rfl, rfl, ?_, ?_⟩
            · first | (rw [if_pos h61]; done) | (rw [if_neg h61]; done)
            · first | (rw [if_neg (by omega)]; done) | (rw [if_pos (by omega)]; done)
          · refine r_iload_n 3 dX10_hearsFrom_64 rfl rfl ?_
            refine r_goto 70 dX10_hearsFrom_65 (by decide) ?_
            refine r_iret dX10_hearsFrom_70 rfl (Nat.le_of_ble_eq_true rfl) (Nat.le_of_ble_eq_true rfl) ?_
            refine ⟨rfl, rfl, rfl, ?_, ?_⟩
            · first | (rw [if_pos h61]; done) | (rw [if_neg h61]; done)
            · first | (rw [if_neg (by omega)]; done) | (rw [if_pos (by omega)]; done)
      · omega
    | succ t ih =>
      intro i hi
      have hSi := hS i (by omega)
      have hle := cnF_le g i
      refine r_iload 4 dX10_hearsFrom_8 rfl ?_
      refine r_bipush (v := nI 6) dX10_hearsFrom_10 (by decide) ?_
      refine r_icmpN_ge 47 dX10_hearsFrom_12 (by decide) (by omega) (by omega) (fun h12 => ?_) (fun h12 => ?_)
      · omega
      · refine r_aload_n 0 dX10_hearsFrom_15 rfl rfl ?_
        refine r_getR dX10_hearsFrom_16 fl_RX10_29 rfl (by assumption) (by assumption) ?_
        refine r_iload 4 dX10_hearsFrom_19 rfl ?_
        refine r_baldV dX10_hearsFrom_21 (by assumption) (by omega) (by omega) (by first | assumption | exact up2_same _ _ _ _ | exact (Eq.trans (up2_ne _ _ (by omega)) (by first | assumption | exact up2_same _ _ _ _)) | exact (Eq.trans (up2_ne _ _ (by omega)) (Eq.trans (up2_ne _ _ (by omega)) (by first | assumption | exact up2_same _ _ _ _))) | exact (Eq.trans (up2_ne _ _ (by omega)) (Eq.trans (up2_ne _ _ (by omega)) (Eq.trans (up2_ne _ _ (by omega)) (by first | assumption | exact up2_same _ _ _ _)))) | exact (Eq.trans (up2_ne _ _ (by omega)) (Eq.trans (up2_ne _ _ (by omega)) (Eq.trans (up2_ne _ _ (by omega)) (Eq.trans (up2_ne _ _ (by omega)) (by first | assumption | exact up2_same _ _ _ _))))) | rfl) ?_
        refine r_ifB_eq 41 dX10_hearsFrom_22 (by decide) (fun h22 => ?_) (fun h22 => ?_)
        · refine r_iincN 4 (b := 1) (ls2 := [_, _, _, _, _]) dX10_hearsFrom_41 rfl (by decide) (by decide) rfl ?_
          refine r_goto 8 dX10_hearsFrom_44 (by decide) ?_
          have h := ih (i + 1) (by omega)
          unfold cnF lsF at h
          first | (rw [show g i = false by rw [hgq, h22]; rfl] at h; exact h) | (rw [show g i = false by rw [hgq, h22, h32]; rfl] at h; exact h) | (rw [show g i = true by rw [hgq, h22, h32]; rfl] at h; exact h)
        · refine r_aload_n 0 dX10_hearsFrom_25 rfl rfl ?_
          refine r_iload_n 1 dX10_hearsFrom_26 rfl rfl ?_
          refine r_iload 4 dX10_hearsFrom_27 rfl ?_
          refine r_callVp [_, _] dX10_hearsFrom_29 ok_RX10_91 ivX10_areNear (by assumption) ⟨_, _, rfl⟩ rfl rfl (Nat.le_of_ble_eq_true rfl) (by refine ⟨?_, ?_, ?_, ?_⟩ <;> exact Nat.le_of_ble_eq_true rfl) (m_areNear hL hN hs (by omega)) ?_
          refine r_ifB_eq 41 dX10_hearsFrom_32 (by decide) (fun h32 => ?_) (fun h32 => ?_)
          · refine r_iincN 4 (b := 1) (ls2 := [_, _, _, _, _]) dX10_hearsFrom_41 rfl (by decide) (by decide) rfl ?_
            refine r_goto 8 dX10_hearsFrom_44 (by decide) ?_
            have h := ih (i + 1) (by omega)
            unfold cnF lsF at h
            first | (rw [show g i = false by rw [hgq, h22]; rfl] at h; exact h) | (rw [show g i = false by rw [hgq, h22, h32]; rfl] at h; exact h) | (rw [show g i = true by rw [hgq, h22, h32]; rfl] at h; exact h)
          · refine r_iload 4 dX10_hearsFrom_35 rfl ?_
            refine r_istore_n 3 (ls2 := [_, _, _, _, _]) dX10_hearsFrom_37 rfl (by decide) (Nat.le_of_ble_eq_true rfl) rfl ?_
            refine r_iincN 2 (b := 1) (ls2 := [_, _, _, _, _]) dX10_hearsFrom_38 rfl (by decide) (by decide) rfl ?_
            refine r_iincN 4 (b := 1) (ls2 := [_, _, _, _, _]) dX10_hearsFrom_41 rfl (by decide) (by decide) rfl ?_
            refine r_goto 8 dX10_hearsFrom_44 (by decide) ?_
            have h := ih (i + 1) (by omega)
            unfold cnF lsF at h
            first | (rw [show g i = false by rw [hgq, h22]; rfl] at h; exact h) | (rw [show g i = false by rw [hgq, h22, h32]; rfl] at h; exact h) | (rw [show g i = true by rw [hgq, h22, h32]; rfl] at h; exact h)
  refine Mv.of pnX10_hearsFrom (Nat.le_of_ble_eq_true rfl) rfl ?_
  refine r_iconst (v := nI 0) dX10_hearsFrom_0 (by decide) ?_
  refine r_istore_n 2 (ls2 := [_, _, _]) dX10_hearsFrom_1 rfl (by decide) (Nat.le_of_ble_eq_true rfl) rfl ?_
  refine r_bipush (v := -6) dX10_hearsFrom_2 (by decide) ?_
  refine r_istore_n 3 (ls2 := [_, _, _, _]) dX10_hearsFrom_4 rfl (by decide) (Nat.le_of_ble_eq_true rfl) rfl ?_
  refine r_iconst (v := nI 0) dX10_hearsFrom_5 (by decide) ?_
  refine r_istore 4 (ls2 := [_, _, _, _, _]) dX10_hearsFrom_6 (by decide) (Nat.le_of_ble_eq_true rfl) rfl ?_
  exact H 6 0 rfl
end RSEND
