section PACKET
variable {z : Nat} {sh : SH} {mi : MI} {mr : MR} {a : Nat}
theorem c_isPlace (hL : LPk sh mr a) {n i : Nat} (hn : mi a 1 = nI n) (h8 : n ≤ 8) (hi : i < 2 ^ 31) : Mp mX4_isPlace 0 [.ref a, .int (nI i)] z sh mi mr (b2 (decide (i < n))) := by
  obtain ⟨l0, l1, l2⟩ := hL
  refine Mv.of pnX4_isPlace (Nat.le_of_ble_eq_true rfl) rfl ?_
  refine r_iload_n 1 dX4_isPlace_0 rfl rfl ?_
  refine r_ifN_lt 16 dX4_isPlace_1 (by decide) (by omega) ?_
  refine r_iload_n 1 dX4_isPlace_4 rfl rfl ?_
  refine r_aload_n 0 dX4_isPlace_5 rfl rfl ?_
  refine r_getV dX4_isPlace_6 fl_RX4_21 rfl (by assumption) (by first | assumption | exact up2_same _ _ _ _ | exact (Eq.trans (up2_ne _ _ (by omega)) (by first | assumption | exact up2_same _ _ _ _)) | exact (Eq.trans (up2_ne _ _ (by omega)) (Eq.trans (up2_ne _ _ (by omega)) (by first | assumption | exact up2_same _ _ _ _))) | exact (Eq.trans (up2_ne _ _ (by omega)) (Eq.trans (up2_ne _ _ (by omega)) (Eq.trans (up2_ne _ _ (by omega)) (by first | assumption | exact up2_same _ _ _ _)))) | exact (Eq.trans (up2_ne _ _ (by omega)) (Eq.trans (up2_ne _ _ (by omega)) (Eq.trans (up2_ne _ _ (by omega)) (Eq.trans (up2_ne _ _ (by omega)) (by first | assumption | exact up2_same _ _ _ _))))) | rfl) ?_
  refine r_icmpN_ge 16 dX4_isPlace_9 (by decide) (by omega) (by omega) (fun h9 => ?_) (fun h9 => ?_)
  · refine r_iconst (v := nI 0) dX4_isPlace_16 (by decide) ?_
    refine r_zret dX4_isPlace_17 rfl (by first | exact b2_nar _ | decide) (Nat.le_of_ble_eq_true rfl) (Nat.le_of_ble_eq_true rfl) ?_
    refine ⟨rfl, rfl, rfl, ?_, rfl⟩
    first | (rw [show decide (i < n) = false by simp; omega]; rfl) | (rw [show decide (i < n) = true by simp; omega]; rfl)
  · refine r_iconst (v := nI 1) dX4_isPlace_12 (by decide) ?_
    refine r_goto 17 dX4_isPlace_13 (by decide) ?_
    refine r_zret dX4_isPlace_17 rfl (by first | exact b2_nar _ | decide) (Nat.le_of_ble_eq_true rfl) (Nat.le_of_ble_eq_true rfl) ?_
    refine ⟨rfl, rfl, rfl, ?_, rfl⟩
    first | (rw [show decide (i < n) = false by simp; omega]; rfl) | (rw [show decide (i < n) = true by simp; omega]; rfl)
theorem c_nameAt (hL : LPk sh mr a) {n i v : Nat} (hn : mi a 1 = nI n) (h8 : n ≤ 8) (hi : i < n) (hv : mi (a + 1) i = nI v) (hv2 : v < 2 ^ 31) : Mp mX4_nameAt 1 [.ref a, .int (nI i)] z sh mi mr (nI (v / 16)) := by
  obtain ⟨l0, l1, l2⟩ := id hL
  refine Mv.of pnX4_nameAt (Nat.le_of_ble_eq_true rfl) rfl ?_
  refine r_aload_n 0 dX4_nameAt_0 rfl rfl ?_
  refine r_iload_n 1 dX4_nameAt_1 rfl rfl ?_
  refine r_callVp [_] dX4_nameAt_2 ok_RX4_31 ivX4_isPlace (by assumption) ⟨_, _, rfl⟩ rfl rfl (Nat.le_of_ble_eq_true rfl) (by refine ⟨?_, ?_, ?_, ?_⟩ <;> exact Nat.le_of_ble_eq_true rfl) (c_isPlace hL hn h8 (by omega)) ?_
  refine r_ifB_eq 19 dX4_nameAt_5 (by decide) (fun h5 => ?_) (fun h5 => ?_)
  · simp at h5
    omega
  · refine r_aload_n 0 dX4_nameAt_8 rfl rfl ?_
    refine r_getR dX4_nameAt_9 fl_RX4_9 rfl (by assumption) (by assumption) ?_
    refine r_iload_n 1 dX4_nameAt_12 rfl rfl ?_
    refine r_ialdV dX4_nameAt_13 (by assumption) (by omega) (by omega) (by first | assumption | exact up2_same _ _ _ _ | exact (Eq.trans (up2_ne _ _ (by omega)) (by first | assumption | exact up2_same _ _ _ _)) | exact (Eq.trans (up2_ne _ _ (by omega)) (Eq.trans (up2_ne _ _ (by omega)) (by first | assumption | exact up2_same _ _ _ _))) | exact (Eq.trans (up2_ne _ _ (by omega)) (Eq.trans (up2_ne _ _ (by omega)) (Eq.trans (up2_ne _ _ (by omega)) (by first | assumption | exact up2_same _ _ _ _)))) | exact (Eq.trans (up2_ne _ _ (by omega)) (Eq.trans (up2_ne _ _ (by omega)) (Eq.trans (up2_ne _ _ (by omega)) (Eq.trans (up2_ne _ _ (by omega)) (by first | assumption | exact up2_same _ _ _ _))))) | rfl) ?_
    refine r_iconst (v := nI 4) dX4_nameAt_14 (by decide) ?_
    refine r_ishrN dX4_nameAt_15 (by omega) (by omega) ?_
    refine r_goto 20 dX4_nameAt_16 (by decide) ?_
    refine r_iret dX4_nameAt_20 rfl (Nat.le_of_ble_eq_true rfl) (Nat.le_of_ble_eq_true rfl) ?_
    exact ⟨rfl, rfl, rfl, rfl, rfl⟩
theorem c_hopsAt (hL : LPk sh mr a) {n i v : Nat} (hn : mi a 1 = nI n) (h8 : n ≤ 8) (hi : i < n) (hv : mi (a + 1) i = nI v) (hv2 : v < 2 ^ 31) : Mp mX4_hopsAt 1 [.ref a, .int (nI i)] z sh mi mr (nI (v / 2 % 8)) := by
  obtain ⟨l0, l1, l2⟩ := id hL
  refine Mv.of pnX4_hopsAt (Nat.le_of_ble_eq_true rfl) rfl ?_
  refine r_aload_n 0 dX4_hopsAt_0 rfl rfl ?_
  refine r_iload_n 1 dX4_hopsAt_1 rfl rfl ?_
  refine r_callVp [_] dX4_hopsAt_2 ok_RX4_31 ivX4_isPlace (by assumption) ⟨_, _, rfl⟩ rfl rfl (Nat.le_of_ble_eq_true rfl) (by refine ⟨?_, ?_, ?_, ?_⟩ <;> exact Nat.le_of_ble_eq_true rfl) (c_isPlace hL hn h8 (by omega)) ?_
  refine r_ifB_eq 22 dX4_hopsAt_5 (by decide) (fun h5 => ?_) (fun h5 => ?_)
  · simp at h5
    omega
  · refine r_aload_n 0 dX4_hopsAt_8 rfl rfl ?_
    refine r_getR dX4_hopsAt_9 fl_RX4_9 rfl (by assumption) (by assumption) ?_
    refine r_iload_n 1 dX4_hopsAt_12 rfl rfl ?_
    refine r_ialdV dX4_hopsAt_13 (by assumption) (by omega) (by omega) (by first | assumption | exact up2_same _ _ _ _ | exact (Eq.trans (up2_ne _ _ (by omega)) (by first | assumption | exact up2_same _ _ _ _)) | exact (Eq.trans (up2_ne _ _ (by omega)) (Eq.trans (up2_ne _ _ (by omega)) (by first | assumption | exact up2_same _ _ _ _))) | exact (Eq.trans (up2_ne _ _ (by omega)) (Eq.trans (up2_ne _ _ (by omega)) (Eq.trans (up2_ne _ _ (by omega)) (by first | assumption | exact up2_same _ _ _ _)))) | exact (Eq.trans (up2_ne _ _ (by omega)) (Eq.trans (up2_ne _ _ (by omega)) (Eq.trans (up2_ne _ _ (by omega)) (Eq.trans (up2_ne _ _ (by omega)) (by first | assumption | exact up2_same _ _ _ _))))) | rfl) ?_
    refine r_iconst (v := nI 1) dX4_hopsAt_14 (by decide) ?_
    refine r_ishrN dX4_hopsAt_15 (by omega) (by omega) ?_
    refine r_bipush (v := nI 7) dX4_hopsAt_16 (by decide) ?_
    refine r_iandN dX4_hopsAt_18 ?_
    refine r_goto 23 dX4_hopsAt_19 (by decide) ?_
    refine r_iret dX4_hopsAt_23 rfl (Nat.le_of_ble_eq_true rfl) (Nat.le_of_ble_eq_true rfl) ?_
    refine ⟨rfl, rfl, rfl, ?_, rfl⟩
    rw [show (7 : Nat) = 2 ^ 3 - 1 from rfl, and_mod]
theorem c_isSpentAt (hL : LPk sh mr a) {n i v : Nat} (hn : mi a 1 = nI n) (h8 : n ≤ 8) (hi : i < n) (hv : mi (a + 1) i = nI v) (hv2 : v < 2 ^ 31) : Mp mX4_isSpentAt 1 [.ref a, .int (nI i)] z sh mi mr (b2 (decide (v % 2 = 1))) := by
  obtain ⟨l0, l1, l2⟩ := id hL
  have e1 : v &&& 1 = v % 2 := and_mod v 1
  refine Mv.of pnX4_isSpentAt (Nat.le_of_ble_eq_true rfl) rfl ?_
  refine r_aload_n 0 dX4_isSpentAt_0 rfl rfl ?_
  refine r_iload_n 1 dX4_isSpentAt_1 rfl rfl ?_
  refine r_callVp [_] dX4_isSpentAt_2 ok_RX4_31 ivX4_isPlace (by assumption) ⟨_, _, rfl⟩ rfl rfl (Nat.le_of_ble_eq_true rfl) (by refine ⟨?_, ?_, ?_, ?_⟩ <;> exact Nat.le_of_ble_eq_true rfl) (c_isPlace hL hn h8 (by omega)) ?_
  refine r_ifB_eq 23 dX4_isSpentAt_5 (by decide) (fun h5 => ?_) (fun h5 => ?_)
  · refine r_iconst (v := nI 0) dX4_isSpentAt_23 (by decide) ?_
    refine r_zret dX4_isSpentAt_24 rfl (by first | exact b2_nar _ | decide) (Nat.le_of_ble_eq_true rfl) (Nat.le_of_ble_eq_true rfl) ?_
    refine ⟨rfl, rfl, rfl, ?_, rfl⟩
    first | (simp at h5; omega) | (rw [show decide (v % 2 = 1) = false by simp; omega]; rfl) | (rw [show decide (v % 2 = 1) = true by simp; omega]; rfl)
  · refine r_aload_n 0 dX4_isSpentAt_8 rfl rfl ?_
    refine r_getR dX4_isSpentAt_9 fl_RX4_9 rfl (by assumption) (by assumption) ?_
    refine r_iload_n 1 dX4_isSpentAt_12 rfl rfl ?_
    refine r_ialdV dX4_isSpentAt_13 (by assumption) (by omega) (by omega) (by first | assumption | exact up2_same _ _ _ _ | exact (Eq.trans (up2_ne _ _ (by omega)) (by first | assumption | exact up2_same _ _ _ _)) | exact (Eq.trans (up2_ne _ _ (by omega)) (Eq.trans (up2_ne _ _ (by omega)) (by first | assumption | exact up2_same _ _ _ _))) | exact (Eq.trans (up2_ne _ _ (by omega)) (Eq.trans (up2_ne _ _ (by omega)) (Eq.trans (up2_ne _ _ (by omega)) (by first | assumption | exact up2_same _ _ _ _)))) | exact (Eq.trans (up2_ne _ _ (by omega)) (Eq.trans (up2_ne _ _ (by omega)) (Eq.trans (up2_ne _ _ (by omega)) (Eq.trans (up2_ne _ _ (by omega)) (by first | assumption | exact up2_same _ _ _ _))))) | rfl) ?_
    refine r_iconst (v := nI 1) dX4_isSpentAt_14 (by decide) ?_
    refine r_iandN dX4_isSpentAt_15 ?_
    rw [e1]
    refine r_ifN_eq 23 dX4_isSpentAt_16 (by decide) (by omega) (fun h16 => ?_) (fun h16 => ?_)
    · refine r_iconst (v := nI 0) dX4_isSpentAt_23 (by decide) ?_
      refine r_zret dX4_isSpentAt_24 rfl (by first | exact b2_nar _ | decide) (Nat.le_of_ble_eq_true rfl) (Nat.le_of_ble_eq_true rfl) ?_
      refine ⟨rfl, rfl, rfl, ?_, rfl⟩
      first | (simp at h5; omega) | (rw [show decide (v % 2 = 1) = false by simp; omega]; rfl) | (rw [show decide (v % 2 = 1) = true by simp; omega]; rfl)
    · refine r_iconst (v := nI 1) dX4_isSpentAt_19 (by decide) ?_
      refine r_goto 24 dX4_isSpentAt_20 (by decide) ?_
      refine r_zret dX4_isSpentAt_24 rfl (by first | exact b2_nar _ | decide) (Nat.le_of_ble_eq_true rfl) (Nat.le_of_ble_eq_true rfl) ?_
      refine ⟨rfl, rfl, rfl, ?_, rfl⟩
      first | (simp at h5; omega) | (rw [show decide (v % 2 = 1) = false by simp; omega]; rfl) | (rw [show decide (v % 2 = 1) = true by simp; omega]; rfl)
theorem c_firstUnspent (hL : LPk sh mr a) {p : Pk} (hP : PkC mi a p) (hok : okP p) : Mp mX4_firstUnspent 0 [.ref a] z sh mi mr (if unIx p.2.2 < p.2.2.length then nI (unIx p.2.2) else -6) := by
  obtain ⟨l0, l1, l2⟩ := id hL
  obtain ⟨p1, p2, p3, p4⟩ := id hP
  have h8 := hok.2.2.1
  have H : ∀ k i : Nat, i + k = p.2.2.length → (∀ j w, j < i → p.2.2[j]? = some w → w.2.2 = true) → Wp yX4_firstUnspent cX4_firstUnspent 2 (some .int) (EP 0 z sh mr mi (if unIx p.2.2 < p.2.2.length then nI (unIx p.2.2) else -6)) 0 0 2 [.ref a, .int (nI i)] [] z sh mi mr := by
    intro k
    induction k with
    | zero =>
      intro i hi hb
      have hno : unIx p.2.2 = p.2.2.length := fi_no (fun j w hj => by simp [hb j w (by have := gl_lt hj; omega) hj])
      refine r_iload_n 1 dX4_firstUnspent_2 rfl rfl ?_
      refine r_aload_n 0 dX4_firstUnspent_3 rfl rfl ?_
      refine r_getV dX4_firstUnspent_4 fl_RX4_21 rfl (by assumption) (by first | assumption | exact up2_same _ _ _ _ | exact (Eq.trans (up2_ne _ _ (by omega)) (by first | assumption | exact up2_same _ _ _ _)) | exact (Eq.trans (up2_ne _ _ (by omega)) (Eq.trans (up2_ne _ _ (by omega)) (by first | assumption | exact up2_same _ _ _ _))) | exact (Eq.trans (up2_ne _ _ (by omega)) (Eq.trans (up2_ne _ _ (by omega)) (Eq.trans (up2_ne _ _ (by omega)) (by first | assumption | exact up2_same _ _ _ _)))) | exact (Eq.trans (up2_ne _ _ (by omega)) (Eq.trans (up2_ne _ _ (by omega)) (Eq.trans (up2_ne _ _ (by omega)) (Eq.trans (up2_ne _ _ (by omega)) (by first | assumption | exact up2_same _ _ _ _))))) | rfl) ?_
      refine r_icmpN_ge 29 dX4_firstUnspent_7 (by decide) (by omega) (by omega) (fun h7 => ?_) (fun h7 => ?_)
      · refine r_bipush (v := -6) dX4_firstUnspent_29 (by decide) ?_
        refine r_iret dX4_firstUnspent_31 rfl (Nat.le_of_ble_eq_true rfl) (Nat.le_of_ble_eq_true rfl) ?_
        refine ⟨rfl, rfl, rfl, ?_, rfl⟩
        rw [hno, if_neg (Nat.lt_irrefl _)]
      · omega
    | succ k ih =>
      intro i hi hb
      obtain ⟨w, hw⟩ := gl_ex (l := p.2.2) (i := i) (by omega)
      have hv := p4 i w hw
      have hlt := wc_lt (hok.2.2.2 w (gl_mem hw))
      refine r_iload_n 1 dX4_firstUnspent_2 rfl rfl ?_
      refine r_aload_n 0 dX4_firstUnspent_3 rfl rfl ?_
      refine r_getV dX4_firstUnspent_4 fl_RX4_21 rfl (by assumption) (by first | assumption | exact up2_same _ _ _ _ | exact (Eq.trans (up2_ne _ _ (by omega)) (by first | assumption | exact up2_same _ _ _ _)) | exact (Eq.trans (up2_ne _ _ (by omega)) (Eq.trans (up2_ne _ _ (by omega)) (by first | assumption | exact up2_same _ _ _ _))) | exact (Eq.trans (up2_ne _ _ (by omega)) (Eq.trans (up2_ne _ _ (by omega)) (Eq.trans (up2_ne _ _ (by omega)) (by first | assumption | exact up2_same _ _ _ _)))) | exact (Eq.trans (up2_ne _ _ (by omega)) (Eq.trans (up2_ne _ _ (by omega)) (Eq.trans (up2_ne _ _ (by omega)) (Eq.trans (up2_ne _ _ (by omega)) (by first | assumption | exact up2_same _ _ _ _))))) | rfl) ?_
      refine r_icmpN_ge 29 dX4_firstUnspent_7 (by decide) (by omega) (by omega) (fun h7 => ?_) (fun h7 => ?_)
      · omega
      · refine r_aload_n 0 dX4_firstUnspent_10 rfl rfl ?_
        refine r_getR dX4_firstUnspent_11 fl_RX4_9 rfl (by assumption) (by assumption) ?_
        refine r_iload_n 1 dX4_firstUnspent_14 rfl rfl ?_
        refine r_ialdV dX4_firstUnspent_15 (by assumption) (by omega) (by omega) (by first | assumption | exact up2_same _ _ _ _ | exact (Eq.trans (up2_ne _ _ (by omega)) (by first | assumption | exact up2_same _ _ _ _)) | exact (Eq.trans (up2_ne _ _ (by omega)) (Eq.trans (up2_ne _ _ (by omega)) (by first | assumption | exact up2_same _ _ _ _))) | exact (Eq.trans (up2_ne _ _ (by omega)) (Eq.trans (up2_ne _ _ (by omega)) (Eq.trans (up2_ne _ _ (by omega)) (by first | assumption | exact up2_same _ _ _ _)))) | exact (Eq.trans (up2_ne _ _ (by omega)) (Eq.trans (up2_ne _ _ (by omega)) (Eq.trans (up2_ne _ _ (by omega)) (Eq.trans (up2_ne _ _ (by omega)) (by first | assumption | exact up2_same _ _ _ _))))) | rfl) ?_
        refine r_iconst (v := nI 1) dX4_firstUnspent_16 (by decide) ?_
        refine r_iandN dX4_firstUnspent_17 ?_
        rw [wc_and1]
        have hb1 := bn_le w.2.2
        refine r_ifN_ne 23 dX4_firstUnspent_18 (by decide) (by omega) (fun h18 => ?_) (fun h18 => ?_)
        · refine r_iincN 1 (b := 1) (ls2 := [_, _]) dX4_firstUnspent_23 rfl (by decide) (by decide) rfl ?_
          refine r_goto 2 dX4_firstUnspent_26 (by decide) ?_
          refine ih (i + 1) (by omega) (fun j w' hj hw' => ?_)
          rcases Nat.lt_or_ge j i with q | q
          · exact hb j w' q hw'
          · have : j = i := by omega
            subst this
            rw [hw] at hw'
            cases hw'
            exact (bn_ne _).mp h18
        · refine r_iload_n 1 dX4_firstUnspent_21 rfl rfl ?_
          refine r_iret dX4_firstUnspent_22 rfl (Nat.le_of_ble_eq_true rfl) (Nat.le_of_ble_eq_true rfl) ?_
          refine ⟨rfl, rfl, rfl, ?_, rfl⟩
          have hu : unIx p.2.2 = i := fi_at hw (by simp [(bn_eq _).mp h18]) (fun j w' hj hw' => by simp [hb j w' hj hw'])
          rw [hu, if_pos (by omega)]
  refine Mv.of pnX4_firstUnspent (Nat.le_of_ble_eq_true rfl) rfl ?_
  refine r_iconst (v := nI 0) dX4_firstUnspent_0 (by decide) ?_
  refine r_istore_n 1 (ls2 := [_, _]) dX4_firstUnspent_1 rfl (by decide) (Nat.le_of_ble_eq_true rfl) rfl ?_
  exact H p.2.2.length 0 (by omega) (fun j w hj => by omega)
theorem c_spentWords (hL : LPk sh mr a) {p : Pk} (hP : PkC mi a p) (hok : okP p) : Mp mX4_spentWords 0 [.ref a] z sh mi mr (nI (p.2.2.countP (fun w => w.2.2))) := by
  obtain ⟨l0, l1, l2⟩ := id hL
  obtain ⟨p1, p2, p3, p4⟩ := id hP
  have h8 := hok.2.2.1
  have H : ∀ k i c : Nat, i + k = p.2.2.length → c = (p.2.2.take i).countP (fun w => w.2.2) → Wp yX4_spentWords cX4_spentWords 3 (some .int) (EP 0 z sh mr mi (nI (p.2.2.countP (fun w => w.2.2)))) 0 0 4 [.ref a, .int (nI c), .int (nI i)] [] z sh mi mr := by
    intro k
    induction k with
    | zero =>
      intro i c hi hc
      refine r_iload_n 2 dX4_spentWords_4 rfl rfl ?_
      refine r_aload_n 0 dX4_spentWords_5 rfl rfl ?_
      refine r_getV dX4_spentWords_6 fl_RX4_21 rfl (by assumption) (by first | assumption | exact up2_same _ _ _ _ | exact (Eq.trans (up2_ne _ _ (by omega)) (by first | assumption | exact up2_same _ _ _ _)) | exact (Eq.trans (up2_ne _ _ (by omega)) (Eq.trans (up2_ne _ _ (by omega)) (by first | assumption | exact up2_same _ _ _ _))) | exact (Eq.trans (up2_ne _ _ (by omega)) (Eq.trans (up2_ne _ _ (by omega)) (Eq.trans (up2_ne _ _ (by omega)) (by first | assumption | exact up2_same _ _ _ _)))) | exact (Eq.trans (up2_ne _ _ (by omega)) (Eq.trans (up2_ne _ _ (by omega)) (Eq.trans (up2_ne _ _ (by omega)) (Eq.trans (up2_ne _ _ (by omega)) (by first | assumption | exact up2_same _ _ _ _))))) | rfl) ?_
      refine r_icmpN_ge 29 dX4_spentWords_9 (by decide) (by omega) (by omega) (fun h9 => ?_) (fun h9 => ?_)
      · refine r_iload_n 1 dX4_spentWords_29 rfl rfl ?_
        refine r_iret dX4_spentWords_30 rfl (Nat.le_of_ble_eq_true rfl) (Nat.le_of_ble_eq_true rfl) ?_
        refine ⟨rfl, rfl, rfl, ?_, rfl⟩
        rw [hc, List.take_of_length_le (by omega)]
      · omega
    | succ k ih =>
      intro i c hi hc
      obtain ⟨w, hw⟩ := gl_ex (l := p.2.2) (i := i) (by omega)
      have hv := p4 i w hw
      have hlt := wc_lt (hok.2.2.2 w (gl_mem hw))
      refine r_iload_n 2 dX4_spentWords_4 rfl rfl ?_
      refine r_aload_n 0 dX4_spentWords_5 rfl rfl ?_
      refine r_getV dX4_spentWords_6 fl_RX4_21 rfl (by assumption) (by first | assumption | exact up2_same _ _ _ _ | exact (Eq.trans (up2_ne _ _ (by omega)) (by first | assumption | exact up2_same _ _ _ _)) | exact (Eq.trans (up2_ne _ _ (by omega)) (Eq.trans (up2_ne _ _ (by omega)) (by first | assumption | exact up2_same _ _ _ _))) | exact (Eq.trans (up2_ne _ _ (by omega)) (Eq.trans (up2_ne _ _ (by omega)) (Eq.trans (up2_ne _ _ (by omega)) (by first | assumption | exact up2_same _ _ _ _)))) | exact (Eq.trans (up2_ne _ _ (by omega)) (Eq.trans (up2_ne _ _ (by omega)) (Eq.trans (up2_ne _ _ (by omega)) (Eq.trans (up2_ne _ _ (by omega)) (by first | assumption | exact up2_same _ _ _ _))))) | rfl) ?_
      refine r_icmpN_ge 29 dX4_spentWords_9 (by decide) (by omega) (by omega) (fun h9 => ?_) (fun h9 => ?_)
      · omega
      · refine r_iload_n 1 dX4_spentWords_12 rfl rfl ?_
        refine r_aload_n 0 dX4_spentWords_13 rfl rfl ?_
        refine r_getR dX4_spentWords_14 fl_RX4_9 rfl (by assumption) (by assumption) ?_
        refine r_iload_n 2 dX4_spentWords_17 rfl rfl ?_
        refine r_ialdV dX4_spentWords_18 (by assumption) (by omega) (by omega) (by first | assumption | exact up2_same _ _ _ _ | exact (Eq.trans (up2_ne _ _ (by omega)) (by first | assumption | exact up2_same _ _ _ _)) | exact (Eq.trans (up2_ne _ _ (by omega)) (Eq.trans (up2_ne _ _ (by omega)) (by first | assumption | exact up2_same _ _ _ _))) | exact (Eq.trans (up2_ne _ _ (by omega)) (Eq.trans (up2_ne _ _ (by omega)) (Eq.trans (up2_ne _ _ (by omega)) (by first | assumption | exact up2_same _ _ _ _)))) | exact (Eq.trans (up2_ne _ _ (by omega)) (Eq.trans (up2_ne _ _ (by omega)) (Eq.trans (up2_ne _ _ (by omega)) (Eq.trans (up2_ne _ _ (by omega)) (by first | assumption | exact up2_same _ _ _ _))))) | rfl) ?_
        refine r_iconst (v := nI 1) dX4_spentWords_19 (by decide) ?_
        refine r_iandN dX4_spentWords_20 ?_
        rw [wc_and1]
        refine r_iaddN dX4_spentWords_21 ?_
        refine r_istore_n 1 (ls2 := [_, _, _]) dX4_spentWords_22 rfl (by decide) (Nat.le_of_ble_eq_true rfl) rfl ?_
        refine r_iincN 2 (b := 1) (ls2 := [_, _, _]) dX4_spentWords_23 rfl (by decide) (by decide) rfl ?_
        refine r_goto 4 dX4_spentWords_26 (by decide) ?_
        refine ih (i + 1) _ (by omega) ?_
        rw [hc, List.take_succ, hw, List.countP_append]
        cases hwb : w.2.2 <;> simp [bn, hwb]
  refine Mv.of pnX4_spentWords (Nat.le_of_ble_eq_true rfl) rfl ?_
  refine r_iconst (v := nI 0) dX4_spentWords_0 (by decide) ?_
  refine r_istore_n 1 (ls2 := [_, _]) dX4_spentWords_1 rfl (by decide) (Nat.le_of_ble_eq_true rfl) rfl ?_
  refine r_iconst (v := nI 0) dX4_spentWords_2 (by decide) ?_
  refine r_istore_n 2 (ls2 := [_, _, _]) dX4_spentWords_3 rfl (by decide) (Nat.le_of_ble_eq_true rfl) rfl ?_
  exact H p.2.2.length 0 0 (by omega) (by simp)
def spQ (ws : List Wd) (x : Int32) (j : Nat) : Bool := match ws[j]? with
  | some w => w.2.2 && (nI ((ws.take j).countP (fun w => w.2.2)) == x)
  | none => false
def spF (ws : List Wd) (x : Int32) : Option Nat := (List.range ws.length).find? (spQ ws x)
theorem fr_at {q : Nat → Bool} {n i : Nat} (hi : i < n) (h : q i = true) (hb : ∀ j, j < i → q j = false) : (List.range n).find? q = some i := by
  rw [List.find?_range_eq_some]
  exact ⟨h, List.mem_range.mpr hi, fun j hj => by simp [hb j hj]⟩
theorem fr_no {q : Nat → Bool} {n : Nat} (hb : ∀ j, j < n → q j = false) : (List.range n).find? q = none := by
  rw [List.find?_eq_none]
  intro j hj
  simp [hb j (List.mem_range.mp hj)]
theorem c_placeOfSpent (hL : LPk sh mr a) {p : Pk} (hP : PkC mi a p) (hok : okP p) (x : Int32) : Mp mX4_placeOfSpent 0 [.ref a, .int x] z sh mi mr (match spF p.2.2 x with | some j => nI j | none => -6) := by
  obtain ⟨l0, l1, l2⟩ := id hL
  obtain ⟨p1, p2, p3, p4⟩ := id hP
  have h8 := hok.2.2.1
  have H : ∀ k i c : Nat, i + k = p.2.2.length → c = (p.2.2.take i).countP (fun w => w.2.2) → (∀ j, j < i → spQ p.2.2 x j = false) → Wp yX4_placeOfSpent cX4_placeOfSpent 4 (some .int) (EP 0 z sh mr mi (match spF p.2.2 x with | some j => nI j | none => -6)) 0 0 4 [.ref a, .int x, .int (nI c), .int (nI i)] [] z sh mi mr := by
    intro k
    induction k with
    | zero =>
      intro i c hi hc hb
      refine r_iload_n 3 dX4_placeOfSpent_4 rfl rfl ?_
      refine r_aload_n 0 dX4_placeOfSpent_5 rfl rfl ?_
      refine r_getV dX4_placeOfSpent_6 fl_RX4_21 rfl (by assumption) (by first | assumption | exact up2_same _ _ _ _ | exact (Eq.trans (up2_ne _ _ (by omega)) (by first | assumption | exact up2_same _ _ _ _)) | exact (Eq.trans (up2_ne _ _ (by omega)) (Eq.trans (up2_ne _ _ (by omega)) (by first | assumption | exact up2_same _ _ _ _))) | exact (Eq.trans (up2_ne _ _ (by omega)) (Eq.trans (up2_ne _ _ (by omega)) (Eq.trans (up2_ne _ _ (by omega)) (by first | assumption | exact up2_same _ _ _ _)))) | exact (Eq.trans (up2_ne _ _ (by omega)) (Eq.trans (up2_ne _ _ (by omega)) (Eq.trans (up2_ne _ _ (by omega)) (Eq.trans (up2_ne _ _ (by omega)) (by first | assumption | exact up2_same _ _ _ _))))) | rfl) ?_
      refine r_icmpN_ge 39 dX4_placeOfSpent_9 (by decide) (by omega) (by omega) (fun h9 => ?_) (fun h9 => ?_)
      · refine r_bipush (v := -6) dX4_placeOfSpent_39 (by decide) ?_
        refine r_iret dX4_placeOfSpent_41 rfl (Nat.le_of_ble_eq_true rfl) (Nat.le_of_ble_eq_true rfl) ?_
        refine ⟨rfl, rfl, rfl, ?_, rfl⟩
        rw [show spF p.2.2 x = none from fr_no (fun j hj => hb j (by omega))]
      · omega
    | succ k ih =>
      intro i c hi hc hb
      obtain ⟨w, hw⟩ := gl_ex (l := p.2.2) (i := i) (by omega)
      have hv := p4 i w hw
      have hlt := wc_lt (hok.2.2.2 w (gl_mem hw))
      have hbn := bn_le w.2.2
      have ext : spQ p.2.2 x i = false → ∀ j, j < i + 1 → spQ p.2.2 x j = false := fun h j hj => by
        rcases Nat.lt_or_ge j i with q | q
        · exact hb j q
        · rw [show j = i by omega]; exact h
      refine r_iload_n 3 dX4_placeOfSpent_4 rfl rfl ?_
      refine r_aload_n 0 dX4_placeOfSpent_5 rfl rfl ?_
      refine r_getV dX4_placeOfSpent_6 fl_RX4_21 rfl (by assumption) (by first | assumption | exact up2_same _ _ _ _ | exact (Eq.trans (up2_ne _ _ (by omega)) (by first | assumption | exact up2_same _ _ _ _)) | exact (Eq.trans (up2_ne _ _ (by omega)) (Eq.trans (up2_ne _ _ (by omega)) (by first | assumption | exact up2_same _ _ _ _))) | exact (Eq.trans (up2_ne _ _ (by omega)) (Eq.trans (up2_ne _ _ (by omega)) (Eq.trans (up2_ne _ _ (by omega)) (by first | assumption | exact up2_same _ _ _ _)))) | exact (Eq.trans (up2_ne _ _ (by omega)) (Eq.trans (up2_ne _ _ (by omega)) (Eq.trans (up2_ne _ _ (by omega)) (Eq.trans (up2_ne _ _ (by omega)) (by first | assumption | exact up2_same _ _ _ _))))) | rfl) ?_
      refine r_icmpN_ge 39 dX4_placeOfSpent_9 (by decide) (by omega) (by omega) (fun h9 => ?_) (fun h9 => ?_)
      · omega
      · refine r_aload_n 0 dX4_placeOfSpent_12 rfl rfl ?_
        refine r_getR dX4_placeOfSpent_13 fl_RX4_9 rfl (by assumption) (by assumption) ?_
        refine r_iload_n 3 dX4_placeOfSpent_16 rfl rfl ?_
        refine r_ialdV dX4_placeOfSpent_17 (by assumption) (by omega) (by omega) (by first | assumption | exact up2_same _ _ _ _ | exact (Eq.trans (up2_ne _ _ (by omega)) (by first | assumption | exact up2_same _ _ _ _)) | exact (Eq.trans (up2_ne _ _ (by omega)) (Eq.trans (up2_ne _ _ (by omega)) (by first | assumption | exact up2_same _ _ _ _))) | exact (Eq.trans (up2_ne _ _ (by omega)) (Eq.trans (up2_ne _ _ (by omega)) (Eq.trans (up2_ne _ _ (by omega)) (by first | assumption | exact up2_same _ _ _ _)))) | exact (Eq.trans (up2_ne _ _ (by omega)) (Eq.trans (up2_ne _ _ (by omega)) (Eq.trans (up2_ne _ _ (by omega)) (Eq.trans (up2_ne _ _ (by omega)) (by first | assumption | exact up2_same _ _ _ _))))) | rfl) ?_
        refine r_iconst (v := nI 1) dX4_placeOfSpent_18 (by decide) ?_
        refine r_iandN dX4_placeOfSpent_19 ?_
        rw [wc_and1]
        refine r_ifN_eq 33 dX4_placeOfSpent_20 (by decide) (by omega) (fun h20 => ?_) (fun h20 => ?_)
        · refine r_iincN 3 (b := 1) (ls2 := [_, _, _, _]) dX4_placeOfSpent_33 rfl (by decide) (by decide) rfl ?_
          refine r_goto 4 dX4_placeOfSpent_36 (by decide) ?_
          refine ih (i + 1) _ (by omega) ?_ (ext ?_)
          · rw [hc, List.take_succ, hw, List.countP_append]
            first | simp [(bn_eq _).mp h20] | simp [(bn_ne _).mp h20]
          · first | simp [spQ, hw, (bn_eq _).mp h20] | simp [spQ, hw, (bn_ne _).mp h20, ← hc, h25]
        · refine r_iload_n 2 dX4_placeOfSpent_23 rfl rfl ?_
          refine r_iload_n 1 dX4_placeOfSpent_24 rfl rfl ?_
          refine r_icmp_ne 30 dX4_placeOfSpent_25 (by decide) (fun h25 => ?_) (fun h25 => ?_)
          · refine r_iincN 2 (b := 1) (ls2 := [_, _, _, _]) dX4_placeOfSpent_30 rfl (by decide) (by decide) rfl ?_
            refine r_iincN 3 (b := 1) (ls2 := [_, _, _, _]) dX4_placeOfSpent_33 rfl (by decide) (by decide) rfl ?_
            refine r_goto 4 dX4_placeOfSpent_36 (by decide) ?_
            refine ih (i + 1) _ (by omega) ?_ (ext ?_)
            · rw [hc, List.take_succ, hw, List.countP_append]
              first | simp [(bn_eq _).mp h20] | simp [(bn_ne _).mp h20]
            · first | simp [spQ, hw, (bn_eq _).mp h20] | simp [spQ, hw, (bn_ne _).mp h20, ← hc, h25]
          · refine r_iload_n 3 dX4_placeOfSpent_28 rfl rfl ?_
            refine r_iret dX4_placeOfSpent_29 rfl (Nat.le_of_ble_eq_true rfl) (Nat.le_of_ble_eq_true rfl) ?_
            refine ⟨rfl, rfl, rfl, ?_, rfl⟩
            rw [show spF p.2.2 x = some i from fr_at (by omega) (by simp [spQ, hw, (bn_ne _).mp h20, ← hc, h25]) hb]
  refine Mv.of pnX4_placeOfSpent (Nat.le_of_ble_eq_true rfl) rfl ?_
  refine r_iconst (v := nI 0) dX4_placeOfSpent_0 (by decide) ?_
  refine r_istore_n 2 (ls2 := [_, _, _]) dX4_placeOfSpent_1 rfl (by decide) (Nat.le_of_ble_eq_true rfl) rfl ?_
  refine r_iconst (v := nI 0) dX4_placeOfSpent_2 (by decide) ?_
  refine r_istore_n 3 (ls2 := [_, _, _, _]) dX4_placeOfSpent_3 rfl (by decide) (Nat.le_of_ble_eq_true rfl) rfl ?_
  exact H p.2.2.length 0 0 (by omega) (by simp) (fun j hj => by omega)
theorem c_wasSentBy (hL : LPk sh mr a) {p : Pk} (hP : PkC mi a p) (hok : okP p) {c : Nm} (hc : okL 3 c) : Mp mX4_wasSentBy 0 [.ref a, .int (nI (en 32 c))] z sh mi mr (b2 (ownP c p)) := by
  obtain ⟨l0, l1, l2⟩ := id hL
  obtain ⟨p1, p2, p3, p4⟩ := id hP
  have h8 := hok.2.2.1
  have c1 := okL_32 hc
  have c2 := okL_32 hok.1
  have H : p.1 ≠ c → ∀ k i : Nat, i + k = p.2.2.length → (∀ j w, j < i → p.2.2[j]? = some w → (w.2.2 && w.1 == c) = false) → Wp yX4_wasSentBy cX4_wasSentBy 4 (some .boolean) (EP 0 z sh mr mi (b2 (ownP c p))) 0 0 16 [.ref a, .int (nI (en 32 c)), .int (nI (en 32 c * 2 ^ 4)), .int (nI i)] [] z sh mi mr := by
    intro hne k
    induction k with
    | zero =>
      intro i hi hb
      have hno : ownP c p = false := by
        unfold ownP
        rw [Bool.or_eq_false_iff]
        refine ⟨by simpa using hne, ?_⟩
        rw [List.any_eq_false]
        intro w hw
        obtain ⟨j, hj⟩ := List.getElem?_of_mem hw
        simp [hb j w (by have := gl_lt hj; omega) hj]
      refine r_iload_n 3 dX4_wasSentBy_16 rfl rfl ?_
      refine r_aload_n 0 dX4_wasSentBy_17 rfl rfl ?_
      refine r_getV dX4_wasSentBy_18 fl_RX4_21 rfl (by assumption) (by first | assumption | exact up2_same _ _ _ _ | exact (Eq.trans (up2_ne _ _ (by omega)) (by first | assumption | exact up2_same _ _ _ _)) | exact (Eq.trans (up2_ne _ _ (by omega)) (Eq.trans (up2_ne _ _ (by omega)) (by first | assumption | exact up2_same _ _ _ _))) | exact (Eq.trans (up2_ne _ _ (by omega)) (Eq.trans (up2_ne _ _ (by omega)) (Eq.trans (up2_ne _ _ (by omega)) (by first | assumption | exact up2_same _ _ _ _)))) | exact (Eq.trans (up2_ne _ _ (by omega)) (Eq.trans (up2_ne _ _ (by omega)) (Eq.trans (up2_ne _ _ (by omega)) (Eq.trans (up2_ne _ _ (by omega)) (by first | assumption | exact up2_same _ _ _ _))))) | rfl) ?_
      refine r_icmpN_ge 56 dX4_wasSentBy_21 (by decide) (by omega) (by omega) (fun h21 => ?_) (fun h21 => ?_)
      · refine r_iconst (v := nI 0) dX4_wasSentBy_56 (by decide) ?_
        refine r_zret dX4_wasSentBy_57 rfl (by first | exact b2_nar _ | decide) (Nat.le_of_ble_eq_true rfl) (Nat.le_of_ble_eq_true rfl) ?_
        exact ⟨rfl, rfl, rfl, by rw [hno]; rfl, rfl⟩
      · omega
    | succ k ih =>
      intro i hi hb
      obtain ⟨w, hw⟩ := gl_ex (l := p.2.2) (i := i) (by omega)
      have hv := p4 i w hw
      have hwk := hok.2.2.2 w (gl_mem hw)
      have hlt := wc_lt hwk
      have hd := wc_div16 (b := 32) hwk.2
      have hwn := okL_32 hwk.1
      have hbn := bn_le w.2.2
      have ext : (w.2.2 && w.1 == c) = false → ∀ j w', j < i + 1 → p.2.2[j]? = some w' → (w'.2.2 && w'.1 == c) = false := fun h j w' hj hw' => by
        rcases Nat.lt_or_ge j i with q | q
        · exact hb j w' q hw'
        · rw [show j = i by omega, hw] at hw'
          cases hw'; exact h
      refine r_iload_n 3 dX4_wasSentBy_16 rfl rfl ?_
      refine r_aload_n 0 dX4_wasSentBy_17 rfl rfl ?_
      refine r_getV dX4_wasSentBy_18 fl_RX4_21 rfl (by assumption) (by first | assumption | exact up2_same _ _ _ _ | exact (Eq.trans (up2_ne _ _ (by omega)) (by first | assumption | exact up2_same _ _ _ _)) | exact (Eq.trans (up2_ne _ _ (by omega)) (Eq.trans (up2_ne _ _ (by omega)) (by first | assumption | exact up2_same _ _ _ _))) | exact (Eq.trans (up2_ne _ _ (by omega)) (Eq.trans (up2_ne _ _ (by omega)) (Eq.trans (up2_ne _ _ (by omega)) (by first | assumption | exact up2_same _ _ _ _)))) | exact (Eq.trans (up2_ne _ _ (by omega)) (Eq.trans (up2_ne _ _ (by omega)) (Eq.trans (up2_ne _ _ (by omega)) (Eq.trans (up2_ne _ _ (by omega)) (by first | assumption | exact up2_same _ _ _ _))))) | rfl) ?_
      refine r_icmpN_ge 56 dX4_wasSentBy_21 (by decide) (by omega) (by omega) (fun h21 => ?_) (fun h21 => ?_)
      · omega
      · refine r_aload_n 0 dX4_wasSentBy_24 rfl rfl ?_
        refine r_getR dX4_wasSentBy_25 fl_RX4_9 rfl (by assumption) (by assumption) ?_
        refine r_iload_n 3 dX4_wasSentBy_28 rfl rfl ?_
        refine r_ialdV dX4_wasSentBy_29 (by assumption) (by omega) (by omega) (by first | assumption | exact up2_same _ _ _ _ | exact (Eq.trans (up2_ne _ _ (by omega)) (by first | assumption | exact up2_same _ _ _ _)) | exact (Eq.trans (up2_ne _ _ (by omega)) (Eq.trans (up2_ne _ _ (by omega)) (by first | assumption | exact up2_same _ _ _ _))) | exact (Eq.trans (up2_ne _ _ (by omega)) (Eq.trans (up2_ne _ _ (by omega)) (Eq.trans (up2_ne _ _ (by omega)) (by first | assumption | exact up2_same _ _ _ _)))) | exact (Eq.trans (up2_ne _ _ (by omega)) (Eq.trans (up2_ne _ _ (by omega)) (Eq.trans (up2_ne _ _ (by omega)) (Eq.trans (up2_ne _ _ (by omega)) (by first | assumption | exact up2_same _ _ _ _))))) | rfl) ?_
        refine r_iconst (v := nI 1) dX4_wasSentBy_30 (by decide) ?_
        refine r_iandN dX4_wasSentBy_31 ?_
        rw [wc_and1]
        refine r_ifN_eq 50 dX4_wasSentBy_32 (by decide) (by omega) (fun h32 => ?_) (fun h32 => ?_)
        · refine r_iincN 3 (b := 1) (ls2 := [_, _, _, _]) dX4_wasSentBy_50 rfl (by decide) (by decide) rfl ?_
          refine r_goto 16 dX4_wasSentBy_53 (by decide) ?_
          refine ih (i + 1) (by omega) (ext ?_)
          first | simp [(bn_eq _).mp h32] | (have hcw : w.1 ≠ c := fun e => h45 (by rw [e]); simp [hcw])
        · refine r_aload_n 0 dX4_wasSentBy_35 rfl rfl ?_
          refine r_getR dX4_wasSentBy_36 fl_RX4_9 rfl (by assumption) (by assumption) ?_
          refine r_iload_n 3 dX4_wasSentBy_39 rfl rfl ?_
          refine r_ialdV dX4_wasSentBy_40 (by assumption) (by omega) (by omega) (by first | assumption | exact up2_same _ _ _ _ | exact (Eq.trans (up2_ne _ _ (by omega)) (by first | assumption | exact up2_same _ _ _ _)) | exact (Eq.trans (up2_ne _ _ (by omega)) (Eq.trans (up2_ne _ _ (by omega)) (by first | assumption | exact up2_same _ _ _ _))) | exact (Eq.trans (up2_ne _ _ (by omega)) (Eq.trans (up2_ne _ _ (by omega)) (Eq.trans (up2_ne _ _ (by omega)) (by first | assumption | exact up2_same _ _ _ _)))) | exact (Eq.trans (up2_ne _ _ (by omega)) (Eq.trans (up2_ne _ _ (by omega)) (Eq.trans (up2_ne _ _ (by omega)) (Eq.trans (up2_ne _ _ (by omega)) (by first | assumption | exact up2_same _ _ _ _))))) | rfl) ?_
          refine r_bipush (v := -16) dX4_wasSentBy_41 (by decide) ?_
          refine r_iand dX4_wasSentBy_43 ?_
          refine r_top (nI_m16 (by omega)) ?_
          refine r_iload_n 2 dX4_wasSentBy_44 rfl rfl ?_
          rw [hd]
          refine r_icmpN_ne 50 dX4_wasSentBy_45 (by decide) (by omega) (by omega) (fun h45 => ?_) (fun h45 => ?_)
          · refine r_iincN 3 (b := 1) (ls2 := [_, _, _, _]) dX4_wasSentBy_50 rfl (by decide) (by decide) rfl ?_
            refine r_goto 16 dX4_wasSentBy_53 (by decide) ?_
            refine ih (i + 1) (by omega) (ext ?_)
            first | simp [(bn_eq _).mp h32] | (have hcw : w.1 ≠ c := fun e => h45 (by rw [e]); simp [hcw])
          · have hcw : w.1 = c := (okL_inj (b := 32) hwk.1 hc (by omega)).mp (by omega)
            have hyes : ownP c p = true := by unfold ownP; rw [Bool.or_eq_true]; right; rw [List.any_eq_true]; exact ⟨w, gl_mem hw, by simp [(bn_ne _).mp h32, hcw]⟩
            refine r_iconst (v := nI 1) dX4_wasSentBy_48 (by decide) ?_
            refine r_zret dX4_wasSentBy_49 rfl (by decide) (Nat.le_refl _) (Nat.le_refl _) ?_
            exact ⟨rfl, rfl, rfl, by rw [hyes]; rfl, rfl⟩
  refine Mv.of pnX4_wasSentBy (Nat.le_of_ble_eq_true rfl) rfl ?_
  refine r_aload_n 0 dX4_wasSentBy_0 rfl rfl ?_
  refine r_getV dX4_wasSentBy_1 fl_RX4_25 rfl (by assumption) (by first | assumption | exact up2_same _ _ _ _ | exact (Eq.trans (up2_ne _ _ (by omega)) (by first | assumption | exact up2_same _ _ _ _)) | exact (Eq.trans (up2_ne _ _ (by omega)) (Eq.trans (up2_ne _ _ (by omega)) (by first | assumption | exact up2_same _ _ _ _))) | exact (Eq.trans (up2_ne _ _ (by omega)) (Eq.trans (up2_ne _ _ (by omega)) (Eq.trans (up2_ne _ _ (by omega)) (by first | assumption | exact up2_same _ _ _ _)))) | exact (Eq.trans (up2_ne _ _ (by omega)) (Eq.trans (up2_ne _ _ (by omega)) (Eq.trans (up2_ne _ _ (by omega)) (Eq.trans (up2_ne _ _ (by omega)) (by first | assumption | exact up2_same _ _ _ _))))) | rfl) ?_
  refine r_iload_n 1 dX4_wasSentBy_4 rfl rfl ?_
  refine r_icmpN_ne 10 dX4_wasSentBy_5 (by decide) (by omega) (by omega) (fun h5 => ?_) (fun h5 => ?_)
  · refine r_iload_n 1 dX4_wasSentBy_10 rfl rfl ?_
    refine r_iconst (v := nI 4) dX4_wasSentBy_11 (by decide) ?_
    refine r_ishlN dX4_wasSentBy_12 (by omega) (by omega) ?_
    refine r_istore_n 2 (ls2 := [_, _, _]) dX4_wasSentBy_13 rfl (by decide) (Nat.le_of_ble_eq_true rfl) rfl ?_
    refine r_iconst (v := nI 0) dX4_wasSentBy_14 (by decide) ?_
    refine r_istore_n 3 (ls2 := [_, _, _, _]) dX4_wasSentBy_15 rfl (by decide) (Nat.le_of_ble_eq_true rfl) rfl ?_
    exact H (fun e => h5 (by rw [e])) p.2.2.length 0 (by omega) (fun j w hj => by omega)
  · have hyes : ownP c p = true := by unfold ownP; rw [(okL_inj (b := 32) hok.1 hc (by omega)).mp h5]; simp
    refine r_iconst (v := nI 1) dX4_wasSentBy_8 (by decide) ?_
    refine r_zret dX4_wasSentBy_9 rfl (by decide) (Nat.le_refl _) (Nat.le_refl _) ?_
    exact ⟨rfl, rfl, rfl, by rw [hyes]; rfl, rfl⟩
/-- ints written alone, none elsewhere than in these rows -/
def Oth (mi mi' : MI) (lo hi : Nat) : Prop := ∀ x, (x < lo ∨ hi ≤ x) → mi' x = mi x
theorem c_clear (hL : LPk sh mr a) : Mi mX4_clear 0 [.ref a] z sh mi mr (fun v mi' => v = none ∧ mi' = up2 (up2 (up2 mi a 1 (nI 0)) a 2 (nI 0)) a 3 (nI 0)) := by
  obtain ⟨l0, l1, l2⟩ := id hL
  refine Mv.of pnX4_clear (Nat.le_of_ble_eq_true rfl) rfl ?_
  refine r_aload_n 0 dX4_clear_0 rfl rfl ?_
  refine r_iconst (v := nI 0) dX4_clear_1 (by decide) ?_
  refine r_putI dX4_clear_2 fl_RX4_21 rfl rfl rfl (by assumption) ?_
  refine r_aload_n 0 dX4_clear_5 rfl rfl ?_
  refine r_iconst (v := nI 0) dX4_clear_6 (by decide) ?_
  refine r_putI dX4_clear_7 fl_RX4_25 rfl rfl rfl (by assumption) ?_
  refine r_aload_n 0 dX4_clear_10 rfl rfl ?_
  refine r_iconst (v := nI 0) dX4_clear_11 (by decide) ?_
  refine r_putI dX4_clear_12 fl_RX4_28 rfl rfl rfl (by assumption) ?_
  refine r_vret dX4_clear_15 rfl (Nat.le_of_ble_eq_true rfl) (Nat.le_of_ble_eq_true rfl) ?_
  exact ⟨rfl, rfl, rfl, rfl, rfl⟩
theorem c_copyPk {b : Nat} (hL : LPk sh mr a) (hB : LPk sh mr b) : Mi mX4_copyFrom 1 [.ref a, .ref b] z sh mi mr (fun v mi' => v = none ∧ (∀ x, x ≠ a → x ≠ a + 1 → mi' x = mi x) ∧ mi' a 1 = mi b 1 ∧ mi' a 2 = mi b 2 ∧ mi' a 3 = mi b 3 ∧ ∀ j, j < 8 → mi' (a + 1) j = mi (b + 1) j) := by
  obtain ⟨l0, l1, l2⟩ := id hL
  obtain ⟨k0, k1, k2⟩ := id hB
  have n1 : a ≠ a + 1 := by omega
  have n2 : b ≠ a + 1 := fun e => by rw [e, l2] at k0; cases k0
  refine Mv.of pnX4_copyFrom (Nat.le_of_ble_eq_true rfl) rfl ?_
  refine r_aload_n 1 dX4_copyFrom_0 rfl rfl ?_
  refine r_getR dX4_copyFrom_1 fl_RX4_9 rfl (by assumption) (by assumption) ?_
  refine r_iconst (v := nI 0) dX4_copyFrom_4 (by decide) ?_
  refine r_aload_n 0 dX4_copyFrom_5 rfl rfl ?_
  refine r_getR dX4_copyFrom_6 fl_RX4_9 rfl (by assumption) (by assumption) ?_
  refine r_iconst (v := nI 0) dX4_copyFrom_9 (by decide) ?_
  refine r_bipush (v := nI 8) dX4_copyFrom_10 (by decide) ?_
  refine r_acopy dX4_copyFrom_12 ml_RX4_15 x_nat x_sta x_sys (by assumption) (by assumption) (by decide) ⟨(Nat.le_of_ble_eq_true rfl), (Nat.le_of_ble_eq_true rfl)⟩ ?_
  refine r_aload_n 0 dX4_copyFrom_15 rfl rfl ?_
  refine r_aload_n 1 dX4_copyFrom_16 rfl rfl ?_
  refine r_getV dX4_copyFrom_17 fl_RX4_21 rfl (by assumption) (by rfl) ?_
  refine r_putI dX4_copyFrom_20 fl_RX4_21 rfl rfl rfl (by assumption) ?_
  refine r_aload_n 0 dX4_copyFrom_23 rfl rfl ?_
  refine r_aload_n 1 dX4_copyFrom_24 rfl rfl ?_
  refine r_getV dX4_copyFrom_25 fl_RX4_25 rfl (by assumption) (by rfl) ?_
  refine r_putI dX4_copyFrom_28 fl_RX4_25 rfl rfl rfl (by assumption) ?_
  refine r_aload_n 0 dX4_copyFrom_31 rfl rfl ?_
  refine r_aload_n 1 dX4_copyFrom_32 rfl rfl ?_
  refine r_getV dX4_copyFrom_33 fl_RX4_28 rfl (by assumption) (by rfl) ?_
  refine r_putI dX4_copyFrom_36 fl_RX4_28 rfl rfl rfl (by assumption) ?_
  refine r_vret dX4_copyFrom_39 rfl (Nat.le_of_ble_eq_true rfl) (Nat.le_of_ble_eq_true rfl) ?_
  refine ⟨rfl, rfl, rfl, rfl, ?_⟩
  refine ⟨fun x h1 h2 => ?_, ?_, ?_, ?_, fun j hj => ?_⟩
  · simp [up2_row, cpRow, h1, h2]
  · simp [up2, cpRow, n1, n2]
  · simp [up2, cpRow, n1, n2]
  · simp [up2, cpRow, n1, n2]
  · simp [up2_row, cpRow, hj, Ne.symm n1]
theorem c_spend (hL : LPk sh mr a) {n i e : Nat} (hn : mi a 1 = nI n) (h8 : n ≤ 8) (hi : i < n) (he : e < 32768) : Mi mX4_spend 1 [.ref a, .int (nI i), .int (nI e)] z sh mi mr (fun v mi' => v = none ∧ mi' = up2 mi (a + 1) i (nI (16 * e + 1))) := by
  obtain ⟨l0, l1, l2⟩ := id hL
  refine Mv.of pnX4_spend (Nat.le_of_ble_eq_true rfl) rfl ?_
  refine r_aload_n 0 dX4_spend_0 rfl rfl ?_
  refine r_iload_n 1 dX4_spend_1 rfl rfl ?_
  refine r_callVp [_] dX4_spend_2 ok_RX4_31 ivX4_isPlace (by assumption) ⟨_, _, rfl⟩ rfl rfl (Nat.le_of_ble_eq_true rfl) (by refine ⟨?_, ?_, ?_, ?_⟩ <;> exact Nat.le_of_ble_eq_true rfl) (c_isPlace hL hn h8 (by omega)) ?_
  refine r_ifB_eq 19 dX4_spend_5 (by decide) (fun h5 => ?_) (fun h5 => ?_)
  · first | (exfalso; simp at h5; omega) | (refine r_vret dX4_spend_19 rfl (Nat.le_refl _) (Nat.le_refl _) ?_; refine ⟨rfl, rfl, rfl, rfl, ?_⟩; rw [or_low (by omega : (1 : Nat) < 2 ^ 4), Nat.mul_comm])
  · refine r_aload_n 0 dX4_spend_8 rfl rfl ?_
    refine r_getR dX4_spend_9 fl_RX4_9 rfl (by assumption) (by assumption) ?_
    refine r_iload_n 1 dX4_spend_12 rfl rfl ?_
    refine r_iload_n 2 dX4_spend_13 rfl rfl ?_
    refine r_iconst (v := nI 4) dX4_spend_14 (by decide) ?_
    refine r_ishlN dX4_spend_15 (by omega) (by omega) ?_
    refine r_iconst (v := nI 1) dX4_spend_16 (by decide) ?_
    refine r_iorN dX4_spend_17 ?_
    refine r_iast dX4_spend_18 (by assumption) (by omega) (by omega) ?_
    first | (exfalso; simp at h5; omega) | (refine r_vret dX4_spend_19 rfl (Nat.le_refl _) (Nat.le_refl _) ?_; refine ⟨rfl, rfl, rfl, rfl, ?_⟩; rw [or_low (by omega : (1 : Nat) < 2 ^ 4), Nat.mul_comm])
theorem c_setHops (hL : LPk sh mr a) {n i e v : Nat} (hn : mi a 1 = nI n) (h8 : n ≤ 8) (hi : i < n) (hv : mi (a + 1) i = nI v) (hv2 : v < 2 ^ 31) (he : e ≤ 7) : Mi mX4_setHops 1 [.ref a, .int (nI i), .int (nI e)] z sh mi mr (fun r mi' => r = none ∧ mi' = up2 mi (a + 1) i (nI (v / 16 * 16 + 2 * e + v % 2))) := by
  obtain ⟨l0, l1, l2⟩ := id hL
  have key : v / 16 * 16 + v % 2 ||| e * 2 ^ 1 = v / 16 * 16 + 2 * e + v % 2 := by
    have e1 : v / 16 * 16 + v % 2 = v / 16 * 2 ^ 4 ||| v % 2 := (or_low (by omega : v % 2 < 2 ^ 4)).symm
    rw [e1, Nat.or_assoc, Nat.or_comm (v % 2), or_low (by omega : v % 2 < 2 ^ 1), or_low (by omega : e * 2 ^ 1 + v % 2 < 2 ^ 4)]
    omega
  refine Mv.of pnX4_setHops (Nat.le_of_ble_eq_true rfl) rfl ?_
  refine r_aload_n 0 dX4_setHops_0 rfl rfl ?_
  refine r_iload_n 1 dX4_setHops_1 rfl rfl ?_
  refine r_callVp [_] dX4_setHops_2 ok_RX4_31 ivX4_isPlace (by assumption) ⟨_, _, rfl⟩ rfl rfl (Nat.le_of_ble_eq_true rfl) (by refine ⟨?_, ?_, ?_, ?_⟩ <;> exact Nat.le_of_ble_eq_true rfl) (c_isPlace hL hn h8 (by omega)) ?_
  refine r_ifB_eq 27 dX4_setHops_5 (by decide) (fun h5 => ?_) (fun h5 => ?_)
  · first | (exfalso; simp at h5; omega) | (refine r_vret dX4_setHops_27 rfl (Nat.le_refl _) (Nat.le_refl _) ?_; refine ⟨rfl, rfl, rfl, rfl, ?_⟩; rw [key])
  · refine r_aload_n 0 dX4_setHops_8 rfl rfl ?_
    refine r_getR dX4_setHops_9 fl_RX4_9 rfl (by assumption) (by assumption) ?_
    refine r_iload_n 1 dX4_setHops_12 rfl rfl ?_
    refine r_aload_n 0 dX4_setHops_13 rfl rfl ?_
    refine r_getR dX4_setHops_14 fl_RX4_9 rfl (by assumption) (by assumption) ?_
    refine r_iload_n 1 dX4_setHops_17 rfl rfl ?_
    refine r_ialdV dX4_setHops_18 (by assumption) (by omega) (by omega) (by first | assumption | exact up2_same _ _ _ _ | exact (Eq.trans (up2_ne _ _ (by omega)) (by first | assumption | exact up2_same _ _ _ _)) | exact (Eq.trans (up2_ne _ _ (by omega)) (Eq.trans (up2_ne _ _ (by omega)) (by first | assumption | exact up2_same _ _ _ _))) | exact (Eq.trans (up2_ne _ _ (by omega)) (Eq.trans (up2_ne _ _ (by omega)) (Eq.trans (up2_ne _ _ (by omega)) (by first | assumption | exact up2_same _ _ _ _)))) | exact (Eq.trans (up2_ne _ _ (by omega)) (Eq.trans (up2_ne _ _ (by omega)) (Eq.trans (up2_ne _ _ (by omega)) (Eq.trans (up2_ne _ _ (by omega)) (by first | assumption | exact up2_same _ _ _ _))))) | rfl) ?_
    refine r_bipush (v := -15) dX4_setHops_19 (by decide) ?_
    refine r_iand dX4_setHops_21 ?_
    refine r_top (nI_m15 (by omega)) ?_
    refine r_iload_n 2 dX4_setHops_22 rfl rfl ?_
    refine r_iconst (v := nI 1) dX4_setHops_23 (by decide) ?_
    refine r_ishlN dX4_setHops_24 (by omega) (by omega) ?_
    refine r_iorN dX4_setHops_25 ?_
    refine r_iast dX4_setHops_26 (by assumption) (by omega) (by omega) ?_
    first | (exfalso; simp at h5; omega) | (refine r_vret dX4_setHops_27 rfl (Nat.le_refl _) (Nat.le_refl _) ?_; refine ⟨rfl, rfl, rfl, rfl, ?_⟩; rw [key])
theorem c_addWord (hL : LPk sh mr a) {n e h : Nat} {s : Bool} (hn : mi a 1 = nI n) (h8 : n < 8) (he : e < 32768) (hh : h ≤ 7) : Mi mX4_addWord 0 [.ref a, .int (nI e), .int (nI h), .int (b2 s)] z sh mi mr (fun v mi' => v = none ∧ mi' = up2 (up2 mi (a + 1) n (nI (16 * e + 2 * h + bn s))) a 1 (nI (n + 1))) := by
  obtain ⟨l0, l1, l2⟩ := id hL
  have key : ∀ q, q ≤ 1 → (e * 2 ^ 4 ||| h * 2 ^ 1) ||| q = 16 * e + 2 * h + q := by
    intro q hq
    rw [Nat.or_assoc, or_low (by omega : q < 2 ^ 1), or_low (by omega : h * 2 ^ 1 + q < 2 ^ 4)]
    omega
  refine Mv.of pnX4_addWord (Nat.le_of_ble_eq_true rfl) rfl ?_
  refine r_aload_n 0 dX4_addWord_0 rfl rfl ?_
  refine r_getV dX4_addWord_1 fl_RX4_21 rfl (by assumption) (by first | assumption | exact up2_same _ _ _ _ | exact (Eq.trans (up2_ne _ _ (by omega)) (by first | assumption | exact up2_same _ _ _ _)) | exact (Eq.trans (up2_ne _ _ (by omega)) (Eq.trans (up2_ne _ _ (by omega)) (by first | assumption | exact up2_same _ _ _ _))) | exact (Eq.trans (up2_ne _ _ (by omega)) (Eq.trans (up2_ne _ _ (by omega)) (Eq.trans (up2_ne _ _ (by omega)) (by first | assumption | exact up2_same _ _ _ _)))) | exact (Eq.trans (up2_ne _ _ (by omega)) (Eq.trans (up2_ne _ _ (by omega)) (Eq.trans (up2_ne _ _ (by omega)) (Eq.trans (up2_ne _ _ (by omega)) (by first | assumption | exact up2_same _ _ _ _))))) | rfl) ?_
  refine r_bipush (v := nI 8) dX4_addWord_4 (by decide) ?_
  refine r_icmpN_ge 45 dX4_addWord_6 (by decide) (by omega) (by omega) (fun h6 => ?_) (fun h6 => ?_)
  · first | omega | (refine r_vret dX4_addWord_45 rfl (Nat.le_refl _) (Nat.le_refl _) ?_; refine ⟨rfl, rfl, rfl, rfl, ?_⟩; rw [key _ (by omega), h25]; rfl)
  · refine r_aload_n 0 dX4_addWord_9 rfl rfl ?_
    refine r_getR dX4_addWord_10 fl_RX4_9 rfl (by assumption) (by assumption) ?_
    refine r_aload_n 0 dX4_addWord_13 rfl rfl ?_
    refine r_getV dX4_addWord_14 fl_RX4_21 rfl (by assumption) (by first | assumption | exact up2_same _ _ _ _ | exact (Eq.trans (up2_ne _ _ (by omega)) (by first | assumption | exact up2_same _ _ _ _)) | exact (Eq.trans (up2_ne _ _ (by omega)) (Eq.trans (up2_ne _ _ (by omega)) (by first | assumption | exact up2_same _ _ _ _))) | exact (Eq.trans (up2_ne _ _ (by omega)) (Eq.trans (up2_ne _ _ (by omega)) (Eq.trans (up2_ne _ _ (by omega)) (by first | assumption | exact up2_same _ _ _ _)))) | exact (Eq.trans (up2_ne _ _ (by omega)) (Eq.trans (up2_ne _ _ (by omega)) (Eq.trans (up2_ne _ _ (by omega)) (Eq.trans (up2_ne _ _ (by omega)) (by first | assumption | exact up2_same _ _ _ _))))) | rfl) ?_
    refine r_iload_n 1 dX4_addWord_17 rfl rfl ?_
    refine r_iconst (v := nI 4) dX4_addWord_18 (by decide) ?_
    refine r_ishlN dX4_addWord_19 (by omega) (by omega) ?_
    refine r_iload_n 2 dX4_addWord_20 rfl rfl ?_
    refine r_iconst (v := nI 1) dX4_addWord_21 (by decide) ?_
    refine r_ishlN dX4_addWord_22 (by omega) (by omega) ?_
    refine r_iorN dX4_addWord_23 ?_
    refine r_iload_n 3 dX4_addWord_24 rfl rfl ?_
    refine r_ifB_eq 32 dX4_addWord_25 (by decide) (fun h25 => ?_) (fun h25 => ?_)
    · refine r_iconst (v := nI 0) dX4_addWord_32 (by decide) ?_
      refine r_iorN dX4_addWord_33 ?_
      refine r_iast dX4_addWord_34 (by assumption) (by omega) (by omega) ?_
      refine r_aload_n 0 dX4_addWord_35 rfl rfl ?_
      refine r_dup dX4_addWord_36 rfl ?_
      refine r_getV dX4_addWord_37 fl_RX4_21 rfl (by assumption) (by first | assumption | exact up2_same _ _ _ _ | exact (Eq.trans (up2_ne _ _ (by omega)) (by first | assumption | exact up2_same _ _ _ _)) | exact (Eq.trans (up2_ne _ _ (by omega)) (Eq.trans (up2_ne _ _ (by omega)) (by first | assumption | exact up2_same _ _ _ _))) | exact (Eq.trans (up2_ne _ _ (by omega)) (Eq.trans (up2_ne _ _ (by omega)) (Eq.trans (up2_ne _ _ (by omega)) (by first | assumption | exact up2_same _ _ _ _)))) | exact (Eq.trans (up2_ne _ _ (by omega)) (Eq.trans (up2_ne _ _ (by omega)) (Eq.trans (up2_ne _ _ (by omega)) (Eq.trans (up2_ne _ _ (by omega)) (by first | assumption | exact up2_same _ _ _ _))))) | rfl) ?_
      refine r_iconst (v := nI 1) dX4_addWord_40 (by decide) ?_
      refine r_iaddN dX4_addWord_41 ?_
      refine r_putI dX4_addWord_42 fl_RX4_21 rfl rfl rfl (by assumption) ?_
      first | omega | (refine r_vret dX4_addWord_45 rfl (Nat.le_refl _) (Nat.le_refl _) ?_; refine ⟨rfl, rfl, rfl, rfl, ?_⟩; rw [key _ (by omega), h25]; rfl)
    · refine r_iconst (v := nI 1) dX4_addWord_28 (by decide) ?_
      refine r_goto 33 dX4_addWord_29 (by decide) ?_
      refine r_iorN dX4_addWord_33 ?_
      refine r_iast dX4_addWord_34 (by assumption) (by omega) (by omega) ?_
      refine r_aload_n 0 dX4_addWord_35 rfl rfl ?_
      refine r_dup dX4_addWord_36 rfl ?_
      refine r_getV dX4_addWord_37 fl_RX4_21 rfl (by assumption) (by first | assumption | exact up2_same _ _ _ _ | exact (Eq.trans (up2_ne _ _ (by omega)) (by first | assumption | exact up2_same _ _ _ _)) | exact (Eq.trans (up2_ne _ _ (by omega)) (Eq.trans (up2_ne _ _ (by omega)) (by first | assumption | exact up2_same _ _ _ _))) | exact (Eq.trans (up2_ne _ _ (by omega)) (Eq.trans (up2_ne _ _ (by omega)) (Eq.trans (up2_ne _ _ (by omega)) (by first | assumption | exact up2_same _ _ _ _)))) | exact (Eq.trans (up2_ne _ _ (by omega)) (Eq.trans (up2_ne _ _ (by omega)) (Eq.trans (up2_ne _ _ (by omega)) (Eq.trans (up2_ne _ _ (by omega)) (by first | assumption | exact up2_same _ _ _ _))))) | rfl) ?_
      refine r_iconst (v := nI 1) dX4_addWord_40 (by decide) ?_
      refine r_iaddN dX4_addWord_41 ?_
      refine r_putI dX4_addWord_42 fl_RX4_21 rfl rfl rfl (by assumption) ?_
      first | omega | (refine r_vret dX4_addWord_45 rfl (Nat.le_refl _) (Nat.le_refl _) ?_; refine ⟨rfl, rfl, rfl, rfl, ?_⟩; rw [key _ (by omega), h25]; rfl)
/-- the words from lo on, up to hi, one place further -/
def shR (f : Nat → Int32) (lo hi : Nat) : Nat → Int32 := fun j => if lo < j ∧ j ≤ hi then f (j - 1) else f j
def upR (mi : MI) (a : Nat) (f : Nat → Int32) : MI := fun x => if x = a then f else mi x
theorem upR_at (mi : MI) (a : Nat) (f : Nat → Int32) : upR mi a f a = f := by simp [upR]
theorem upR_ne (mi : MI) {a x : Nat} (f : Nat → Int32) (h : x ≠ a) : upR mi a f x = mi x := by simp [upR, h]
theorem c_putAhead (hL : LPk sh mr a) {n i e : Nat} (hn : mi a 1 = nI n) (h8 : n < 8) (hi : i < n) (he : e < 32768) : Mi mX4_putAhead 1 [.ref a, .int (nI i), .int (nI e)] z sh mi mr (fun v mi' => v = none ∧ mi' = up2 (up2 (upR mi (a + 1) (shR (mi (a + 1)) i n)) (a + 1) i (nI (16 * e + 1))) a 1 (nI (n + 1))) := by
  obtain ⟨l0, l1, l2⟩ := id hL
  have H : ∀ k j : Nat, j = i + k → j ≤ n → Wp yX4_putAhead cX4_putAhead 4 none (EI 1 z sh mr (fun v mi' => v = none ∧ mi' = up2 (up2 (upR mi (a + 1) (shR (mi (a + 1)) i n)) (a + 1) i (nI (16 * e + 1))) a 1 (nI (n + 1)))) 0 0 23 [.ref a, .int (nI i), .int (nI e), .int (nI j)] [] z sh (upR mi (a + 1) (shR (mi (a + 1)) j n)) mr := by
    intro k
    induction k with
    | zero =>
      intro j hj hjn
      have hj' : j = i := by omega
      subst hj'
      have hn' : upR mi (a + 1) (shR (mi (a + 1)) j n) a 1 = nI n := by rw [upR_ne _ _ (by omega)]; exact hn
      refine r_iload_n 3 dX4_putAhead_23 rfl rfl ?_
      refine r_iload_n 1 dX4_putAhead_24 rfl rfl ?_
      refine r_icmpN_le 48 dX4_putAhead_25 (by decide) (by omega) (by omega) (fun h25 => ?_) (fun h25 => ?_)
      · refine r_aload_n 0 dX4_putAhead_48 rfl rfl ?_
        refine r_getR dX4_putAhead_49 fl_RX4_9 rfl (by assumption) (by assumption) ?_
        refine r_iload_n 1 dX4_putAhead_52 rfl rfl ?_
        refine r_iload_n 2 dX4_putAhead_53 rfl rfl ?_
        refine r_iconst (v := nI 4) dX4_putAhead_54 (by decide) ?_
        refine r_ishlN dX4_putAhead_55 (by omega) (by omega) ?_
        refine r_iconst (v := nI 1) dX4_putAhead_56 (by decide) ?_
        refine r_iorN dX4_putAhead_57 ?_
        refine r_iast dX4_putAhead_58 (by assumption) (by omega) (by omega) ?_
        refine r_aload_n 0 dX4_putAhead_59 rfl rfl ?_
        refine r_dup dX4_putAhead_60 rfl ?_
        refine r_getV dX4_putAhead_61 fl_RX4_21 rfl (by assumption) (by first | assumption | exact up2_same _ _ _ _ | exact (Eq.trans (up2_ne _ _ (by omega)) (by first | assumption | exact up2_same _ _ _ _)) | exact (Eq.trans (up2_ne _ _ (by omega)) (Eq.trans (up2_ne _ _ (by omega)) (by first | assumption | exact up2_same _ _ _ _))) | exact (Eq.trans (up2_ne _ _ (by omega)) (Eq.trans (up2_ne _ _ (by omega)) (Eq.trans (up2_ne _ _ (by omega)) (by first | assumption | exact up2_same _ _ _ _)))) | exact (Eq.trans (up2_ne _ _ (by omega)) (Eq.trans (up2_ne _ _ (by omega)) (Eq.trans (up2_ne _ _ (by omega)) (Eq.trans (up2_ne _ _ (by omega)) (by first | assumption | exact up2_same _ _ _ _))))) | rfl) ?_
        refine r_iconst (v := nI 1) dX4_putAhead_64 (by decide) ?_
        refine r_iaddN dX4_putAhead_65 ?_
        refine r_putI dX4_putAhead_66 fl_RX4_21 rfl rfl rfl (by assumption) ?_
        refine r_vret dX4_putAhead_69 rfl (Nat.le_of_ble_eq_true rfl) (Nat.le_of_ble_eq_true rfl) ?_
        refine ⟨rfl, rfl, rfl, rfl, ?_⟩
        rw [or_low (by omega : (1 : Nat) < 2 ^ 4), Nat.mul_comm]
      · omega
    | succ k ih =>
      intro j hj hjn
      refine r_iload_n 3 dX4_putAhead_23 rfl rfl ?_
      refine r_iload_n 1 dX4_putAhead_24 rfl rfl ?_
      refine r_icmpN_le 48 dX4_putAhead_25 (by decide) (by omega) (by omega) (fun h25 => ?_) (fun h25 => ?_)
      · omega
      · refine r_aload_n 0 dX4_putAhead_28 rfl rfl ?_
        refine r_getR dX4_putAhead_29 fl_RX4_9 rfl (by assumption) (by assumption) ?_
        refine r_iload_n 3 dX4_putAhead_32 rfl rfl ?_
        refine r_aload_n 0 dX4_putAhead_33 rfl rfl ?_
        refine r_getR dX4_putAhead_34 fl_RX4_9 rfl (by assumption) (by assumption) ?_
        refine r_iload_n 3 dX4_putAhead_37 rfl rfl ?_
        refine r_iconst (v := nI 1) dX4_putAhead_38 (by decide) ?_
        refine r_isubN dX4_putAhead_39 (by omega) ?_
        refine r_ialdV dX4_putAhead_40 (by assumption) (by omega) (by omega) (by rfl) ?_
        refine r_iast dX4_putAhead_41 (by assumption) (by omega) (by omega) ?_
        refine r_iinc 3 (ls2 := [_, _, _, _]) dX4_putAhead_42 rfl rfl (by decide) rfl ?_
        refine r_goto 23 dX4_putAhead_45 (by decide) ?_
        have ej : nI j + Int32.ofInt (-1) = nI (j - 1) := sb_m1 (by omega)
        rw [ej]
        refine r_mem ?_ (ih (j - 1) (by omega) (by omega))
        funext x q
        by_cases hx : x = a + 1
        · subst hx
          by_cases hq : q = j
          · subst hq
            simp only [up2_same, upR_at, shR]
            rw [if_neg (by omega), if_pos (by omega)]
          · rw [up2_ne _ _ (Or.inr hq), upR_at, upR_at]
            unfold shR
            by_cases h1 : j < q ∧ q ≤ n
            · rw [if_pos h1, if_pos (by omega)]
            · rw [if_neg h1, if_neg (by omega)]
        · rw [up2_ne _ _ (Or.inl hx), upR_ne _ _ hx, upR_ne _ _ hx]
  refine Mv.of pnX4_putAhead (Nat.le_of_ble_eq_true rfl) rfl ?_
  refine r_aload_n 0 dX4_putAhead_0 rfl rfl ?_
  refine r_iload_n 1 dX4_putAhead_1 rfl rfl ?_
  refine r_callVp [_] dX4_putAhead_2 ok_RX4_31 ivX4_isPlace (by assumption) ⟨_, _, rfl⟩ rfl rfl (Nat.le_of_ble_eq_true rfl) (by refine ⟨?_, ?_, ?_, ?_⟩ <;> exact Nat.le_of_ble_eq_true rfl) (c_isPlace hL hn (by omega) (by omega)) ?_
  refine r_ifB_eq 17 dX4_putAhead_5 (by decide) (fun h5 => ?_) (fun h5 => ?_)
  · first | (exfalso; simp at h5; omega) | omega
  · refine r_aload_n 0 dX4_putAhead_8 rfl rfl ?_
    refine r_getV dX4_putAhead_9 fl_RX4_21 rfl (by assumption) (by first | assumption | rfl) ?_
    refine r_bipush (v := nI 8) dX4_putAhead_12 (by decide) ?_
    refine r_icmpN_lt 18 dX4_putAhead_14 (by decide) (by omega) (by omega) (fun h14 => ?_) (fun h14 => ?_)
    · refine r_aload_n 0 dX4_putAhead_18 rfl rfl ?_
      refine r_getV dX4_putAhead_19 fl_RX4_21 rfl (by assumption) (by first | assumption | rfl) ?_
      refine r_istore_n 3 (ls2 := [_, _, _, _]) dX4_putAhead_22 rfl (by decide) (Nat.le_of_ble_eq_true rfl) rfl ?_
      refine r_mem ?_ (H (n - i) n (by omega) (Nat.le_refl _))
      funext x q
      by_cases hx : x = a + 1
      · subst hx
        rw [upR_at]
        unfold shR
        rw [if_neg (by omega)]
      · rw [upR_ne _ _ hx]
    · first | (exfalso; simp at h5; omega) | omega
end PACKET
