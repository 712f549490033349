section RAPI6
variable {z : Nat} {sh : SH} {mi : MI} {mr : MR} {o : Nat}
def ltS (f : Nat → Option Nat) (m : Int32) (s : Nat) : Int32 := match f s with
  | some t => if m < nI t then nI t else m
  | none => m
def ltP (f : Nat → Option Nat) : Nat → Int32
  | 0 => -6
  | i + 1 => ltS f (ltP f i) i
theorem ltP_6 (f : Nat → Option Nat) : ltP f 6 = latA f := by rw [latA_6]; rfl
theorem ltP_ge (f : Nat → Option Nat) : ∀ i, (-6 : Int32) ≤ ltP f i
  | 0 => Int32.le_refl _
  | i + 1 => by
    have h := ltP_ge f i
    unfold ltP ltS
    cases hf : f i with
    | none => exact h
    | some t =>
      simp only
      split
      · rename_i hlt; exact Int32.le_trans h (Int32.le_of_lt hlt)
      · exact h
theorem m_latest (hL : LM sh mr o) {ft : Nat → Option Nat} (h9 : ∀ j, j < 6 → mi (o + 9) j = fv (ft j)) : Mp mX10_latest 0 [.ref o] z sh mi mr (latA ft) := by
  obtain ⟨l0, -, -, -, -, -, -, -, -, ⟨l17, l18⟩, -⟩ := id hL
  rw [← ltP_6]
  have H : ∀ t i : Nat, i + t = 6 → Wp yX10_latest cX10_latest 3 (some .int) (EP 0 z sh mr mi (ltP ft 6)) 0 0 5 [.ref o, .int (ltP ft i), .int (nI i)] [] z sh mi mr := by
    intro t
    induction t with
    | zero =>
      intro i hi
      have hi : i = 6 := hi
      subst hi
      refine r_iload_n 2 dX10_latest_5 rfl rfl ?_
      refine r_bipush (v := nI 6) dX10_latest_6 (by decide) ?_
      refine r_icmpN_ge 38 dX10_latest_8 (by decide) (by omega) (by omega) (fun h8 => ?_) (fun h8 => ?_)
      · refine r_iload_n 1 dX10_latest_38 rfl rfl ?_
        refine r_iret dX10_latest_39 rfl (Nat.le_of_ble_eq_true rfl) (Nat.le_of_ble_eq_true rfl) ?_
        exact ⟨rfl, rfl, rfl, rfl, rfl⟩
      · omega
    | succ t ih =>
      intro i hi
      have hv := h9 i (by omega)
      have hge := ltP_ge ft i
      have hih := ih (i + 1) (by omega)
      rw [show ltP ft (i + 1) = ltS ft (ltP ft i) i from rfl] at hih
      cases hf : ft i with
      | none =>
        have e : ltS ft (ltP ft i) i = ltP ft i := by unfold ltS; rw [hf]
        rw [hf] at hv
        have hv' : mi (o + 9) i = -6 := hv
        rw [e] at hih
        clear hv
        refine r_iload_n 2 dX10_latest_5 rfl rfl ?_
        refine r_bipush (v := nI 6) dX10_latest_6 (by decide) ?_
        refine r_icmpN_ge 38 dX10_latest_8 (by decide) (by omega) (by omega) (fun h8 => ?_) (fun h8 => ?_)
        · omega
        · refine r_aload_n 0 dX10_latest_11 rfl rfl ?_
          refine r_getR dX10_latest_12 fl_RX10_35 rfl (by assumption) (by assumption) ?_
          refine r_iload_n 2 dX10_latest_15 rfl rfl ?_
          refine r_ialdV dX10_latest_16 (by assumption) (by omega) (by omega) (by first | assumption | exact up2_same _ _ _ _ | exact (Eq.trans (up2_ne _ _ (by omega)) (by first | assumption | exact up2_same _ _ _ _)) | exact (Eq.trans (up2_ne _ _ (by omega)) (Eq.trans (up2_ne _ _ (by omega)) (by first | assumption | exact up2_same _ _ _ _))) | exact (Eq.trans (up2_ne _ _ (by omega)) (Eq.trans (up2_ne _ _ (by omega)) (Eq.trans (up2_ne _ _ (by omega)) (by first | assumption | exact up2_same _ _ _ _)))) | exact (Eq.trans (up2_ne _ _ (by omega)) (Eq.trans (up2_ne _ _ (by omega)) (Eq.trans (up2_ne _ _ (by omega)) (Eq.trans (up2_ne _ _ (by omega)) (by first | assumption | exact up2_same _ _ _ _))))) | rfl) ?_
          refine r_iload_n 1 dX10_latest_17 rfl rfl ?_
          refine r_icmp_le 30 dX10_latest_18 (by decide) (fun h18 => ?_) (fun h18 => ?_)
          · refine r_iload_n 1 dX10_latest_30 rfl rfl ?_
            refine r_istore_n 1 (ls2 := [_, _, _]) dX10_latest_31 rfl (by decide) (Nat.le_of_ble_eq_true rfl) rfl ?_
            refine r_iincN 2 (b := 1) (ls2 := [_, _, _]) dX10_latest_32 rfl (by decide) (by decide) rfl ?_
            refine r_goto 5 dX10_latest_35 (by decide) ?_
            exact hih
          · exact absurd hge (by first | exact h18 | exact Int32.not_le.mpr h18)
      | some u =>
        have e : ltS ft (ltP ft i) i = if ltP ft i < nI u then nI u else ltP ft i := by unfold ltS; rw [hf]
        rw [hf] at hv
        have hv' : mi (o + 9) i = nI u := hv
        rw [e] at hih
        clear hv
        refine r_iload_n 2 dX10_latest_5 rfl rfl ?_
        refine r_bipush (v := nI 6) dX10_latest_6 (by decide) ?_
        refine r_icmpN_ge 38 dX10_latest_8 (by decide) (by omega) (by omega) (fun h8 => ?_) (fun h8 => ?_)
        · omega
        · refine r_aload_n 0 dX10_latest_11 rfl rfl ?_
          refine r_getR dX10_latest_12 fl_RX10_35 rfl (by assumption) (by assumption) ?_
          refine r_iload_n 2 dX10_latest_15 rfl rfl ?_
          refine r_ialdV dX10_latest_16 (by assumption) (by omega) (by omega) (by first | assumption | exact up2_same _ _ _ _ | exact (Eq.trans (up2_ne _ _ (by omega)) (by first | assumption | exact up2_same _ _ _ _)) | exact (Eq.trans (up2_ne _ _ (by omega)) (Eq.trans (up2_ne _ _ (by omega)) (by first | assumption | exact up2_same _ _ _ _))) | exact (Eq.trans (up2_ne _ _ (by omega)) (Eq.trans (up2_ne _ _ (by omega)) (Eq.trans (up2_ne _ _ (by omega)) (by first | assumption | exact up2_same _ _ _ _)))) | exact (Eq.trans (up2_ne _ _ (by omega)) (Eq.trans (up2_ne _ _ (by omega)) (Eq.trans (up2_ne _ _ (by omega)) (Eq.trans (up2_ne _ _ (by omega)) (by first | assumption | exact up2_same _ _ _ _))))) | rfl) ?_
          refine r_iload_n 1 dX10_latest_17 rfl rfl ?_
          refine r_icmp_le 30 dX10_latest_18 (by decide) (fun h18 => ?_) (fun h18 => ?_)
          · refine r_iload_n 1 dX10_latest_30 rfl rfl ?_
            refine r_istore_n 1 (ls2 := [_, _, _]) dX10_latest_31 rfl (by decide) (Nat.le_of_ble_eq_true rfl) rfl ?_
            refine r_iincN 2 (b := 1) (ls2 := [_, _, _]) dX10_latest_32 rfl (by decide) (by decide) rfl ?_
            refine r_goto 5 dX10_latest_35 (by decide) ?_
            first | (rw [if_neg (Int32.not_lt.mpr h18)] at hih; exact hih) | (rw [if_pos (Int32.not_le.mp h18)] at hih; exact hih) | (rw [if_pos h18] at hih; exact hih)
          · refine r_aload_n 0 dX10_latest_21 rfl rfl ?_
            refine r_getR dX10_latest_22 fl_RX10_35 rfl (by assumption) (by assumption) ?_
            refine r_iload_n 2 dX10_latest_25 rfl rfl ?_
            refine r_ialdV dX10_latest_26 (by assumption) (by omega) (by omega) (by first | assumption | exact up2_same _ _ _ _ | exact (Eq.trans (up2_ne _ _ (by omega)) (by first | assumption | exact up2_same _ _ _ _)) | exact (Eq.trans (up2_ne _ _ (by omega)) (Eq.trans (up2_ne _ _ (by omega)) (by first | assumption | exact up2_same _ _ _ _))) | exact (Eq.trans (up2_ne _ _ (by omega)) (Eq.trans (up2_ne _ _ (by omega)) (Eq.trans (up2_ne _ _ (by omega)) (by first | assumption | exact up2_same _ _ _ _)))) | exact (Eq.trans (up2_ne _ _ (by omega)) (Eq.trans (up2_ne _ _ (by omega)) (Eq.trans (up2_ne _ _ (by omega)) (Eq.trans (up2_ne _ _ (by omega)) (by first | assumption | exact up2_same _ _ _ _))))) | rfl) ?_
            refine r_goto 31 dX10_latest_27 (by decide) ?_
            refine r_istore_n 1 (ls2 := [_, _, _]) dX10_latest_31 rfl (by decide) (Nat.le_of_ble_eq_true rfl) rfl ?_
            refine r_iincN 2 (b := 1) (ls2 := [_, _, _]) dX10_latest_32 rfl (by decide) (by decide) rfl ?_
            refine r_goto 5 dX10_latest_35 (by decide) ?_
            first | (rw [if_neg (Int32.not_lt.mpr h18)] at hih; exact hih) | (rw [if_pos (Int32.not_le.mp h18)] at hih; exact hih) | (rw [if_pos h18] at hih; exact hih)
  refine Mv.of pnX10_latest (Nat.le_of_ble_eq_true rfl) rfl ?_
  refine r_bipush (v := -6) dX10_latest_0 (by decide) ?_
  refine r_istore_n 1 (ls2 := [_, _]) dX10_latest_2 rfl (by decide) (Nat.le_of_ble_eq_true rfl) rfl ?_
  refine r_iconst (v := nI 0) dX10_latest_3 (by decide) ?_
  refine r_istore_n 2 (ls2 := [_, _, _]) dX10_latest_4 rfl (by decide) (Nat.le_of_ble_eq_true rfl) rfl ?_
  exact H 6 0 rfl
theorem n_reach (hL : LM sh mr o) {σ : Al} {N : Nat} (hR : RR mi o σ) (hok : okA σ N) (s n w : Int32) : Mi mX10_reach 7 [.ref o, .int s, .int n, .int w] z sh mi mr (PM mi o (sp_reach σ s n w)) := by
  obtain ⟨l0, -⟩ := id hL
  by_cases hb : stB s = true
  · by_cases hc : (inB n (nI 1) (nI 7) && inB w (nI 0) (nI 3)) = true
    · have hn : inB n (nI 1) (nI 7) = true := by simp at hc; exact hc.1
      have hw : inB w (nI 0) (nI 3) = true := by simp at hc; exact hc.2
      cases hp : prsN σ.1 with
      | none =>
        have hsp : sp_reach σ s n w = (-7, σ) := by unfold sp_reach; rw [if_neg (by rw [hb]; decide), if_neg (by rw [hc]; decide), hp]
        rw [hsp]
        refine Mv.of pnX10_reach (Nat.le_of_ble_eq_true rfl) rfl ?_
        refine r_iload_n 1 dX10_reach_0 rfl rfl ?_
        refine r_callSp [_] dX10_reach_1 ok_RX10_78 isX10_isStation rfl rfl (Nat.le_of_ble_eq_true rfl) (by refine ⟨?_, ?_, ?_, ?_⟩ <;> exact Nat.le_of_ble_eq_true rfl) (c_isStation _) ?_
        rw [hb]
        refine r_ifB_ne 9 dX10_reach_4 (by decide) (fun h4 => ?_) (fun h4 => ?_)
        · refine r_iload_n 2 dX10_reach_9 rfl rfl ?_
          refine r_iconst (v := nI 1) dX10_reach_10 (by decide) ?_
          refine r_bipush (v := nI 7) dX10_reach_11 (by decide) ?_
          refine r_callSp [_, _, _] dX10_reach_13 ok_RX10_41 isX10_in rfl rfl (Nat.le_of_ble_eq_true rfl) (by refine ⟨?_, ?_, ?_, ?_⟩ <;> exact Nat.le_of_ble_eq_true rfl) (c_in _ _ _) ?_
          rw [hn]
          refine r_ifB_eq 28 dX10_reach_16 (by decide) (fun h16 => ?_) (fun h16 => ?_)
          · first | exact absurd h16 (by decide) | exact absurd h25 (by decide)
          · refine r_iload_n 3 dX10_reach_19 rfl rfl ?_
            refine r_iconst (v := nI 0) dX10_reach_20 (by decide) ?_
            refine r_iconst (v := nI 3) dX10_reach_21 (by decide) ?_
            refine r_callSp [_, _, _] dX10_reach_22 ok_RX10_41 isX10_in rfl rfl (Nat.le_of_ble_eq_true rfl) (by refine ⟨?_, ?_, ?_, ?_⟩ <;> exact Nat.le_of_ble_eq_true rfl) (c_in _ _ _) ?_
            rw [hw]
            refine r_ifB_ne 31 dX10_reach_25 (by decide) (fun h25 => ?_) (fun h25 => ?_)
            · refine r_aload_n 0 dX10_reach_31 rfl rfl ?_
              refine r_callVx [] dX10_reach_32 ok_RX10_81 ivX10_readName (by assumption) ⟨_, _, rfl⟩ rfl rfl (Nat.le_of_ble_eq_true rfl) (by refine ⟨?_, ?_, ?_, ?_⟩ <;> exact Nat.le_of_ble_eq_true rfl) (rn_none hL hR.1 hok.1 hp) ?_
              intro mA uA
              refine r_istore 4 (ls2 := [_, _, _, _, _]) dX10_reach_35 (by decide) (Nat.le_of_ble_eq_true rfl) rfl ?_
              refine r_iload 4 dX10_reach_37 rfl ?_
              refine r_if_ge 45 dX10_reach_39 (by decide) (fun h39 => ?_) (fun h39 => ?_)
              · exact absurd h39 (by decide)
              · refine r_bipush (v := -7) dX10_reach_42 (by decide) ?_
                refine r_iret dX10_reach_44 rfl (Nat.le_of_ble_eq_true rfl) (Nat.le_of_ble_eq_true rfl) ?_
                exact ⟨rfl, rfl, rfl, PM.scr hR uA⟩
            · first | exact absurd h16 (by decide) | exact absurd h25 (by decide)
        · exact absurd h4 (by decide)
      | some f =>
        have hf := prsN_ok hp
        have hlt := okL_27 hf
        have hsp : sp_reach σ s n w = (if w = nI 0 then nI (reaS σ.2.1 none (sk s) f (sk n)) else if w = nI 1 then latA (tri σ.2.1 none (sk s) f (sk n)).2 else if w = nI 2 then nI (sum6 (fun j => ((tri σ.2.1 none (sk s) f (sk n)).1.1 j).2.1 0)) else nI (sum6 (fun j => ((tri σ.2.1 none (sk s) f (sk n)).1.1 j).2.1 7)), σ) := by unfold sp_reach; rw [if_neg (by rw [hb]; decide), if_neg (by rw [hc]; decide), hp]
        obtain ⟨k, hk, rfl⟩ := st_ex hb
        obtain ⟨c, c1, c2, rfl⟩ := inB_ex (by omega) hn (by omega)
        obtain ⟨j, j1, j2, rfl⟩ := inB_ex (by omega) hw (by omega)
        rw [sk_nI (by omega), sk_nI (by omega)] at hsp
        rw [hsp]
        have hj : j = 0 ∨ j = 1 ∨ j = 2 ∨ j = 3 := by omega
        have fin : ∀ (a : Int32) (mA mB : MI), PG mi mA o → RR mB o σ → Oth mA mB o (o + 11) → PM mi o (a, σ) (some (.int a)) mB := fun a mA mB g r q => ⟨rfl, r, fun y hy => (q y hy).trans (g.oth y hy)⟩
        rcases hj with rfl | rfl | rfl | rfl
        · rw [if_pos rfl]
          refine Mv.of pnX10_reach (Nat.le_of_ble_eq_true rfl) rfl ?_
          refine r_iload_n 1 dX10_reach_0 rfl rfl ?_
          refine r_callSp [_] dX10_reach_1 ok_RX10_78 isX10_isStation rfl rfl (Nat.le_of_ble_eq_true rfl) (by refine ⟨?_, ?_, ?_, ?_⟩ <;> exact Nat.le_of_ble_eq_true rfl) (c_isStation _) ?_
          rw [hb]
          refine r_ifB_ne 9 dX10_reach_4 (by decide) (fun h4 => ?_) (fun h4 => ?_)
          · refine r_iload_n 2 dX10_reach_9 rfl rfl ?_
            refine r_iconst (v := nI 1) dX10_reach_10 (by decide) ?_
            refine r_bipush (v := nI 7) dX10_reach_11 (by decide) ?_
            refine r_callSp [_, _, _] dX10_reach_13 ok_RX10_41 isX10_in rfl rfl (Nat.le_of_ble_eq_true rfl) (by refine ⟨?_, ?_, ?_, ?_⟩ <;> exact Nat.le_of_ble_eq_true rfl) (c_in _ _ _) ?_
            rw [hn]
            refine r_ifB_eq 28 dX10_reach_16 (by decide) (fun h16 => ?_) (fun h16 => ?_)
            · first | exact absurd h16 (by decide) | exact absurd h25 (by decide)
            · refine r_iload_n 3 dX10_reach_19 rfl rfl ?_
              refine r_iconst (v := nI 0) dX10_reach_20 (by decide) ?_
              refine r_iconst (v := nI 3) dX10_reach_21 (by decide) ?_
              refine r_callSp [_, _, _] dX10_reach_22 ok_RX10_41 isX10_in rfl rfl (Nat.le_of_ble_eq_true rfl) (by refine ⟨?_, ?_, ?_, ?_⟩ <;> exact Nat.le_of_ble_eq_true rfl) (c_in _ _ _) ?_
              rw [hw]
              refine r_ifB_ne 31 dX10_reach_25 (by decide) (fun h25 => ?_) (fun h25 => ?_)
              · refine r_aload_n 0 dX10_reach_31 rfl rfl ?_
                refine r_callVx [] dX10_reach_32 ok_RX10_81 ivX10_readName (by assumption) ⟨_, _, rfl⟩ rfl rfl (Nat.le_of_ble_eq_true rfl) (by refine ⟨?_, ?_, ?_, ?_⟩ <;> exact Nat.le_of_ble_eq_true rfl) (rn_some hL hR.1 hok.1 hp) ?_
                intro mA uA
                have uR := hR.scr uA
                refine r_istore 4 (ls2 := [_, _, _, _, _]) dX10_reach_35 (by decide) (Nat.le_of_ble_eq_true rfl) rfl ?_
                refine r_iload 4 dX10_reach_37 rfl ?_
                refine r_ifN_ge 45 dX10_reach_39 (by decide) (by omega) ?_
                refine r_aload_n 0 dX10_reach_45 rfl rfl ?_
                refine r_iload_n 1 dX10_reach_46 rfl rfl ?_
                refine r_iload 4 dX10_reach_47 rfl ?_
                refine r_iload_n 2 dX10_reach_49 rfl rfl ?_
                refine r_bipush (v := -6) dX10_reach_50 (by decide) ?_
                refine r_callVx [_, _, _, _] dX10_reach_52 ok_RX10_199 ivX10_reachFrom (by assumption) ⟨_, _, rfl⟩ rfl rfl (Nat.le_of_ble_eq_true rfl) (by refine ⟨?_, ?_, ?_, ?_⟩ <;> exact Nat.le_of_ble_eq_true rfl) (m_reachFrom hL uR hok hk hf c1 c2 (Or.inl ⟨rfl, rfl⟩)) ?_
                intro mB ⟨v1, v2, v3, v4, v5⟩
                refine r_istore 5 (ls2 := [_, _, _, _, _, _]) dX10_reach_55 (by decide) (Nat.le_of_ble_eq_true rfl) rfl ?_
                refine r_iload_n 3 dX10_reach_57 rfl rfl ?_
                refine r_ifN_ne 66 dX10_reach_58 (by decide) (by omega) (fun h58 => ?_) (fun h58 => ?_)
                · omega
                · refine r_iload 5 dX10_reach_61 rfl ?_
                  refine r_goto 94 dX10_reach_63 (by decide) ?_
                  refine r_iret dX10_reach_94 rfl (Nat.le_of_ble_eq_true rfl) (Nat.le_of_ble_eq_true rfl) ?_
                  exact ⟨rfl, rfl, rfl, fin _ mA mB uA v1 v2⟩
              · first | exact absurd h16 (by decide) | exact absurd h25 (by decide)
          · exact absurd h4 (by decide)
        · rw [if_neg (by decide), if_pos rfl]
          refine Mv.of pnX10_reach (Nat.le_of_ble_eq_true rfl) rfl ?_
          refine r_iload_n 1 dX10_reach_0 rfl rfl ?_
          refine r_callSp [_] dX10_reach_1 ok_RX10_78 isX10_isStation rfl rfl (Nat.le_of_ble_eq_true rfl) (by refine ⟨?_, ?_, ?_, ?_⟩ <;> exact Nat.le_of_ble_eq_true rfl) (c_isStation _) ?_
          rw [hb]
          refine r_ifB_ne 9 dX10_reach_4 (by decide) (fun h4 => ?_) (fun h4 => ?_)
          · refine r_iload_n 2 dX10_reach_9 rfl rfl ?_
            refine r_iconst (v := nI 1) dX10_reach_10 (by decide) ?_
            refine r_bipush (v := nI 7) dX10_reach_11 (by decide) ?_
            refine r_callSp [_, _, _] dX10_reach_13 ok_RX10_41 isX10_in rfl rfl (Nat.le_of_ble_eq_true rfl) (by refine ⟨?_, ?_, ?_, ?_⟩ <;> exact Nat.le_of_ble_eq_true rfl) (c_in _ _ _) ?_
            rw [hn]
            refine r_ifB_eq 28 dX10_reach_16 (by decide) (fun h16 => ?_) (fun h16 => ?_)
            · first | exact absurd h16 (by decide) | exact absurd h25 (by decide)
            · refine r_iload_n 3 dX10_reach_19 rfl rfl ?_
              refine r_iconst (v := nI 0) dX10_reach_20 (by decide) ?_
              refine r_iconst (v := nI 3) dX10_reach_21 (by decide) ?_
              refine r_callSp [_, _, _] dX10_reach_22 ok_RX10_41 isX10_in rfl rfl (Nat.le_of_ble_eq_true rfl) (by refine ⟨?_, ?_, ?_, ?_⟩ <;> exact Nat.le_of_ble_eq_true rfl) (c_in _ _ _) ?_
              rw [hw]
              refine r_ifB_ne 31 dX10_reach_25 (by decide) (fun h25 => ?_) (fun h25 => ?_)
              · refine r_aload_n 0 dX10_reach_31 rfl rfl ?_
                refine r_callVx [] dX10_reach_32 ok_RX10_81 ivX10_readName (by assumption) ⟨_, _, rfl⟩ rfl rfl (Nat.le_of_ble_eq_true rfl) (by refine ⟨?_, ?_, ?_, ?_⟩ <;> exact Nat.le_of_ble_eq_true rfl) (rn_some hL hR.1 hok.1 hp) ?_
                intro mA uA
                have uR := hR.scr uA
                refine r_istore 4 (ls2 := [_, _, _, _, _]) dX10_reach_35 (by decide) (Nat.le_of_ble_eq_true rfl) rfl ?_
                refine r_iload 4 dX10_reach_37 rfl ?_
                refine r_ifN_ge 45 dX10_reach_39 (by decide) (by omega) ?_
                refine r_aload_n 0 dX10_reach_45 rfl rfl ?_
                refine r_iload_n 1 dX10_reach_46 rfl rfl ?_
                refine r_iload 4 dX10_reach_47 rfl ?_
                refine r_iload_n 2 dX10_reach_49 rfl rfl ?_
                refine r_bipush (v := -6) dX10_reach_50 (by decide) ?_
                refine r_callVx [_, _, _, _] dX10_reach_52 ok_RX10_199 ivX10_reachFrom (by assumption) ⟨_, _, rfl⟩ rfl rfl (Nat.le_of_ble_eq_true rfl) (by refine ⟨?_, ?_, ?_, ?_⟩ <;> exact Nat.le_of_ble_eq_true rfl) (m_reachFrom hL uR hok hk hf c1 c2 (Or.inl ⟨rfl, rfl⟩)) ?_
                intro mB ⟨v1, v2, v3, v4, v5⟩
                refine r_istore 5 (ls2 := [_, _, _, _, _, _]) dX10_reach_55 (by decide) (Nat.le_of_ble_eq_true rfl) rfl ?_
                refine r_iload_n 3 dX10_reach_57 rfl rfl ?_
                refine r_ifN_ne 66 dX10_reach_58 (by decide) (by omega) (fun h58 => ?_) (fun h58 => ?_)
                · refine r_iload_n 3 dX10_reach_66 rfl rfl ?_
                  refine r_iconst (v := nI 1) dX10_reach_67 (by decide) ?_
                  refine r_icmpN_ne 78 dX10_reach_68 (by decide) (by omega) (by omega) (fun h68 => ?_) (fun h68 => ?_)
                  · omega
                  · refine r_aload_n 0 dX10_reach_71 rfl rfl ?_
                    refine r_callVp [] dX10_reach_72 ok_RX10_202 ivX10_latest (by assumption) ⟨_, _, rfl⟩ rfl rfl (Nat.le_of_ble_eq_true rfl) (by refine ⟨?_, ?_, ?_, ?_⟩ <;> exact Nat.le_of_ble_eq_true rfl) (m_latest hL v5) ?_
                    refine r_goto 94 dX10_reach_75 (by decide) ?_
                    refine r_iret dX10_reach_94 rfl (Nat.le_of_ble_eq_true rfl) (Nat.le_of_ble_eq_true rfl) ?_
                    exact ⟨rfl, rfl, rfl, fin _ mA mB uA v1 v2⟩
                · omega
              · first | exact absurd h16 (by decide) | exact absurd h25 (by decide)
          · exact absurd h4 (by decide)
        · rw [if_neg (by decide), if_neg (by decide), if_pos rfl]
          refine Mv.of pnX10_reach (Nat.le_of_ble_eq_true rfl) rfl ?_
          refine r_iload_n 1 dX10_reach_0 rfl rfl ?_
          refine r_callSp [_] dX10_reach_1 ok_RX10_78 isX10_isStation rfl rfl (Nat.le_of_ble_eq_true rfl) (by refine ⟨?_, ?_, ?_, ?_⟩ <;> exact Nat.le_of_ble_eq_true rfl) (c_isStation _) ?_
          rw [hb]
          refine r_ifB_ne 9 dX10_reach_4 (by decide) (fun h4 => ?_) (fun h4 => ?_)
          · refine r_iload_n 2 dX10_reach_9 rfl rfl ?_
            refine r_iconst (v := nI 1) dX10_reach_10 (by decide) ?_
            refine r_bipush (v := nI 7) dX10_reach_11 (by decide) ?_
            refine r_callSp [_, _, _] dX10_reach_13 ok_RX10_41 isX10_in rfl rfl (Nat.le_of_ble_eq_true rfl) (by refine ⟨?_, ?_, ?_, ?_⟩ <;> exact Nat.le_of_ble_eq_true rfl) (c_in _ _ _) ?_
            rw [hn]
            refine r_ifB_eq 28 dX10_reach_16 (by decide) (fun h16 => ?_) (fun h16 => ?_)
            · first | exact absurd h16 (by decide) | exact absurd h25 (by decide)
            · refine r_iload_n 3 dX10_reach_19 rfl rfl ?_
              refine r_iconst (v := nI 0) dX10_reach_20 (by decide) ?_
              refine r_iconst (v := nI 3) dX10_reach_21 (by decide) ?_
              refine r_callSp [_, _, _] dX10_reach_22 ok_RX10_41 isX10_in rfl rfl (Nat.le_of_ble_eq_true rfl) (by refine ⟨?_, ?_, ?_, ?_⟩ <;> exact Nat.le_of_ble_eq_true rfl) (c_in _ _ _) ?_
              rw [hw]
              refine r_ifB_ne 31 dX10_reach_25 (by decide) (fun h25 => ?_) (fun h25 => ?_)
              · refine r_aload_n 0 dX10_reach_31 rfl rfl ?_
                refine r_callVx [] dX10_reach_32 ok_RX10_81 ivX10_readName (by assumption) ⟨_, _, rfl⟩ rfl rfl (Nat.le_of_ble_eq_true rfl) (by refine ⟨?_, ?_, ?_, ?_⟩ <;> exact Nat.le_of_ble_eq_true rfl) (rn_some hL hR.1 hok.1 hp) ?_
                intro mA uA
                have uR := hR.scr uA
                refine r_istore 4 (ls2 := [_, _, _, _, _]) dX10_reach_35 (by decide) (Nat.le_of_ble_eq_true rfl) rfl ?_
                refine r_iload 4 dX10_reach_37 rfl ?_
                refine r_ifN_ge 45 dX10_reach_39 (by decide) (by omega) ?_
                refine r_aload_n 0 dX10_reach_45 rfl rfl ?_
                refine r_iload_n 1 dX10_reach_46 rfl rfl ?_
                refine r_iload 4 dX10_reach_47 rfl ?_
                refine r_iload_n 2 dX10_reach_49 rfl rfl ?_
                refine r_bipush (v := -6) dX10_reach_50 (by decide) ?_
                refine r_callVx [_, _, _, _] dX10_reach_52 ok_RX10_199 ivX10_reachFrom (by assumption) ⟨_, _, rfl⟩ rfl rfl (Nat.le_of_ble_eq_true rfl) (by refine ⟨?_, ?_, ?_, ?_⟩ <;> exact Nat.le_of_ble_eq_true rfl) (m_reachFrom hL uR hok hk hf c1 c2 (Or.inl ⟨rfl, rfl⟩)) ?_
                intro mB ⟨v1, v2, v3, v4, v5⟩
                refine r_istore 5 (ls2 := [_, _, _, _, _, _]) dX10_reach_55 (by decide) (Nat.le_of_ble_eq_true rfl) rfl ?_
                refine r_iload_n 3 dX10_reach_57 rfl rfl ?_
                refine r_ifN_ne 66 dX10_reach_58 (by decide) (by omega) (fun h58 => ?_) (fun h58 => ?_)
                · refine r_iload_n 3 dX10_reach_66 rfl rfl ?_
                  refine r_iconst (v := nI 1) dX10_reach_67 (by decide) ?_
                  refine r_icmpN_ne 78 dX10_reach_68 (by decide) (by omega) (by omega) (fun h68 => ?_) (fun h68 => ?_)
                  · refine r_iload_n 3 dX10_reach_78 rfl rfl ?_
                    refine r_iconst (v := nI 2) dX10_reach_79 (by decide) ?_
                    refine r_icmpN_ne 90 dX10_reach_80 (by decide) (by omega) (by omega) (fun h80 => ?_) (fun h80 => ?_)
                    · omega
                    · refine r_aload_n 0 dX10_reach_83 rfl rfl ?_
                      refine r_getV dX10_reach_84 fl_RX10_190 rfl (by assumption) (by first | assumption | exact up2_same _ _ _ _ | exact (Eq.trans (up2_ne _ _ (by omega)) (by first | assumption | exact up2_same _ _ _ _)) | exact (Eq.trans (up2_ne _ _ (by omega)) (Eq.trans (up2_ne _ _ (by omega)) (by first | assumption | exact up2_same _ _ _ _))) | exact (Eq.trans (up2_ne _ _ (by omega)) (Eq.trans (up2_ne _ _ (by omega)) (Eq.trans (up2_ne _ _ (by omega)) (by first | assumption | exact up2_same _ _ _ _)))) | exact (Eq.trans (up2_ne _ _ (by omega)) (Eq.trans (up2_ne _ _ (by omega)) (Eq.trans (up2_ne _ _ (by omega)) (Eq.trans (up2_ne _ _ (by omega)) (by first | assumption | exact up2_same _ _ _ _))))) | rfl) ?_
                      refine r_goto 94 dX10_reach_87 (by decide) ?_
                      refine r_iret dX10_reach_94 rfl (Nat.le_of_ble_eq_true rfl) (Nat.le_of_ble_eq_true rfl) ?_
                      exact ⟨rfl, rfl, rfl, fin _ mA mB uA v1 v2⟩
                  · omega
                · omega
              · first | exact absurd h16 (by decide) | exact absurd h25 (by decide)
          · exact absurd h4 (by decide)
        · rw [if_neg (by decide), if_neg (by decide), if_neg (by decide)]
          refine Mv.of pnX10_reach (Nat.le_of_ble_eq_true rfl) rfl ?_
          refine r_iload_n 1 dX10_reach_0 rfl rfl ?_
          refine r_callSp [_] dX10_reach_1 ok_RX10_78 isX10_isStation rfl rfl (Nat.le_of_ble_eq_true rfl) (by refine ⟨?_, ?_, ?_, ?_⟩ <;> exact Nat.le_of_ble_eq_true rfl) (c_isStation _) ?_
          rw [hb]
          refine r_ifB_ne 9 dX10_reach_4 (by decide) (fun h4 => ?_) (fun h4 => ?_)
          · refine r_iload_n 2 dX10_reach_9 rfl rfl ?_
            refine r_iconst (v := nI 1) dX10_reach_10 (by decide) ?_
            refine r_bipush (v := nI 7) dX10_reach_11 (by decide) ?_
            refine r_callSp [_, _, _] dX10_reach_13 ok_RX10_41 isX10_in rfl rfl (Nat.le_of_ble_eq_true rfl) (by refine ⟨?_, ?_, ?_, ?_⟩ <;> exact Nat.le_of_ble_eq_true rfl) (c_in _ _ _) ?_
            rw [hn]
            refine r_ifB_eq 28 dX10_reach_16 (by decide) (fun h16 => ?_) (fun h16 => ?_)
            · first | exact absurd h16 (by decide) | exact absurd h25 (by decide)
            · refine r_iload_n 3 dX10_reach_19 rfl rfl ?_
              refine r_iconst (v := nI 0) dX10_reach_20 (by decide) ?_
              refine r_iconst (v := nI 3) dX10_reach_21 (by decide) ?_
              refine r_callSp [_, _, _] dX10_reach_22 ok_RX10_41 isX10_in rfl rfl (Nat.le_of_ble_eq_true rfl) (by refine ⟨?_, ?_, ?_, ?_⟩ <;> exact Nat.le_of_ble_eq_true rfl) (c_in _ _ _) ?_
              rw [hw]
              refine r_ifB_ne 31 dX10_reach_25 (by decide) (fun h25 => ?_) (fun h25 => ?_)
              · refine r_aload_n 0 dX10_reach_31 rfl rfl ?_
                refine r_callVx [] dX10_reach_32 ok_RX10_81 ivX10_readName (by assumption) ⟨_, _, rfl⟩ rfl rfl (Nat.le_of_ble_eq_true rfl) (by refine ⟨?_, ?_, ?_, ?_⟩ <;> exact Nat.le_of_ble_eq_true rfl) (rn_some hL hR.1 hok.1 hp) ?_
                intro mA uA
                have uR := hR.scr uA
                refine r_istore 4 (ls2 := [_, _, _, _, _]) dX10_reach_35 (by decide) (Nat.le_of_ble_eq_true rfl) rfl ?_
                refine r_iload 4 dX10_reach_37 rfl ?_
                refine r_ifN_ge 45 dX10_reach_39 (by decide) (by omega) ?_
                refine r_aload_n 0 dX10_reach_45 rfl rfl ?_
                refine r_iload_n 1 dX10_reach_46 rfl rfl ?_
                refine r_iload 4 dX10_reach_47 rfl ?_
                refine r_iload_n 2 dX10_reach_49 rfl rfl ?_
                refine r_bipush (v := -6) dX10_reach_50 (by decide) ?_
                refine r_callVx [_, _, _, _] dX10_reach_52 ok_RX10_199 ivX10_reachFrom (by assumption) ⟨_, _, rfl⟩ rfl rfl (Nat.le_of_ble_eq_true rfl) (by refine ⟨?_, ?_, ?_, ?_⟩ <;> exact Nat.le_of_ble_eq_true rfl) (m_reachFrom hL uR hok hk hf c1 c2 (Or.inl ⟨rfl, rfl⟩)) ?_
                intro mB ⟨v1, v2, v3, v4, v5⟩
                refine r_istore 5 (ls2 := [_, _, _, _, _, _]) dX10_reach_55 (by decide) (Nat.le_of_ble_eq_true rfl) rfl ?_
                refine r_iload_n 3 dX10_reach_57 rfl rfl ?_
                refine r_ifN_ne 66 dX10_reach_58 (by decide) (by omega) (fun h58 => ?_) (fun h58 => ?_)
                · refine r_iload_n 3 dX10_reach_66 rfl rfl ?_
                  refine r_iconst (v := nI 1) dX10_reach_67 (by decide) ?_
                  refine r_icmpN_ne 78 dX10_reach_68 (by decide) (by omega) (by omega) (fun h68 => ?_) (fun h68 => ?_)
                  · refine r_iload_n 3 dX10_reach_78 rfl rfl ?_
                    refine r_iconst (v := nI 2) dX10_reach_79 (by decide) ?_
                    refine r_icmpN_ne 90 dX10_reach_80 (by decide) (by omega) (by omega) (fun h80 => ?_) (fun h80 => ?_)
                    · refine r_aload_n 0 dX10_reach_90 rfl rfl ?_
                      refine r_getV dX10_reach_91 fl_RX10_193 rfl (by assumption) (by first | assumption | exact up2_same _ _ _ _ | exact (Eq.trans (up2_ne _ _ (by omega)) (by first | assumption | exact up2_same _ _ _ _)) | exact (Eq.trans (up2_ne _ _ (by omega)) (Eq.trans (up2_ne _ _ (by omega)) (by first | assumption | exact up2_same _ _ _ _))) | exact (Eq.trans (up2_ne _ _ (by omega)) (Eq.trans (up2_ne _ _ (by omega)) (Eq.trans (up2_ne _ _ (by omega)) (by first | assumption | exact up2_same _ _ _ _)))) | exact (Eq.trans (up2_ne _ _ (by omega)) (Eq.trans (up2_ne _ _ (by omega)) (Eq.trans (up2_ne _ _ (by omega)) (Eq.trans (up2_ne _ _ (by omega)) (by first | assumption | exact up2_same _ _ _ _))))) | rfl) ?_
                      refine r_iret dX10_reach_94 rfl (Nat.le_of_ble_eq_true rfl) (Nat.le_of_ble_eq_true rfl) ?_
                      exact ⟨rfl, rfl, rfl, fin _ mA mB uA v1 v2⟩
                    · omega
                  · omega
                · omega
              · first | exact absurd h16 (by decide) | exact absurd h25 (by decide)
          · exact absurd h4 (by decide)
    · have hc' : (inB n (nI 1) (nI 7) && inB w (nI 0) (nI 3)) = false := by simpa using hc
      have hsp : sp_reach σ s n w = (-2, σ) := by unfold sp_reach; rw [if_neg (by rw [hb]; decide), if_pos hc']
      rw [hsp]
      refine Mv.of pnX10_reach (Nat.le_of_ble_eq_true rfl) rfl ?_
      refine r_iload_n 1 dX10_reach_0 rfl rfl ?_
      refine r_callSp [_] dX10_reach_1 ok_RX10_78 isX10_isStation rfl rfl (Nat.le_of_ble_eq_true rfl) (by refine ⟨?_, ?_, ?_, ?_⟩ <;> exact Nat.le_of_ble_eq_true rfl) (c_isStation _) ?_
      rw [hb]
      refine r_ifB_ne 9 dX10_reach_4 (by decide) (fun h4 => ?_) (fun h4 => ?_)
      · refine r_iload_n 2 dX10_reach_9 rfl rfl ?_
        refine r_iconst (v := nI 1) dX10_reach_10 (by decide) ?_
        refine r_bipush (v := nI 7) dX10_reach_11 (by decide) ?_
        refine r_callSp [_, _, _] dX10_reach_13 ok_RX10_41 isX10_in rfl rfl (Nat.le_of_ble_eq_true rfl) (by refine ⟨?_, ?_, ?_, ?_⟩ <;> exact Nat.le_of_ble_eq_true rfl) (c_in _ _ _) ?_
        refine r_ifB_eq 28 dX10_reach_16 (by decide) (fun h16 => ?_) (fun h16 => ?_)
        · refine r_bipush (v := -2) dX10_reach_28 (by decide) ?_
          refine r_iret dX10_reach_30 rfl (Nat.le_of_ble_eq_true rfl) (Nat.le_of_ble_eq_true rfl) ?_
          exact ⟨rfl, rfl, rfl, PM.same hR⟩
        · refine r_iload_n 3 dX10_reach_19 rfl rfl ?_
          refine r_iconst (v := nI 0) dX10_reach_20 (by decide) ?_
          refine r_iconst (v := nI 3) dX10_reach_21 (by decide) ?_
          refine r_callSp [_, _, _] dX10_reach_22 ok_RX10_41 isX10_in rfl rfl (Nat.le_of_ble_eq_true rfl) (by refine ⟨?_, ?_, ?_, ?_⟩ <;> exact Nat.le_of_ble_eq_true rfl) (c_in _ _ _) ?_
          refine r_ifB_ne 31 dX10_reach_25 (by decide) (fun h25 => ?_) (fun h25 => ?_)
          · rw [h16, h25] at hc'
            cases hc'
          · refine r_bipush (v := -2) dX10_reach_28 (by decide) ?_
            refine r_iret dX10_reach_30 rfl (Nat.le_of_ble_eq_true rfl) (Nat.le_of_ble_eq_true rfl) ?_
            exact ⟨rfl, rfl, rfl, PM.same hR⟩
      · exact absurd h4 (by decide)
  · have hb' : stB s = false := by simpa using hb
    have hsp : sp_reach σ s n w = (-1, σ) := by unfold sp_reach; rw [if_pos hb']
    rw [hsp]
    refine Mv.of pnX10_reach (Nat.le_of_ble_eq_true rfl) rfl ?_
    refine r_iload_n 1 dX10_reach_0 rfl rfl ?_
    refine r_callSp [_] dX10_reach_1 ok_RX10_78 isX10_isStation rfl rfl (Nat.le_of_ble_eq_true rfl) (by refine ⟨?_, ?_, ?_, ?_⟩ <;> exact Nat.le_of_ble_eq_true rfl) (c_isStation _) ?_
    rw [hb']
    refine r_ifB_ne 9 dX10_reach_4 (by decide) (fun h4 => ?_) (fun h4 => ?_)
    · exact absurd h4 (by decide)
    · refine r_iconst (v := -1) dX10_reach_7 (by decide) ?_
      refine r_iret dX10_reach_8 rfl (Nat.le_of_ble_eq_true rfl) (Nat.le_of_ble_eq_true rfl) ?_
      exact ⟨rfl, rfl, rfl, PM.same hR⟩
theorem rea_bit (n : Nt) (w : Option Nat) (s : Nat) (f : Nm) (h : Nat) {t : Nat} (ht : t < 6) : reaS n w s f h / 2 ^ t &&& 1 = bn (hits n w s t f h) := by
  rw [show (1 : Nat) = 2 ^ 1 - 1 from rfl, and_mod]
  exact bs_bit (fun j => ((tri n w s f h).2 j).isSome) ht
theorem rea_lt (n : Nt) (w : Option Nat) (s : Nat) (f : Nm) (h : Nat) : reaS n w s f h < 64 := bs_lt _
theorem n_fewest (hL : LM sh mr o) {σ : Al} {N : Nat} (hR : RR mi o σ) (hok : okA σ N) (s t : Int32) : Mi mX10_fewest 7 [.ref o, .int s, .int t] z sh mi mr (PM mi o (sp_fewest σ s t)) := by
  obtain ⟨l0, -⟩ := id hL
  by_cases hb : (stB s && stB t) = true
  · have hbs : stB s = true := by simp at hb; exact hb.1
    have hbt : stB t = true := by simp at hb; exact hb.2
    by_cases hst : s = t
    · have hsp : sp_fewest σ s t = (-2, σ) := by unfold sp_fewest; rw [if_neg (by rw [hb]; decide), if_pos hst]
      rw [hsp]
      refine Mv.of pnX10_fewest (Nat.le_of_ble_eq_true rfl) rfl ?_
      refine r_iload_n 1 dX10_fewest_0 rfl rfl ?_
      refine r_callSp [_] dX10_fewest_1 ok_RX10_78 isX10_isStation rfl rfl (Nat.le_of_ble_eq_true rfl) (by refine ⟨?_, ?_, ?_, ?_⟩ <;> exact Nat.le_of_ble_eq_true rfl) (c_isStation _) ?_
      rw [hbs]
      refine r_ifB_eq 14 dX10_fewest_4 (by decide) (fun h4 => ?_) (fun h4 => ?_)
      · first | exact absurd h4 (by decide) | exact absurd h11 (by decide)
      · refine r_iload_n 2 dX10_fewest_7 rfl rfl ?_
        refine r_callSp [_] dX10_fewest_8 ok_RX10_78 isX10_isStation rfl rfl (Nat.le_of_ble_eq_true rfl) (by refine ⟨?_, ?_, ?_, ?_⟩ <;> exact Nat.le_of_ble_eq_true rfl) (c_isStation _) ?_
        rw [hbt]
        refine r_ifB_ne 16 dX10_fewest_11 (by decide) (fun h11 => ?_) (fun h11 => ?_)
        · refine r_iload_n 1 dX10_fewest_16 rfl rfl ?_
          refine r_iload_n 2 dX10_fewest_17 rfl rfl ?_
          refine r_icmp_ne 24 dX10_fewest_18 (by decide) (fun h18 => ?_) (fun h18 => ?_)
          · exact absurd hst h18
          · refine r_bipush (v := -2) dX10_fewest_21 (by decide) ?_
            refine r_iret dX10_fewest_23 rfl (Nat.le_of_ble_eq_true rfl) (Nat.le_of_ble_eq_true rfl) ?_
            exact ⟨rfl, rfl, rfl, PM.same hR⟩
        · first | exact absurd h4 (by decide) | exact absurd h11 (by decide)
    · cases hp : prsN σ.1 with
      | none =>
        have hsp : sp_fewest σ s t = (-7, σ) := by unfold sp_fewest; rw [if_neg (by rw [hb]; decide), if_neg hst, hp]
        rw [hsp]
        refine Mv.of pnX10_fewest (Nat.le_of_ble_eq_true rfl) rfl ?_
        refine r_iload_n 1 dX10_fewest_0 rfl rfl ?_
        refine r_callSp [_] dX10_fewest_1 ok_RX10_78 isX10_isStation rfl rfl (Nat.le_of_ble_eq_true rfl) (by refine ⟨?_, ?_, ?_, ?_⟩ <;> exact Nat.le_of_ble_eq_true rfl) (c_isStation _) ?_
        rw [hbs]
        refine r_ifB_eq 14 dX10_fewest_4 (by decide) (fun h4 => ?_) (fun h4 => ?_)
        · first | exact absurd h4 (by decide) | exact absurd h11 (by decide)
        · refine r_iload_n 2 dX10_fewest_7 rfl rfl ?_
          refine r_callSp [_] dX10_fewest_8 ok_RX10_78 isX10_isStation rfl rfl (Nat.le_of_ble_eq_true rfl) (by refine ⟨?_, ?_, ?_, ?_⟩ <;> exact Nat.le_of_ble_eq_true rfl) (c_isStation _) ?_
          rw [hbt]
          refine r_ifB_ne 16 dX10_fewest_11 (by decide) (fun h11 => ?_) (fun h11 => ?_)
          · refine r_iload_n 1 dX10_fewest_16 rfl rfl ?_
            refine r_iload_n 2 dX10_fewest_17 rfl rfl ?_
            refine r_icmp_ne 24 dX10_fewest_18 (by decide) (fun h18 => ?_) (fun h18 => ?_)
            · refine r_aload_n 0 dX10_fewest_24 rfl rfl ?_
              refine r_callVx [] dX10_fewest_25 ok_RX10_81 ivX10_readName (by assumption) ⟨_, _, rfl⟩ rfl rfl (Nat.le_of_ble_eq_true rfl) (by refine ⟨?_, ?_, ?_, ?_⟩ <;> exact Nat.le_of_ble_eq_true rfl) (rn_none hL hR.1 hok.1 hp) ?_
              intro mA uA
              refine r_istore_n 3 (ls2 := [_, _, _, _]) dX10_fewest_28 rfl (by decide) (Nat.le_of_ble_eq_true rfl) rfl ?_
              refine r_iload_n 3 dX10_fewest_29 rfl rfl ?_
              refine r_if_ge 36 dX10_fewest_30 (by decide) (fun h30 => ?_) (fun h30 => ?_)
              · exact absurd h30 (by decide)
              · refine r_bipush (v := -7) dX10_fewest_33 (by decide) ?_
                refine r_iret dX10_fewest_35 rfl (Nat.le_of_ble_eq_true rfl) (Nat.le_of_ble_eq_true rfl) ?_
                exact ⟨rfl, rfl, rfl, PM.scr hR uA⟩
            · exact absurd h18 hst
          · first | exact absurd h4 (by decide) | exact absurd h11 (by decide)
      | some f =>
        have hf := prsN_ok hp
        have hlt := okL_27 hf
        have hsp : sp_fewest σ s t = (match (List.range 7).find? (fun h => hits σ.2.1 none (sk s) (sk t) f (h + 1)) with
          | some h => nI (h + 1)
          | none => -6, σ) := by unfold sp_fewest; rw [if_neg (by rw [hb]; decide), if_neg hst, hp]; rfl
        obtain ⟨k, hk, rfl⟩ := st_ex hbs
        obtain ⟨q, hq, rfl⟩ := st_ex hbt
        rw [sk_nI (by omega), sk_nI (by omega)] at hsp
        rw [hsp]
        have hkq : k ≠ q := fun e => hst (by rw [e])
        obtain ⟨PP, hPP⟩ : ∃ PP, PP = PM mi o (match (List.range 7).find? (fun h => hits σ.2.1 none k q f (h + 1)) with | some h => nI (h + 1) | none => -6, σ) := ⟨_, rfl⟩
        rw [← hPP]
        have H : ∀ (b i : Nat) (m : MI), i + b = 7 → (∀ j, j < i → hits σ.2.1 none k q f (j + 1) = false) → RR m o σ → Oth mi m o (o + 11) → Wp yX10_fewest cX10_fewest 5 (some .int) (EI 7 z sh mr PP) 0 0 39 [.ref o, .int (nI k), .int (nI q), .int (nI (en 27 f)), .int (nI (i + 1))] [] z sh m mr := by
          intro b
          induction b with
          | zero =>
            intro i m hi hno hRm hO
            have hi : i = 7 := hi
            subst hi
            refine r_iload 4 dX10_fewest_39 rfl ?_
            refine r_bipush (v := nI 7) dX10_fewest_41 (by decide) ?_
            refine r_icmpN_gt 73 dX10_fewest_43 (by decide) (by omega) (by omega) (fun h43 => ?_) (fun h43 => ?_)
            · refine r_bipush (v := -6) dX10_fewest_73 (by decide) ?_
              refine r_iret dX10_fewest_75 rfl (Nat.le_of_ble_eq_true rfl) (Nat.le_of_ble_eq_true rfl) ?_
              refine ⟨rfl, rfl, rfl, ?_⟩
              rw [hPP, show (List.range 7).find? (fun h => hits σ.2.1 none k q f (h + 1)) = none from fr_no hno]
              exact ⟨rfl, hRm, hO⟩
            · omega
          | succ b ih =>
            intro i m hi hno hRm hO
            have hr64 := rea_lt σ.2.1 none k f (i + 1)
            have hrb := rea_bit σ.2.1 none k f (i + 1) hq
            have hbn := bn_le (hits σ.2.1 none k q f (i + 1))
            generalize hrs : reaS σ.2.1 none k f (i + 1) = RS at hr64 hrb
            refine r_iload 4 dX10_fewest_39 rfl ?_
            refine r_bipush (v := nI 7) dX10_fewest_41 (by decide) ?_
            refine r_icmpN_gt 73 dX10_fewest_43 (by decide) (by omega) (by omega) (fun h43 => ?_) (fun h43 => ?_)
            · omega
            · refine r_aload_n 0 dX10_fewest_46 rfl rfl ?_
              refine r_iload_n 1 dX10_fewest_47 rfl rfl ?_
              refine r_iload_n 3 dX10_fewest_48 rfl rfl ?_
              refine r_iload 4 dX10_fewest_49 rfl ?_
              refine r_bipush (v := -6) dX10_fewest_51 (by decide) ?_
              refine r_callVx [_, _, _, _] dX10_fewest_53 ok_RX10_199 ivX10_reachFrom (by assumption) ⟨_, _, rfl⟩ rfl rfl (Nat.le_of_ble_eq_true rfl) (by refine ⟨?_, ?_, ?_, ?_⟩ <;> exact Nat.le_of_ble_eq_true rfl) (m_reachFrom hL hRm hok hk hf (by omega) (by omega) (Or.inl ⟨rfl, rfl⟩)) ?_
              intro mB ⟨v1, v2, v3, v4, v5⟩
              rw [hrs]
              refine r_iload_n 2 dX10_fewest_56 rfl rfl ?_
              refine r_ishrN dX10_fewest_57 (by omega) (by omega) ?_
              refine r_iconst (v := nI 1) dX10_fewest_58 (by decide) ?_
              refine r_iandN dX10_fewest_59 ?_
              rw [hrb]
              refine r_iconst (v := nI 1) dX10_fewest_60 (by decide) ?_
              refine r_icmpN_ne 67 dX10_fewest_61 (by decide) (by omega) (by omega) (fun h61 => ?_) (fun h61 => ?_)
              · refine r_iincN 4 (b := 1) (ls2 := [_, _, _, _, _]) dX10_fewest_67 rfl (by decide) (by decide) rfl ?_
                refine r_goto 39 dX10_fewest_70 (by decide) ?_
                have hh : hits σ.2.1 none k q f (i + 1) = false := by (cases hz : hits σ.2.1 none k q f (i + 1); rfl; (rw [hz] at h61; exact absurd rfl h61))
                refine ih (i + 1) mB (by omega) (fun j hj => ?_) v1 (hO.trans v2)
                rcases Nat.lt_or_ge j i with c | c
                · exact hno j c
                · rw [show j = i by omega]; exact hh
              · refine r_iload 4 dX10_fewest_64 rfl ?_
                refine r_iret dX10_fewest_66 rfl (Nat.le_of_ble_eq_true rfl) (Nat.le_of_ble_eq_true rfl) ?_
                have hh : hits σ.2.1 none k q f (i + 1) = true := by (cases hz : hits σ.2.1 none k q f (i + 1); (rw [hz] at h61; cases h61); rfl)
                refine ⟨rfl, rfl, rfl, ?_⟩
                rw [hPP, show (List.range 7).find? (fun h => hits σ.2.1 none k q f (h + 1)) = some i from fr_at (by omega) hh hno]
                exact ⟨rfl, v1, hO.trans v2⟩
        refine Mv.of pnX10_fewest (Nat.le_of_ble_eq_true rfl) rfl ?_
        refine r_iload_n 1 dX10_fewest_0 rfl rfl ?_
        refine r_callSp [_] dX10_fewest_1 ok_RX10_78 isX10_isStation rfl rfl (Nat.le_of_ble_eq_true rfl) (by refine ⟨?_, ?_, ?_, ?_⟩ <;> exact Nat.le_of_ble_eq_true rfl) (c_isStation _) ?_
        rw [hbs]
        refine r_ifB_eq 14 dX10_fewest_4 (by decide) (fun h4 => ?_) (fun h4 => ?_)
        · first | exact absurd h4 (by decide) | exact absurd h11 (by decide)
        · refine r_iload_n 2 dX10_fewest_7 rfl rfl ?_
          refine r_callSp [_] dX10_fewest_8 ok_RX10_78 isX10_isStation rfl rfl (Nat.le_of_ble_eq_true rfl) (by refine ⟨?_, ?_, ?_, ?_⟩ <;> exact Nat.le_of_ble_eq_true rfl) (c_isStation _) ?_
          rw [hbt]
          refine r_ifB_ne 16 dX10_fewest_11 (by decide) (fun h11 => ?_) (fun h11 => ?_)
          · refine r_iload_n 1 dX10_fewest_16 rfl rfl ?_
            refine r_iload_n 2 dX10_fewest_17 rfl rfl ?_
            refine r_icmpN_ne 24 dX10_fewest_18 (by decide) (by omega) (by omega) (fun h18 => ?_) (fun h18 => ?_)
            · refine r_aload_n 0 dX10_fewest_24 rfl rfl ?_
              refine r_callVx [] dX10_fewest_25 ok_RX10_81 ivX10_readName (by assumption) ⟨_, _, rfl⟩ rfl rfl (Nat.le_of_ble_eq_true rfl) (by refine ⟨?_, ?_, ?_, ?_⟩ <;> exact Nat.le_of_ble_eq_true rfl) (rn_some hL hR.1 hok.1 hp) ?_
              intro mA uA
              have uR := hR.scr uA
              refine r_istore_n 3 (ls2 := [_, _, _, _]) dX10_fewest_28 rfl (by decide) (Nat.le_of_ble_eq_true rfl) rfl ?_
              refine r_iload_n 3 dX10_fewest_29 rfl rfl ?_
              refine r_ifN_ge 36 dX10_fewest_30 (by decide) (by omega) ?_
              refine r_iconst (v := nI 1) dX10_fewest_36 (by decide) ?_
              refine r_istore 4 (ls2 := [_, _, _, _, _]) dX10_fewest_37 (by decide) (Nat.le_of_ble_eq_true rfl) rfl ?_
              exact H 7 0 mA rfl (fun j hj => by omega) uR uA.oth
            · exact absurd h18 hkq
          · first | exact absurd h4 (by decide) | exact absurd h11 (by decide)
  · have hb' : (stB s && stB t) = false := by simpa using hb
    have hsp : sp_fewest σ s t = (-1, σ) := by unfold sp_fewest; rw [if_pos hb']
    rw [hsp]
    refine Mv.of pnX10_fewest (Nat.le_of_ble_eq_true rfl) rfl ?_
    refine r_iload_n 1 dX10_fewest_0 rfl rfl ?_
    refine r_callSp [_] dX10_fewest_1 ok_RX10_78 isX10_isStation rfl rfl (Nat.le_of_ble_eq_true rfl) (by refine ⟨?_, ?_, ?_, ?_⟩ <;> exact Nat.le_of_ble_eq_true rfl) (c_isStation _) ?_
    refine r_ifB_eq 14 dX10_fewest_4 (by decide) (fun h4 => ?_) (fun h4 => ?_)
    · refine r_iconst (v := -1) dX10_fewest_14 (by decide) ?_
      refine r_iret dX10_fewest_15 rfl (Nat.le_of_ble_eq_true rfl) (Nat.le_of_ble_eq_true rfl) ?_
      exact ⟨rfl, rfl, rfl, PM.same hR⟩
    · refine r_iload_n 2 dX10_fewest_7 rfl rfl ?_
      refine r_callSp [_] dX10_fewest_8 ok_RX10_78 isX10_isStation rfl rfl (Nat.le_of_ble_eq_true rfl) (by refine ⟨?_, ?_, ?_, ?_⟩ <;> exact Nat.le_of_ble_eq_true rfl) (c_isStation _) ?_
      refine r_ifB_ne 16 dX10_fewest_11 (by decide) (fun h11 => ?_) (fun h11 => ?_)
      · rw [h4, h11] at hb'
        cases hb'
      · refine r_iconst (v := -1) dX10_fewest_14 (by decide) ?_
        refine r_iret dX10_fewest_15 rfl (Nat.le_of_ble_eq_true rfl) (Nat.le_of_ble_eq_true rfl) ?_
        exact ⟨rfl, rfl, rfl, PM.same hR⟩
theorem n_bridges (hL : LM sh mr o) {σ : Al} {N : Nat} (hR : RR mi o σ) (hok : okA σ N) (s t n : Int32) : Mi mX10_bridges 7 [.ref o, .int s, .int t, .int n] z sh mi mr (PM mi o (sp_bridges σ s t n)) := by
  obtain ⟨l0, -⟩ := id hL
  by_cases hb : (stB s && stB t) = true
  · have hbs : stB s = true := by simp at hb; exact hb.1
    have hbt : stB t = true := by simp at hb; exact hb.2
    by_cases hc : s = t ∨ inB n (nI 1) (nI 7) = false
    · have hsp : sp_bridges σ s t n = (-2, σ) := by unfold sp_bridges; rw [if_neg (by rw [hb]; decide), if_pos hc]
      rw [hsp]
      refine Mv.of pnX10_bridges (Nat.le_of_ble_eq_true rfl) rfl ?_
      refine r_iload_n 1 dX10_bridges_0 rfl rfl ?_
      refine r_callSp [_] dX10_bridges_1 ok_RX10_78 isX10_isStation rfl rfl (Nat.le_of_ble_eq_true rfl) (by refine ⟨?_, ?_, ?_, ?_⟩ <;> exact Nat.le_of_ble_eq_true rfl) (c_isStation _) ?_
      rw [hbs]
      refine r_ifB_eq 14 dX10_bridges_4 (by decide) (fun h4 => ?_) (fun h4 => ?_)
      · first | exact absurd h4 (by decide) | exact absurd h11 (by decide)
      · refine r_iload_n 2 dX10_bridges_7 rfl rfl ?_
        refine r_callSp [_] dX10_bridges_8 ok_RX10_78 isX10_isStation rfl rfl (Nat.le_of_ble_eq_true rfl) (by refine ⟨?_, ?_, ?_, ?_⟩ <;> exact Nat.le_of_ble_eq_true rfl) (c_isStation _) ?_
        rw [hbt]
        refine r_ifB_ne 16 dX10_bridges_11 (by decide) (fun h11 => ?_) (fun h11 => ?_)
        · refine r_iload_n 1 dX10_bridges_16 rfl rfl ?_
          refine r_iload_n 2 dX10_bridges_17 rfl rfl ?_
          refine r_icmp_eq 31 dX10_bridges_18 (by decide) (fun h18 => ?_) (fun h18 => ?_)
          · refine r_bipush (v := -2) dX10_bridges_31 (by decide) ?_
            refine r_iret dX10_bridges_33 rfl (Nat.le_of_ble_eq_true rfl) (Nat.le_of_ble_eq_true rfl) ?_
            exact ⟨rfl, rfl, rfl, PM.same hR⟩
          · refine r_iload_n 3 dX10_bridges_21 rfl rfl ?_
            refine r_iconst (v := nI 1) dX10_bridges_22 (by decide) ?_
            refine r_bipush (v := nI 7) dX10_bridges_23 (by decide) ?_
            refine r_callSp [_, _, _] dX10_bridges_25 ok_RX10_41 isX10_in rfl rfl (Nat.le_of_ble_eq_true rfl) (by refine ⟨?_, ?_, ?_, ?_⟩ <;> exact Nat.le_of_ble_eq_true rfl) (c_in _ _ _) ?_
            refine r_ifB_ne 34 dX10_bridges_28 (by decide) (fun h28 => ?_) (fun h28 => ?_)
            · rcases hc with c | c
              · exact absurd c h18
              · rw [c] at h28; cases h28
            · refine r_bipush (v := -2) dX10_bridges_31 (by decide) ?_
              refine r_iret dX10_bridges_33 rfl (Nat.le_of_ble_eq_true rfl) (Nat.le_of_ble_eq_true rfl) ?_
              exact ⟨rfl, rfl, rfl, PM.same hR⟩
        · first | exact absurd h4 (by decide) | exact absurd h11 (by decide)
    · have hst : ¬ s = t := fun e => hc (Or.inl e)
      have hn : inB n (nI 1) (nI 7) = true := by
        have : ¬ inB n (nI 1) (nI 7) = false := fun e => hc (Or.inr e)
        simpa using this
      cases hp : prsN σ.1 with
      | none =>
        have hsp : sp_bridges σ s t n = (-7, σ) := by unfold sp_bridges; rw [if_neg (by rw [hb]; decide), if_neg hc, hp]
        rw [hsp]
        refine Mv.of pnX10_bridges (Nat.le_of_ble_eq_true rfl) rfl ?_
        refine r_iload_n 1 dX10_bridges_0 rfl rfl ?_
        refine r_callSp [_] dX10_bridges_1 ok_RX10_78 isX10_isStation rfl rfl (Nat.le_of_ble_eq_true rfl) (by refine ⟨?_, ?_, ?_, ?_⟩ <;> exact Nat.le_of_ble_eq_true rfl) (c_isStation _) ?_
        rw [hbs]
        refine r_ifB_eq 14 dX10_bridges_4 (by decide) (fun h4 => ?_) (fun h4 => ?_)
        · first | exact absurd h4 (by decide) | exact absurd h11 (by decide)
        · refine r_iload_n 2 dX10_bridges_7 rfl rfl ?_
          refine r_callSp [_] dX10_bridges_8 ok_RX10_78 isX10_isStation rfl rfl (Nat.le_of_ble_eq_true rfl) (by refine ⟨?_, ?_, ?_, ?_⟩ <;> exact Nat.le_of_ble_eq_true rfl) (c_isStation _) ?_
          rw [hbt]
          refine r_ifB_ne 16 dX10_bridges_11 (by decide) (fun h11 => ?_) (fun h11 => ?_)
          · refine r_iload_n 1 dX10_bridges_16 rfl rfl ?_
            refine r_iload_n 2 dX10_bridges_17 rfl rfl ?_
            refine r_icmp_eq 31 dX10_bridges_18 (by decide) (fun h18 => ?_) (fun h18 => ?_)
            · first | exact absurd h28 (by decide) | exact absurd h18 hst
            · refine r_iload_n 3 dX10_bridges_21 rfl rfl ?_
              refine r_iconst (v := nI 1) dX10_bridges_22 (by decide) ?_
              refine r_bipush (v := nI 7) dX10_bridges_23 (by decide) ?_
              refine r_callSp [_, _, _] dX10_bridges_25 ok_RX10_41 isX10_in rfl rfl (Nat.le_of_ble_eq_true rfl) (by refine ⟨?_, ?_, ?_, ?_⟩ <;> exact Nat.le_of_ble_eq_true rfl) (c_in _ _ _) ?_
              rw [hn]
              refine r_ifB_ne 34 dX10_bridges_28 (by decide) (fun h28 => ?_) (fun h28 => ?_)
              · refine r_aload_n 0 dX10_bridges_34 rfl rfl ?_
                refine r_callVx [] dX10_bridges_35 ok_RX10_81 ivX10_readName (by assumption) ⟨_, _, rfl⟩ rfl rfl (Nat.le_of_ble_eq_true rfl) (by refine ⟨?_, ?_, ?_, ?_⟩ <;> exact Nat.le_of_ble_eq_true rfl) (rn_none hL hR.1 hok.1 hp) ?_
                intro mA uA
                refine r_istore 4 (ls2 := [_, _, _, _, _]) dX10_bridges_38 (by decide) (Nat.le_of_ble_eq_true rfl) rfl ?_
                refine r_iload 4 dX10_bridges_40 rfl ?_
                refine r_if_ge 48 dX10_bridges_42 (by decide) (fun h42 => ?_) (fun h42 => ?_)
                · exact absurd h42 (by decide)
                · refine r_bipush (v := -7) dX10_bridges_45 (by decide) ?_
                  refine r_iret dX10_bridges_47 rfl (Nat.le_of_ble_eq_true rfl) (Nat.le_of_ble_eq_true rfl) ?_
                  exact ⟨rfl, rfl, rfl, PM.scr hR uA⟩
              · first | exact absurd h28 (by decide) | exact absurd h18 hst
          · first | exact absurd h4 (by decide) | exact absurd h11 (by decide)
      | some f =>
        have hf := prsN_ok hp
        have hlt := okL_27 hf
        have hsp : sp_bridges σ s t n = (if hits σ.2.1 none (sk s) (sk t) f (sk n) = false then -6 else nI (bs (fun q => decide (q ≠ sk s) && (decide (q ≠ sk t) && !hits σ.2.1 (some q) (sk s) (sk t) f (sk n)))), σ) := by unfold sp_bridges; rw [if_neg (by rw [hb]; decide), if_neg hc, hp]
        obtain ⟨k, hk, rfl⟩ := st_ex hbs
        obtain ⟨q, hq, rfl⟩ := st_ex hbt
        obtain ⟨c, c1, c2, rfl⟩ := inB_ex (by omega) hn (by omega)
        rw [sk_nI (by omega), sk_nI (by omega), sk_nI (by omega)] at hsp
        have hkq : k ≠ q := fun e => hst (by rw [e])
        obtain ⟨PP, hPP⟩ : ∃ PP, PP = PM mi o (sp_bridges σ (nI k) (nI q) (nI c)) := ⟨_, rfl⟩
        rw [← hPP]
        have H : hits σ.2.1 none k q f c = true → ∀ (b i : Nat) (m : MI), i + b = 6 → RR m o σ → Oth mi m o (o + 11) → Wp yX10_bridges cX10_bridges 7 (some .int) (EI 7 z sh mr PP) 0 0 74 [.ref o, .int (nI k), .int (nI q), .int (nI c), .int (nI (en 27 f)), .int (nI (bs (fun u => decide (u < i) && (decide (u ≠ k) && (decide (u ≠ q) && !hits σ.2.1 (some u) k q f c))))), .int (nI i)] [] z sh m mr := by
          intro hh0 b
          induction b with
          | zero =>
            intro i m hi hRm hO
            have hi : i = 6 := hi
            subst hi
            rw [bs_eq (g := fun u => decide (u ≠ k) && (decide (u ≠ q) && !hits σ.2.1 (some u) k q f c)) (fun u hu => by simp [hu])]
            refine r_iload 6 dX10_bridges_74 rfl ?_
            refine r_bipush (v := nI 6) dX10_bridges_76 (by decide) ?_
            refine r_icmpN_ge 129 dX10_bridges_78 (by decide) (by omega) (by omega) (fun h78 => ?_) (fun h78 => ?_)
            · refine r_iload 5 dX10_bridges_129 rfl ?_
              refine r_iret dX10_bridges_131 rfl (Nat.le_of_ble_eq_true rfl) (Nat.le_of_ble_eq_true rfl) ?_
              refine ⟨rfl, rfl, rfl, ?_⟩
              rw [hPP, hsp, if_neg (by rw [hh0]; decide)]
              exact ⟨rfl, hRm, hO⟩
            · omega
          | succ b ih =>
            intro i m hi hRm hO
            have hi6 : i < 6 := by omega
            have hlt6 := bs_lt (fun u => decide (u < i) && (decide (u ≠ k) && (decide (u ≠ q) && !hits σ.2.1 (some u) k q f c)))
            have hr64 := rea_lt σ.2.1 (some i) k f c
            have hrb := rea_bit σ.2.1 (some i) k f c hq
            have hbn := bn_le (hits σ.2.1 (some i) k q f c)
            have hnx : ∀ v : Bool, (v = (decide (i ≠ k) && (decide (i ≠ q) && !hits σ.2.1 (some i) k q f c))) → bs (fun u => decide (u < i + 1) && (decide (u ≠ k) && (decide (u ≠ q) && !hits σ.2.1 (some u) k q f c))) = bs (upB (fun u => decide (u < i) && (decide (u ≠ k) && (decide (u ≠ q) && !hits σ.2.1 (some u) k q f c))) i v) := fun v hv => bs_eq (fun u hu => by
              unfold upB
              by_cases e : u = i
              · subst e; rw [if_pos rfl, hv]; simp
              · have : decide (u < i + 1) = decide (u < i) := by rw [decide_eq_decide]; omega
                rw [if_neg e, this])
            have hsame : upB (fun u => decide (u < i) && (decide (u ≠ k) && (decide (u ≠ q) && !hits σ.2.1 (some u) k q f c))) i false = (fun u => decide (u < i) && (decide (u ≠ k) && (decide (u ≠ q) && !hits σ.2.1 (some u) k q f c))) := by
              funext u
              unfold upB
              by_cases e : u = i
              · subst e; rw [if_pos rfl]; simp
              · rw [if_neg e]
            have hih := fun m => ih (i + 1) m (by omega)
            have h64 : 2 ^ i ≤ 2 ^ 6 := Nat.pow_le_pow_right (by omega) (by omega)
            have skip1 : (decide (i ≠ k) && (decide (i ≠ q) && !hits σ.2.1 (some i) k q f c)) = false → bs (fun u => decide (u < i + 1) && (decide (u ≠ k) && (decide (u ≠ q) && !hits σ.2.1 (some u) k q f c))) = bs (fun u => decide (u < i) && (decide (u ≠ k) && (decide (u ≠ q) && !hits σ.2.1 (some u) k q f c))) := fun e => by rw [hnx false e.symm, hsame]
            have take1 : (decide (i ≠ k) && (decide (i ≠ q) && !hits σ.2.1 (some i) k q f c)) = true → bs (fun u => decide (u < i + 1) && (decide (u ≠ k) && (decide (u ≠ q) && !hits σ.2.1 (some u) k q f c))) = bs (fun u => decide (u < i) && (decide (u ≠ k) && (decide (u ≠ q) && !hits σ.2.1 (some u) k q f c))) ||| 1 * 2 ^ i := fun e => by rw [hnx true e.symm, bs_or _ hi6]
            clear hnx hsame ih
            generalize bs (fun u => decide (u < i + 1) && (decide (u ≠ k) && (decide (u ≠ q) && !hits σ.2.1 (some u) k q f c))) = S2 at hih skip1 take1
            generalize bs (fun u => decide (u < i) && (decide (u ≠ k) && (decide (u ≠ q) && !hits σ.2.1 (some u) k q f c))) = S1 at hlt6 skip1 take1 ⊢
            generalize hrs : reaS σ.2.1 (some i) k f c = RS at hr64 hrb
            refine r_iload 6 dX10_bridges_74 rfl ?_
            refine r_bipush (v := nI 6) dX10_bridges_76 (by decide) ?_
            refine r_icmpN_ge 129 dX10_bridges_78 (by decide) (by omega) (by omega) (fun h78 => ?_) (fun h78 => ?_)
            · omega
            · refine r_iload 6 dX10_bridges_81 rfl ?_
              refine r_iload_n 1 dX10_bridges_83 rfl rfl ?_
              refine r_icmpN_eq 123 dX10_bridges_84 (by decide) (by omega) (by omega) (fun h84 => ?_) (fun h84 => ?_)
              · refine r_iincN 6 (b := 1) (ls2 := [_, _, _, _, _, _, _]) dX10_bridges_123 rfl (by decide) (by decide) rfl ?_
                refine r_goto 74 dX10_bridges_126 (by decide) ?_
                first | (have hh : hits σ.2.1 (some i) k q f c = false := (by cases hz : hits σ.2.1 (some i) k q f c; rfl; (rw [hz] at h109; cases h109)); have e := take1 (by simp [h84, h90, hh]); have hg := hih mB v1 (hO.trans v2); rw [e] at hg; exact hg) | (have hh : hits σ.2.1 (some i) k q f c = true := (by cases hz : hits σ.2.1 (some i) k q f c; (rw [hz] at h109; exact absurd rfl h109); rfl); have e := skip1 (by simp [hh]); have hg := hih mB v1 (hO.trans v2); rw [Nat.or_zero]; rw [e] at hg; exact hg) | (subst h90; have e := skip1 (by simp); have hg := hih m hRm hO; rw [e] at hg; exact hg) | (subst h84; have e := skip1 (by simp); have hg := hih m hRm hO; rw [e] at hg; exact hg)
              · refine r_iload 6 dX10_bridges_87 rfl ?_
                refine r_iload_n 2 dX10_bridges_89 rfl rfl ?_
                refine r_icmpN_eq 123 dX10_bridges_90 (by decide) (by omega) (by omega) (fun h90 => ?_) (fun h90 => ?_)
                · refine r_iincN 6 (b := 1) (ls2 := [_, _, _, _, _, _, _]) dX10_bridges_123 rfl (by decide) (by decide) rfl ?_
                  refine r_goto 74 dX10_bridges_126 (by decide) ?_
                  first | (have hh : hits σ.2.1 (some i) k q f c = false := (by cases hz : hits σ.2.1 (some i) k q f c; rfl; (rw [hz] at h109; cases h109)); have e := take1 (by simp [h84, h90, hh]); have hg := hih mB v1 (hO.trans v2); rw [e] at hg; exact hg) | (have hh : hits σ.2.1 (some i) k q f c = true := (by cases hz : hits σ.2.1 (some i) k q f c; (rw [hz] at h109; exact absurd rfl h109); rfl); have e := skip1 (by simp [hh]); have hg := hih mB v1 (hO.trans v2); rw [Nat.or_zero]; rw [e] at hg; exact hg) | (subst h90; have e := skip1 (by simp); have hg := hih m hRm hO; rw [e] at hg; exact hg) | (subst h84; have e := skip1 (by simp); have hg := hih m hRm hO; rw [e] at hg; exact hg)
                · refine r_iload 5 dX10_bridges_93 rfl ?_
                  refine r_aload_n 0 dX10_bridges_95 rfl rfl ?_
                  refine r_iload_n 1 dX10_bridges_96 rfl rfl ?_
                  refine r_iload 4 dX10_bridges_97 rfl ?_
                  refine r_iload_n 3 dX10_bridges_99 rfl rfl ?_
                  refine r_iload 6 dX10_bridges_100 rfl ?_
                  refine r_callVx [_, _, _, _] dX10_bridges_102 ok_RX10_199 ivX10_reachFrom (by assumption) ⟨_, _, rfl⟩ rfl rfl (Nat.le_of_ble_eq_true rfl) (by refine ⟨?_, ?_, ?_, ?_⟩ <;> exact Nat.le_of_ble_eq_true rfl) (m_reachFrom hL hRm hok hk hf c1 c2 (Or.inr ⟨i, hi6, rfl, rfl⟩)) ?_
                  intro mB ⟨v1, v2, v3, v4, v5⟩
                  rw [hrs]
                  refine r_iload_n 2 dX10_bridges_105 rfl rfl ?_
                  refine r_ishrN dX10_bridges_106 (by omega) (by omega) ?_
                  refine r_iconst (v := nI 1) dX10_bridges_107 (by decide) ?_
                  refine r_iandN dX10_bridges_108 ?_
                  rw [hrb]
                  refine r_ifN_ne 119 dX10_bridges_109 (by decide) (by omega) (fun h109 => ?_) (fun h109 => ?_)
                  · refine r_iconst (v := nI 0) dX10_bridges_119 (by decide) ?_
                    refine r_iorN dX10_bridges_120 ?_
                    refine r_istore 5 (ls2 := [_, _, _, _, _, _, _]) dX10_bridges_121 (by decide) (Nat.le_of_ble_eq_true rfl) rfl ?_
                    refine r_iincN 6 (b := 1) (ls2 := [_, _, _, _, _, _, _]) dX10_bridges_123 rfl (by decide) (by decide) rfl ?_
                    refine r_goto 74 dX10_bridges_126 (by decide) ?_
                    first | (have hh : hits σ.2.1 (some i) k q f c = false := (by cases hz : hits σ.2.1 (some i) k q f c; rfl; (rw [hz] at h109; cases h109)); have e := take1 (by simp [h84, h90, hh]); have hg := hih mB v1 (hO.trans v2); rw [e] at hg; exact hg) | (have hh : hits σ.2.1 (some i) k q f c = true := (by cases hz : hits σ.2.1 (some i) k q f c; (rw [hz] at h109; exact absurd rfl h109); rfl); have e := skip1 (by simp [hh]); have hg := hih mB v1 (hO.trans v2); rw [Nat.or_zero]; rw [e] at hg; exact hg) | (subst h90; have e := skip1 (by simp); have hg := hih m hRm hO; rw [e] at hg; exact hg) | (subst h84; have e := skip1 (by simp); have hg := hih m hRm hO; rw [e] at hg; exact hg)
                  · refine r_iconst (v := nI 1) dX10_bridges_112 (by decide) ?_
                    refine r_iload 6 dX10_bridges_113 rfl ?_
                    refine r_ishlN dX10_bridges_115 (by omega) (by omega) ?_
                    refine r_goto 120 dX10_bridges_116 (by decide) ?_
                    refine r_iorN dX10_bridges_120 ?_
                    refine r_istore 5 (ls2 := [_, _, _, _, _, _, _]) dX10_bridges_121 (by decide) (Nat.le_of_ble_eq_true rfl) rfl ?_
                    refine r_iincN 6 (b := 1) (ls2 := [_, _, _, _, _, _, _]) dX10_bridges_123 rfl (by decide) (by decide) rfl ?_
                    refine r_goto 74 dX10_bridges_126 (by decide) ?_
                    first | (have hh : hits σ.2.1 (some i) k q f c = false := (by cases hz : hits σ.2.1 (some i) k q f c; rfl; (rw [hz] at h109; cases h109)); have e := take1 (by simp [h84, h90, hh]); have hg := hih mB v1 (hO.trans v2); rw [e] at hg; exact hg) | (have hh : hits σ.2.1 (some i) k q f c = true := (by cases hz : hits σ.2.1 (some i) k q f c; (rw [hz] at h109; exact absurd rfl h109); rfl); have e := skip1 (by simp [hh]); have hg := hih mB v1 (hO.trans v2); rw [Nat.or_zero]; rw [e] at hg; exact hg) | (subst h90; have e := skip1 (by simp); have hg := hih m hRm hO; rw [e] at hg; exact hg) | (subst h84; have e := skip1 (by simp); have hg := hih m hRm hO; rw [e] at hg; exact hg)
        have hr64 := rea_lt σ.2.1 none k f c
        have hrb := rea_bit σ.2.1 none k f c hq
        have hbn := bn_le (hits σ.2.1 none k q f c)
        generalize hrs : reaS σ.2.1 none k f c = RS at hr64 hrb
        refine Mv.of pnX10_bridges (Nat.le_of_ble_eq_true rfl) rfl ?_
        refine r_iload_n 1 dX10_bridges_0 rfl rfl ?_
        refine r_callSp [_] dX10_bridges_1 ok_RX10_78 isX10_isStation rfl rfl (Nat.le_of_ble_eq_true rfl) (by refine ⟨?_, ?_, ?_, ?_⟩ <;> exact Nat.le_of_ble_eq_true rfl) (c_isStation _) ?_
        rw [hbs]
        refine r_ifB_eq 14 dX10_bridges_4 (by decide) (fun h4 => ?_) (fun h4 => ?_)
        · first | exact absurd h4 (by decide) | exact absurd h11 (by decide)
        · refine r_iload_n 2 dX10_bridges_7 rfl rfl ?_
          refine r_callSp [_] dX10_bridges_8 ok_RX10_78 isX10_isStation rfl rfl (Nat.le_of_ble_eq_true rfl) (by refine ⟨?_, ?_, ?_, ?_⟩ <;> exact Nat.le_of_ble_eq_true rfl) (c_isStation _) ?_
          rw [hbt]
          refine r_ifB_ne 16 dX10_bridges_11 (by decide) (fun h11 => ?_) (fun h11 => ?_)
          · refine r_iload_n 1 dX10_bridges_16 rfl rfl ?_
            refine r_iload_n 2 dX10_bridges_17 rfl rfl ?_
            refine r_icmpN_eq 31 dX10_bridges_18 (by decide) (by omega) (by omega) (fun h18 => ?_) (fun h18 => ?_)
            · first | exact absurd h28 (by decide) | exact absurd h18 hkq
            · refine r_iload_n 3 dX10_bridges_21 rfl rfl ?_
              refine r_iconst (v := nI 1) dX10_bridges_22 (by decide) ?_
              refine r_bipush (v := nI 7) dX10_bridges_23 (by decide) ?_
              refine r_callSp [_, _, _] dX10_bridges_25 ok_RX10_41 isX10_in rfl rfl (Nat.le_of_ble_eq_true rfl) (by refine ⟨?_, ?_, ?_, ?_⟩ <;> exact Nat.le_of_ble_eq_true rfl) (c_in _ _ _) ?_
              rw [hn]
              refine r_ifB_ne 34 dX10_bridges_28 (by decide) (fun h28 => ?_) (fun h28 => ?_)
              · refine r_aload_n 0 dX10_bridges_34 rfl rfl ?_
                refine r_callVx [] dX10_bridges_35 ok_RX10_81 ivX10_readName (by assumption) ⟨_, _, rfl⟩ rfl rfl (Nat.le_of_ble_eq_true rfl) (by refine ⟨?_, ?_, ?_, ?_⟩ <;> exact Nat.le_of_ble_eq_true rfl) (rn_some hL hR.1 hok.1 hp) ?_
                intro mA uA
                have uR := hR.scr uA
                refine r_istore 4 (ls2 := [_, _, _, _, _]) dX10_bridges_38 (by decide) (Nat.le_of_ble_eq_true rfl) rfl ?_
                refine r_iload 4 dX10_bridges_40 rfl ?_
                refine r_ifN_ge 48 dX10_bridges_42 (by decide) (by omega) ?_
                refine r_aload_n 0 dX10_bridges_48 rfl rfl ?_
                refine r_iload_n 1 dX10_bridges_49 rfl rfl ?_
                refine r_iload 4 dX10_bridges_50 rfl ?_
                refine r_iload_n 3 dX10_bridges_52 rfl rfl ?_
                refine r_bipush (v := -6) dX10_bridges_53 (by decide) ?_
                refine r_callVx [_, _, _, _] dX10_bridges_55 ok_RX10_199 ivX10_reachFrom (by assumption) ⟨_, _, rfl⟩ rfl rfl (Nat.le_of_ble_eq_true rfl) (by refine ⟨?_, ?_, ?_, ?_⟩ <;> exact Nat.le_of_ble_eq_true rfl) (m_reachFrom hL uR hok hk hf c1 c2 (Or.inl ⟨rfl, rfl⟩)) ?_
                intro mB ⟨v1, v2, v3, v4, v5⟩
                rw [hrs]
                refine r_iload_n 2 dX10_bridges_58 rfl rfl ?_
                refine r_ishrN dX10_bridges_59 (by omega) (by omega) ?_
                refine r_iconst (v := nI 1) dX10_bridges_60 (by decide) ?_
                refine r_iandN dX10_bridges_61 ?_
                rw [hrb]
                refine r_ifN_ne 68 dX10_bridges_62 (by decide) (by omega) (fun h62 => ?_) (fun h62 => ?_)
                · refine r_iconst (v := nI 0) dX10_bridges_68 (by decide) ?_
                  refine r_istore 5 (ls2 := [_, _, _, _, _, _]) dX10_bridges_69 (by decide) (Nat.le_of_ble_eq_true rfl) rfl ?_
                  refine r_iconst (v := nI 0) dX10_bridges_71 (by decide) ?_
                  refine r_istore 6 (ls2 := [_, _, _, _, _, _, _]) dX10_bridges_72 (by decide) (Nat.le_of_ble_eq_true rfl) rfl ?_
                  have hh : hits σ.2.1 none k q f c = true := by (cases hz : hits σ.2.1 none k q f c; (rw [hz] at h62; exact absurd rfl h62); rfl)
                  have hg := H hh 6 0 mB rfl v1 (fun y hy => (v2 y hy).trans (uA.oth y hy))
                  rw [bs_eq (g := fun _ => false) (fun u hu => by simp)] at hg
                  exact hg
                · refine r_bipush (v := -6) dX10_bridges_65 (by decide) ?_
                  refine r_iret dX10_bridges_67 rfl (Nat.le_of_ble_eq_true rfl) (Nat.le_of_ble_eq_true rfl) ?_
                  have hh : hits σ.2.1 none k q f c = false := by (cases hz : hits σ.2.1 none k q f c; rfl; (rw [hz] at h62; cases h62))
                  refine ⟨rfl, rfl, rfl, ?_⟩
                  rw [hPP, hsp, if_pos hh]
                  exact ⟨rfl, v1, fun y hy => (v2 y hy).trans (uA.oth y hy)⟩
              · first | exact absurd h28 (by decide) | exact absurd h18 hkq
          · first | exact absurd h4 (by decide) | exact absurd h11 (by decide)
  · have hb' : (stB s && stB t) = false := by simpa using hb
    have hsp : sp_bridges σ s t n = (-1, σ) := by unfold sp_bridges; rw [if_pos hb']
    rw [hsp]
    refine Mv.of pnX10_bridges (Nat.le_of_ble_eq_true rfl) rfl ?_
    refine r_iload_n 1 dX10_bridges_0 rfl rfl ?_
    refine r_callSp [_] dX10_bridges_1 ok_RX10_78 isX10_isStation rfl rfl (Nat.le_of_ble_eq_true rfl) (by refine ⟨?_, ?_, ?_, ?_⟩ <;> exact Nat.le_of_ble_eq_true rfl) (c_isStation _) ?_
    refine r_ifB_eq 14 dX10_bridges_4 (by decide) (fun h4 => ?_) (fun h4 => ?_)
    · refine r_iconst (v := -1) dX10_bridges_14 (by decide) ?_
      refine r_iret dX10_bridges_15 rfl (Nat.le_of_ble_eq_true rfl) (Nat.le_of_ble_eq_true rfl) ?_
      exact ⟨rfl, rfl, rfl, PM.same hR⟩
    · refine r_iload_n 2 dX10_bridges_7 rfl rfl ?_
      refine r_callSp [_] dX10_bridges_8 ok_RX10_78 isX10_isStation rfl rfl (Nat.le_of_ble_eq_true rfl) (by refine ⟨?_, ?_, ?_, ?_⟩ <;> exact Nat.le_of_ble_eq_true rfl) (c_isStation _) ?_
      refine r_ifB_ne 16 dX10_bridges_11 (by decide) (fun h11 => ?_) (fun h11 => ?_)
      · rw [h4, h11] at hb'
        cases hb'
      · refine r_iconst (v := -1) dX10_bridges_14 (by decide) ?_
        refine r_iret dX10_bridges_15 rfl (Nat.le_of_ble_eq_true rfl) (Nat.le_of_ble_eq_true rfl) ?_
        exact ⟨rfl, rfl, rfl, PM.same hR⟩
end RAPI6
