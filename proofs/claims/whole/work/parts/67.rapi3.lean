section RAPI3
variable {z : Nat} {sh : SH} {mi : MI} {mr : MR} {o : Nat}
theorem n_forget (hL : LM sh mr o) {σ : Al} {N : Nat} (hR : RR mi o σ) (hok : okA σ N) (s w : Int32) : Mi mX10_forget 2 [.ref o, .int s, .int w] z sh mi mr (PM mi o (sp_forget σ s w)) := by
  obtain ⟨l0, ⟨l1, l2⟩, -⟩ := id hL
  by_cases hb : stB s = true
  · by_cases hw : inB w (nI 1) (nI 2) = true
    · obtain ⟨k, hk, rfl⟩ := st_ex hb
      have hkk : sk (nI k) = k := sk_nI (by omega)
      obtain ⟨j, j1, j2, rfl⟩ := inB_ex (by omega) hw (by omega)
      have hse := (hok.2.1.1.1 k hk).1
      have hseM := (hR.2.1.1.1 k hk).1
      have g1 := hseM.2.1.1
      have g2 := hseM.2.2.1.1
      have hj : j = 1 ∨ j = 2 := by omega
      rcases hj with rfl | rfl
      · have hsp : sp_forget σ (nI k) (nI 1) = (nI (stA σ k).1.2.1.length, upA σ k (((stA σ k).1.1, [], (stA σ k).1.2.2), (stA σ k).2)) := by
          unfold sp_forget
          rw [if_neg (by rw [hb]; decide), if_neg (by rw [hw]; decide), if_pos rfl, hkk]
        refine Mv.of pnX10_forget (Nat.le_of_ble_eq_true rfl) rfl ?_
        refine r_iload_n 1 dX10_forget_0 rfl rfl ?_
        refine r_callSp [_] dX10_forget_1 ok_RX10_78 isX10_isStation rfl rfl (Nat.le_of_ble_eq_true rfl) (by refine ⟨?_, ?_, ?_, ?_⟩ <;> exact Nat.le_of_ble_eq_true rfl) (c_isStation _) ?_
        rw [hb]
        refine r_ifB_ne 9 dX10_forget_4 (by decide) (fun h4 => ?_) (fun h4 => ?_)
        · refine r_iload_n 2 dX10_forget_9 rfl rfl ?_
          refine r_iconst (v := nI 1) dX10_forget_10 (by decide) ?_
          refine r_iconst (v := nI 2) dX10_forget_11 (by decide) ?_
          refine r_callSp [_, _, _] dX10_forget_12 ok_RX10_41 isX10_in rfl rfl (Nat.le_of_ble_eq_true rfl) (by refine ⟨?_, ?_, ?_, ?_⟩ <;> exact Nat.le_of_ble_eq_true rfl) (c_in _ _ _) ?_
          rw [hw]
          refine r_ifB_ne 21 dX10_forget_15 (by decide) (fun h15 => ?_) (fun h15 => ?_)
          · refine r_iload_n 2 dX10_forget_21 rfl rfl ?_
            refine r_iconst (v := nI 1) dX10_forget_22 (by decide) ?_
            refine r_icmpN_ne 31 dX10_forget_23 (by decide) (by omega) (by omega) (fun h23 => ?_) (fun h23 => ?_)
            · omega
            · refine r_bipush (v := nI 18) dX10_forget_26 (by decide) ?_
              refine r_goto 33 dX10_forget_28 (by decide) ?_
              refine r_istore_n 3 (ls2 := [_, _, _, _]) dX10_forget_33 rfl (by decide) (Nat.le_of_ble_eq_true rfl) rfl ?_
              refine r_aload_n 0 dX10_forget_34 rfl rfl ?_
              refine r_getR dX10_forget_35 fl_RX10_7 rfl (by assumption) (by assumption) ?_
              refine r_iload_n 3 dX10_forget_38 rfl rfl ?_
              refine r_iload_n 1 dX10_forget_39 rfl rfl ?_
              refine r_iaddN dX10_forget_40 ?_
              refine r_ialdV dX10_forget_41 (by assumption) (by omega) (by omega) (by first | assumption | exact up2_same _ _ _ _ | exact (Eq.trans (up2_ne _ _ (by omega)) (by first | assumption | exact up2_same _ _ _ _)) | exact (Eq.trans (up2_ne _ _ (by omega)) (Eq.trans (up2_ne _ _ (by omega)) (by first | assumption | exact up2_same _ _ _ _))) | exact (Eq.trans (up2_ne _ _ (by omega)) (Eq.trans (up2_ne _ _ (by omega)) (Eq.trans (up2_ne _ _ (by omega)) (by first | assumption | exact up2_same _ _ _ _)))) | exact (Eq.trans (up2_ne _ _ (by omega)) (Eq.trans (up2_ne _ _ (by omega)) (Eq.trans (up2_ne _ _ (by omega)) (Eq.trans (up2_ne _ _ (by omega)) (by first | assumption | exact up2_same _ _ _ _))))) | rfl) ?_
              refine r_istore 4 (ls2 := [_, _, _, _, _]) dX10_forget_42 (by decide) (Nat.le_of_ble_eq_true rfl) rfl ?_
              refine r_aload_n 0 dX10_forget_44 rfl rfl ?_
              refine r_getR dX10_forget_45 fl_RX10_7 rfl (by assumption) (by assumption) ?_
              refine r_iload_n 3 dX10_forget_48 rfl rfl ?_
              refine r_iload_n 1 dX10_forget_49 rfl rfl ?_
              refine r_iaddN dX10_forget_50 ?_
              refine r_iconst (v := nI 0) dX10_forget_51 (by decide) ?_
              refine r_iast dX10_forget_52 (by assumption) (by omega) (by omega) ?_
              refine r_iload 4 dX10_forget_53 rfl ?_
              refine r_iret dX10_forget_55 rfl (Nat.le_of_ble_eq_true rfl) (Nat.le_of_ble_eq_true rfl) ?_
              refine ⟨rfl, rfl, rfl, ?_⟩
              rw [hsp]
              exact ⟨rfl, hR.se (se' := ((stA σ k).1.1, [], (stA σ k).1.2.2)) hok hk (Fr.up (ow_se hk (by omega)).1 (Nat.zero_le _) (by omega)) (hseM.stc hk hse (up2_same _ _ _ _) (fun i hi => up2_ne _ _ (Or.inr hi))) (hR.1.keep (by rw [up2_row _ _ (by omega)]) (up2_row _ _ (by omega))) (up2_row _ _ (by omega)) (up2_row _ _ (by omega)), fun q hq => up2_row _ _ (by omega)⟩
          · exact absurd h15 (by decide)
        · exact absurd h4 (by decide)
      · have hsp : sp_forget σ (nI k) (nI 2) = (nI (stA σ k).1.2.2.1.length, upA σ k (((stA σ k).1.1, (stA σ k).1.2.1, [], (stA σ k).1.2.2.2), (stA σ k).2)) := by
          unfold sp_forget
          rw [if_neg (by rw [hb]; decide), if_neg (by rw [hw]; decide), if_neg (by decide), hkk]
        refine Mv.of pnX10_forget (Nat.le_of_ble_eq_true rfl) rfl ?_
        refine r_iload_n 1 dX10_forget_0 rfl rfl ?_
        refine r_callSp [_] dX10_forget_1 ok_RX10_78 isX10_isStation rfl rfl (Nat.le_of_ble_eq_true rfl) (by refine ⟨?_, ?_, ?_, ?_⟩ <;> exact Nat.le_of_ble_eq_true rfl) (c_isStation _) ?_
        rw [hb]
        refine r_ifB_ne 9 dX10_forget_4 (by decide) (fun h4 => ?_) (fun h4 => ?_)
        · refine r_iload_n 2 dX10_forget_9 rfl rfl ?_
          refine r_iconst (v := nI 1) dX10_forget_10 (by decide) ?_
          refine r_iconst (v := nI 2) dX10_forget_11 (by decide) ?_
          refine r_callSp [_, _, _] dX10_forget_12 ok_RX10_41 isX10_in rfl rfl (Nat.le_of_ble_eq_true rfl) (by refine ⟨?_, ?_, ?_, ?_⟩ <;> exact Nat.le_of_ble_eq_true rfl) (c_in _ _ _) ?_
          rw [hw]
          refine r_ifB_ne 21 dX10_forget_15 (by decide) (fun h15 => ?_) (fun h15 => ?_)
          · refine r_iload_n 2 dX10_forget_21 rfl rfl ?_
            refine r_iconst (v := nI 1) dX10_forget_22 (by decide) ?_
            refine r_icmpN_ne 31 dX10_forget_23 (by decide) (by omega) (by omega) (fun h23 => ?_) (fun h23 => ?_)
            · refine r_bipush (v := nI 36) dX10_forget_31 (by decide) ?_
              refine r_istore_n 3 (ls2 := [_, _, _, _]) dX10_forget_33 rfl (by decide) (Nat.le_of_ble_eq_true rfl) rfl ?_
              refine r_aload_n 0 dX10_forget_34 rfl rfl ?_
              refine r_getR dX10_forget_35 fl_RX10_7 rfl (by assumption) (by assumption) ?_
              refine r_iload_n 3 dX10_forget_38 rfl rfl ?_
              refine r_iload_n 1 dX10_forget_39 rfl rfl ?_
              refine r_iaddN dX10_forget_40 ?_
              refine r_ialdV dX10_forget_41 (by assumption) (by omega) (by omega) (by first | assumption | exact up2_same _ _ _ _ | exact (Eq.trans (up2_ne _ _ (by omega)) (by first | assumption | exact up2_same _ _ _ _)) | exact (Eq.trans (up2_ne _ _ (by omega)) (Eq.trans (up2_ne _ _ (by omega)) (by first | assumption | exact up2_same _ _ _ _))) | exact (Eq.trans (up2_ne _ _ (by omega)) (Eq.trans (up2_ne _ _ (by omega)) (Eq.trans (up2_ne _ _ (by omega)) (by first | assumption | exact up2_same _ _ _ _)))) | exact (Eq.trans (up2_ne _ _ (by omega)) (Eq.trans (up2_ne _ _ (by omega)) (Eq.trans (up2_ne _ _ (by omega)) (Eq.trans (up2_ne _ _ (by omega)) (by first | assumption | exact up2_same _ _ _ _))))) | rfl) ?_
              refine r_istore 4 (ls2 := [_, _, _, _, _]) dX10_forget_42 (by decide) (Nat.le_of_ble_eq_true rfl) rfl ?_
              refine r_aload_n 0 dX10_forget_44 rfl rfl ?_
              refine r_getR dX10_forget_45 fl_RX10_7 rfl (by assumption) (by assumption) ?_
              refine r_iload_n 3 dX10_forget_48 rfl rfl ?_
              refine r_iload_n 1 dX10_forget_49 rfl rfl ?_
              refine r_iaddN dX10_forget_50 ?_
              refine r_iconst (v := nI 0) dX10_forget_51 (by decide) ?_
              refine r_iast dX10_forget_52 (by assumption) (by omega) (by omega) ?_
              refine r_iload 4 dX10_forget_53 rfl ?_
              refine r_iret dX10_forget_55 rfl (Nat.le_of_ble_eq_true rfl) (Nat.le_of_ble_eq_true rfl) ?_
              refine ⟨rfl, rfl, rfl, ?_⟩
              rw [hsp]
              exact ⟨rfl, hR.se (se' := ((stA σ k).1.1, (stA σ k).1.2.1, [], (stA σ k).1.2.2.2)) hok hk (Fr.up (ow_se hk (by omega)).1 (Nat.zero_le _) (by omega)) (hseM.flc hk hse (up2_same _ _ _ _) (fun i hi => up2_ne _ _ (Or.inr hi))) (hR.1.keep (by rw [up2_row _ _ (by omega)]) (up2_row _ _ (by omega))) (up2_row _ _ (by omega)) (up2_row _ _ (by omega)), fun q hq => up2_row _ _ (by omega)⟩
            · omega
          · exact absurd h15 (by decide)
        · exact absurd h4 (by decide)
    · have hw' : inB w (nI 1) (nI 2) = false := by simpa using hw
      refine Mv.of pnX10_forget (Nat.le_of_ble_eq_true rfl) rfl ?_
      refine r_iload_n 1 dX10_forget_0 rfl rfl ?_
      refine r_callSp [_] dX10_forget_1 ok_RX10_78 isX10_isStation rfl rfl (Nat.le_of_ble_eq_true rfl) (by refine ⟨?_, ?_, ?_, ?_⟩ <;> exact Nat.le_of_ble_eq_true rfl) (c_isStation _) ?_
      rw [hb]
      refine r_ifB_ne 9 dX10_forget_4 (by decide) (fun h4 => ?_) (fun h4 => ?_)
      · refine r_iload_n 2 dX10_forget_9 rfl rfl ?_
        refine r_iconst (v := nI 1) dX10_forget_10 (by decide) ?_
        refine r_iconst (v := nI 2) dX10_forget_11 (by decide) ?_
        refine r_callSp [_, _, _] dX10_forget_12 ok_RX10_41 isX10_in rfl rfl (Nat.le_of_ble_eq_true rfl) (by refine ⟨?_, ?_, ?_, ?_⟩ <;> exact Nat.le_of_ble_eq_true rfl) (c_in _ _ _) ?_
        rw [hw']
        refine r_ifB_ne 21 dX10_forget_15 (by decide) (fun h15 => ?_) (fun h15 => ?_)
        · exact absurd h15 (by decide)
        · refine r_bipush (v := -2) dX10_forget_18 (by decide) ?_
          refine r_iret dX10_forget_20 rfl (Nat.le_of_ble_eq_true rfl) (Nat.le_of_ble_eq_true rfl) ?_
          refine ⟨rfl, rfl, rfl, ?_⟩
          unfold sp_forget
          rw [if_neg (by rw [hb]; decide), if_pos hw']
          exact PM.same hR
      · exact absurd h4 (by decide)
  · have hb' : stB s = false := by simpa using hb
    refine Mv.of pnX10_forget (Nat.le_of_ble_eq_true rfl) rfl ?_
    refine r_iload_n 1 dX10_forget_0 rfl rfl ?_
    refine r_callSp [_] dX10_forget_1 ok_RX10_78 isX10_isStation rfl rfl (Nat.le_of_ble_eq_true rfl) (by refine ⟨?_, ?_, ?_, ?_⟩ <;> exact Nat.le_of_ble_eq_true rfl) (c_isStation _) ?_
    rw [hb']
    refine r_ifB_ne 9 dX10_forget_4 (by decide) (fun h4 => ?_) (fun h4 => ?_)
    · exact absurd h4 (by decide)
    · refine r_iconst (v := -1) dX10_forget_7 (by decide) ?_
      refine r_iret dX10_forget_8 rfl (Nat.le_of_ble_eq_true rfl) (Nat.le_of_ble_eq_true rfl) ?_
      refine ⟨rfl, rfl, rfl, ?_⟩
      unfold sp_forget
      rw [if_pos hb']
      exact PM.same hR
def stv (e : Se) (w : Nat) : Nat := if w = 0 then e.2.2.2.1 else if w = 1 then e.2.2.2.2.1 else e.2.2.2.2.2
theorem stv_at {f : Rw} {s w : Nat} {e : Se} (h : SeM f s e) (hw : w < 3) : f (42 + 6 * w + s) = nI (stv e w) := by
  have hj : w = 0 ∨ w = 1 ∨ w = 2 := by omega
  rcases hj with rfl | rfl | rfl
  · exact h.2.2.2.1
  · exact h.2.2.2.2.1
  · exact h.2.2.2.2.2
theorem n_set (hL : LM sh mr o) {σ : Al} {N : Nat} (hR : RR mi o σ) (hok : okA σ N) (s w n : Int32) : Mi mX10_set 2 [.ref o, .int s, .int w, .int n] z sh mi mr (PM mi o (sp_set σ s w n)) := by
  obtain ⟨l0, ⟨l1, l2⟩, -⟩ := id hL
  by_cases hb : stB s = true
  · obtain ⟨k, hk, rfl⟩ := st_ex hb
    have hkk : sk (nI k) = k := sk_nI (by omega)
    have hse := (hok.2.1.1.1 k hk).1
    have hseM := (hR.2.1.1.1 k hk).1
    have K55 : stg w n = false → Wp yX10_set cX10_set 6 (some .int) (EI 2 z sh mr (PM mi o (sp_set σ (nI k) w n))) 0 0 55 [.ref o, .int (nI k), .int w, .int n] [] z sh mi mr := by
      intro hg
      refine r_bipush (v := -2) dX10_set_55 (by decide) ?_
      refine r_iret dX10_set_57 rfl (Nat.le_of_ble_eq_true rfl) (Nat.le_of_ble_eq_true rfl) ?_
      refine ⟨rfl, rfl, rfl, ?_⟩
      unfold sp_set
      rw [if_neg (by rw [hb]; decide), if_pos hg]
      exact PM.same hR
    have K58 : ∀ (j y : Nat), j < 3 → y ≤ 60 → w = nI j → n = nI y → stg w n = true → Wp yX10_set cX10_set 6 (some .int) (EI 2 z sh mr (PM mi o (sp_set σ (nI k) w n))) 0 0 58 [.ref o, .int (nI k), .int w, .int n] [] z sh mi mr := by
      intro j y hj hy ew en hg
      subst ew en
      have hyy : sk (nI y) = y := sk_nI (by omega)
      have hv := stv_at hseM hj
      have hfr : Fr k 0 60 (mi (o + 1)) (up2 mi (o + 1) (42 + 6 * j + k) (nI y) (o + 1)) := Fr.up (ow_se hk (by omega)).1 (Nat.zero_le _) (by omega)
      have hsp : sp_set σ (nI k) (nI j) (nI y) = (nI (stv (stA σ k).1 j), upA σ k (((stA σ k).1.1, (stA σ k).1.2.1, (stA σ k).1.2.2.1, (if j = 0 then y else (stA σ k).1.2.2.2.1), (if j = 1 then y else (stA σ k).1.2.2.2.2.1), (if j = 2 then y else (stA σ k).1.2.2.2.2.2)), (stA σ k).2)) := by
        unfold sp_set
        rw [if_neg (by rw [hb]; decide), if_neg (by rw [hg]; decide), hkk, hyy]
        have hj' : j = 0 ∨ j = 1 ∨ j = 2 := by omega
        rcases hj' with rfl | rfl | rfl
        · rw [if_pos rfl]; rfl
        · rw [if_neg (by decide), if_pos rfl]; rfl
        · rw [if_neg (by decide), if_neg (by decide)]; rfl
      refine r_bipush (v := nI 42) dX10_set_58 (by decide) ?_
      refine r_bipush (v := nI 6) dX10_set_60 (by decide) ?_
      refine r_iload_n 2 dX10_set_62 rfl rfl ?_
      refine r_imulN dX10_set_63 ?_
      refine r_iaddN dX10_set_64 ?_
      refine r_iload_n 1 dX10_set_65 rfl rfl ?_
      refine r_iaddN dX10_set_66 ?_
      refine r_istore 4 (ls2 := [_, _, _, _, _]) dX10_set_67 (by decide) (Nat.le_of_ble_eq_true rfl) rfl ?_
      refine r_aload_n 0 dX10_set_69 rfl rfl ?_
      refine r_getR dX10_set_70 fl_RX10_7 rfl (by assumption) (by assumption) ?_
      refine r_iload 4 dX10_set_73 rfl ?_
      refine r_ialdV dX10_set_75 (by assumption) (by omega) (by omega) (by first | assumption | exact up2_same _ _ _ _ | exact (Eq.trans (up2_ne _ _ (by omega)) (by first | assumption | exact up2_same _ _ _ _)) | exact (Eq.trans (up2_ne _ _ (by omega)) (Eq.trans (up2_ne _ _ (by omega)) (by first | assumption | exact up2_same _ _ _ _))) | exact (Eq.trans (up2_ne _ _ (by omega)) (Eq.trans (up2_ne _ _ (by omega)) (Eq.trans (up2_ne _ _ (by omega)) (by first | assumption | exact up2_same _ _ _ _)))) | exact (Eq.trans (up2_ne _ _ (by omega)) (Eq.trans (up2_ne _ _ (by omega)) (Eq.trans (up2_ne _ _ (by omega)) (Eq.trans (up2_ne _ _ (by omega)) (by first | assumption | exact up2_same _ _ _ _))))) | rfl) ?_
      refine r_istore 5 (ls2 := [_, _, _, _, _, _]) dX10_set_76 (by decide) (Nat.le_of_ble_eq_true rfl) rfl ?_
      refine r_aload_n 0 dX10_set_78 rfl rfl ?_
      refine r_getR dX10_set_79 fl_RX10_7 rfl (by assumption) (by assumption) ?_
      refine r_iload 4 dX10_set_82 rfl ?_
      refine r_iload_n 3 dX10_set_84 rfl rfl ?_
      refine r_iast dX10_set_85 (by assumption) (by omega) (by omega) ?_
      refine r_iload 5 dX10_set_86 rfl ?_
      refine r_iret dX10_set_88 rfl (Nat.le_of_ble_eq_true rfl) (Nat.le_of_ble_eq_true rfl) ?_
      refine ⟨rfl, rfl, rfl, ?_⟩
      rw [hsp]
      refine ⟨rfl, hR.se hok hk hfr (SeM.st3 (j := j) hk hseM hse (fun i hi => up2_ne _ _ (Or.inr (by omega))) ?_ ?_ ?_) (hR.1.keep (by rw [up2_row _ _ (by omega)]) (up2_row _ _ (by omega))) (up2_row _ _ (by omega)) (up2_row _ _ (by omega)), fun q hq => up2_row _ _ (by omega)⟩
      · by_cases e : j = 0
        · subst e; rw [if_pos rfl]; exact up2_same _ _ _ _
        · rw [if_neg e, up2_ne _ _ (Or.inr (by omega))]; exact hseM.2.2.2.1
      · by_cases e : j = 1
        · subst e; rw [if_pos rfl]; exact up2_same _ _ _ _
        · rw [if_neg e, up2_ne _ _ (Or.inr (by omega))]; exact hseM.2.2.2.2.1
      · by_cases e : j = 2
        · subst e; rw [if_pos rfl]; exact up2_same _ _ _ _
        · rw [if_neg e, up2_ne _ _ (Or.inr (by omega))]; exact hseM.2.2.2.2.2
    have ne01 : (nI 0 = nI 1) = False := by decide
    have ne02 : (nI 0 = nI 2) = False := by decide
    have ne10 : (nI 1 = nI 0) = False := by decide
    have ne12 : (nI 1 = nI 2) = False := by decide
    have ne20 : (nI 2 = nI 0) = False := by decide
    have ne21 : (nI 2 = nI 1) = False := by decide
    by_cases hw : inB w (nI 0) (nI 2) = true
    · obtain ⟨j, j1, j2, rfl⟩ := inB_ex (by omega) hw (by omega)
      have hj : j = 0 ∨ j = 1 ∨ j = 2 := by omega
      rcases hj with rfl | rfl | rfl
      · have hs0 : stg (nI 0) n = inB n (nI 1) (nI 7) := by unfold stg; simp [ne01, ne02]
        refine Mv.of pnX10_set (Nat.le_of_ble_eq_true rfl) rfl ?_
        refine r_iload_n 1 dX10_set_0 rfl rfl ?_
        refine r_callSp [_] dX10_set_1 ok_RX10_78 isX10_isStation rfl rfl (Nat.le_of_ble_eq_true rfl) (by refine ⟨?_, ?_, ?_, ?_⟩ <;> exact Nat.le_of_ble_eq_true rfl) (c_isStation _) ?_
        rw [hb]
        refine r_ifB_ne 9 dX10_set_4 (by decide) (fun h4 => ?_) (fun h4 => ?_)
        · refine r_iload_n 2 dX10_set_9 rfl rfl ?_
          refine r_iconst (v := nI 0) dX10_set_10 (by decide) ?_
          refine r_iconst (v := nI 2) dX10_set_11 (by decide) ?_
          refine r_callSp [_, _, _] dX10_set_12 ok_RX10_41 isX10_in rfl rfl (Nat.le_of_ble_eq_true rfl) (by refine ⟨?_, ?_, ?_, ?_⟩ <;> exact Nat.le_of_ble_eq_true rfl) (c_in _ _ _) ?_
          rw [hw]
          refine r_ifB_eq 55 dX10_set_15 (by decide) (fun h15 => ?_) (fun h15 => ?_)
          · first | exact absurd h15 (by decide) | exact K55 (hs0.trans h52)
          · refine r_iload_n 3 dX10_set_18 rfl rfl ?_
            refine r_iload_n 2 dX10_set_19 rfl rfl ?_
            refine r_iconst (v := nI 2) dX10_set_20 (by decide) ?_
            refine r_icmpN_ne 28 dX10_set_21 (by decide) (by omega) (by omega) (fun h21 => ?_) (fun h21 => ?_)
            · refine r_iconst (v := nI 1) dX10_set_28 (by decide) ?_
              refine r_iload_n 2 dX10_set_29 rfl rfl ?_
              refine r_ifN_ne 38 dX10_set_30 (by decide) (by omega) (fun h30 => ?_) (fun h30 => ?_)
              · omega
              · refine r_bipush (v := nI 7) dX10_set_33 (by decide) ?_
                refine r_goto 49 dX10_set_35 (by decide) ?_
                refine r_callSp [_, _, _] dX10_set_49 ok_RX10_41 isX10_in rfl rfl (Nat.le_of_ble_eq_true rfl) (by refine ⟨?_, ?_, ?_, ?_⟩ <;> exact Nat.le_of_ble_eq_true rfl) (c_in _ _ _) ?_
                refine r_ifB_ne 58 dX10_set_52 (by decide) (fun h52 => ?_) (fun h52 => ?_)
                · obtain ⟨y, y1, y2, e⟩ := inB_ex (by omega) h52 (by omega)
                  exact K58 0 y (by omega) (by omega) rfl e (hs0.trans h52)
                · first | exact absurd h15 (by decide) | exact K55 (hs0.trans h52)
            · omega
        · exact absurd h4 (by decide)
      · have hs0 : stg (nI 1) n = inB n (nI 1) (nI 3) := by unfold stg; simp [ne10, ne12]
        refine Mv.of pnX10_set (Nat.le_of_ble_eq_true rfl) rfl ?_
        refine r_iload_n 1 dX10_set_0 rfl rfl ?_
        refine r_callSp [_] dX10_set_1 ok_RX10_78 isX10_isStation rfl rfl (Nat.le_of_ble_eq_true rfl) (by refine ⟨?_, ?_, ?_, ?_⟩ <;> exact Nat.le_of_ble_eq_true rfl) (c_isStation _) ?_
        rw [hb]
        refine r_ifB_ne 9 dX10_set_4 (by decide) (fun h4 => ?_) (fun h4 => ?_)
        · refine r_iload_n 2 dX10_set_9 rfl rfl ?_
          refine r_iconst (v := nI 0) dX10_set_10 (by decide) ?_
          refine r_iconst (v := nI 2) dX10_set_11 (by decide) ?_
          refine r_callSp [_, _, _] dX10_set_12 ok_RX10_41 isX10_in rfl rfl (Nat.le_of_ble_eq_true rfl) (by refine ⟨?_, ?_, ?_, ?_⟩ <;> exact Nat.le_of_ble_eq_true rfl) (c_in _ _ _) ?_
          rw [hw]
          refine r_ifB_eq 55 dX10_set_15 (by decide) (fun h15 => ?_) (fun h15 => ?_)
          · first | exact absurd h15 (by decide) | exact K55 (hs0.trans h52)
          · refine r_iload_n 3 dX10_set_18 rfl rfl ?_
            refine r_iload_n 2 dX10_set_19 rfl rfl ?_
            refine r_iconst (v := nI 2) dX10_set_20 (by decide) ?_
            refine r_icmpN_ne 28 dX10_set_21 (by decide) (by omega) (by omega) (fun h21 => ?_) (fun h21 => ?_)
            · refine r_iconst (v := nI 1) dX10_set_28 (by decide) ?_
              refine r_iload_n 2 dX10_set_29 rfl rfl ?_
              refine r_ifN_ne 38 dX10_set_30 (by decide) (by omega) (fun h30 => ?_) (fun h30 => ?_)
              · refine r_iload_n 2 dX10_set_38 rfl rfl ?_
                refine r_iconst (v := nI 1) dX10_set_39 (by decide) ?_
                refine r_icmpN_ne 47 dX10_set_40 (by decide) (by omega) (by omega) (fun h40 => ?_) (fun h40 => ?_)
                · omega
                · refine r_iconst (v := nI 3) dX10_set_43 (by decide) ?_
                  refine r_goto 49 dX10_set_44 (by decide) ?_
                  refine r_callSp [_, _, _] dX10_set_49 ok_RX10_41 isX10_in rfl rfl (Nat.le_of_ble_eq_true rfl) (by refine ⟨?_, ?_, ?_, ?_⟩ <;> exact Nat.le_of_ble_eq_true rfl) (c_in _ _ _) ?_
                  refine r_ifB_ne 58 dX10_set_52 (by decide) (fun h52 => ?_) (fun h52 => ?_)
                  · obtain ⟨y, y1, y2, e⟩ := inB_ex (by omega) h52 (by omega)
                    exact K58 1 y (by omega) (by omega) rfl e (hs0.trans h52)
                  · first | exact absurd h15 (by decide) | exact K55 (hs0.trans h52)
              · omega
            · omega
        · exact absurd h4 (by decide)
      · have hs0 : stg (nI 2) n = inB n (nI 0) (nI 60) := by unfold stg; simp [ne20, ne21]
        refine Mv.of pnX10_set (Nat.le_of_ble_eq_true rfl) rfl ?_
        refine r_iload_n 1 dX10_set_0 rfl rfl ?_
        refine r_callSp [_] dX10_set_1 ok_RX10_78 isX10_isStation rfl rfl (Nat.le_of_ble_eq_true rfl) (by refine ⟨?_, ?_, ?_, ?_⟩ <;> exact Nat.le_of_ble_eq_true rfl) (c_isStation _) ?_
        rw [hb]
        refine r_ifB_ne 9 dX10_set_4 (by decide) (fun h4 => ?_) (fun h4 => ?_)
        · refine r_iload_n 2 dX10_set_9 rfl rfl ?_
          refine r_iconst (v := nI 0) dX10_set_10 (by decide) ?_
          refine r_iconst (v := nI 2) dX10_set_11 (by decide) ?_
          refine r_callSp [_, _, _] dX10_set_12 ok_RX10_41 isX10_in rfl rfl (Nat.le_of_ble_eq_true rfl) (by refine ⟨?_, ?_, ?_, ?_⟩ <;> exact Nat.le_of_ble_eq_true rfl) (c_in _ _ _) ?_
          rw [hw]
          refine r_ifB_eq 55 dX10_set_15 (by decide) (fun h15 => ?_) (fun h15 => ?_)
          · first | exact absurd h15 (by decide) | exact K55 (hs0.trans h52)
          · refine r_iload_n 3 dX10_set_18 rfl rfl ?_
            refine r_iload_n 2 dX10_set_19 rfl rfl ?_
            refine r_iconst (v := nI 2) dX10_set_20 (by decide) ?_
            refine r_icmpN_ne 28 dX10_set_21 (by decide) (by omega) (by omega) (fun h21 => ?_) (fun h21 => ?_)
            · omega
            · refine r_iconst (v := nI 0) dX10_set_24 (by decide) ?_
              refine r_goto 29 dX10_set_25 (by decide) ?_
              refine r_iload_n 2 dX10_set_29 rfl rfl ?_
              refine r_ifN_ne 38 dX10_set_30 (by decide) (by omega) (fun h30 => ?_) (fun h30 => ?_)
              · refine r_iload_n 2 dX10_set_38 rfl rfl ?_
                refine r_iconst (v := nI 1) dX10_set_39 (by decide) ?_
                refine r_icmpN_ne 47 dX10_set_40 (by decide) (by omega) (by omega) (fun h40 => ?_) (fun h40 => ?_)
                · refine r_bipush (v := nI 60) dX10_set_47 (by decide) ?_
                  refine r_callSp [_, _, _] dX10_set_49 ok_RX10_41 isX10_in rfl rfl (Nat.le_of_ble_eq_true rfl) (by refine ⟨?_, ?_, ?_, ?_⟩ <;> exact Nat.le_of_ble_eq_true rfl) (c_in _ _ _) ?_
                  refine r_ifB_ne 58 dX10_set_52 (by decide) (fun h52 => ?_) (fun h52 => ?_)
                  · obtain ⟨y, y1, y2, e⟩ := inB_ex (by omega) h52 (by omega)
                    exact K58 2 y (by omega) (by omega) rfl e (hs0.trans h52)
                  · first | exact absurd h15 (by decide) | exact K55 (hs0.trans h52)
                · omega
              · omega
        · exact absurd h4 (by decide)
    · have hw' : inB w (nI 0) (nI 2) = false := by simpa using hw
      have hg : stg w n = false := by
        unfold stg
        rw [show decide (w = nI 0) = false by simp; intro e; rw [e] at hw; exact hw (by decide), show decide (w = nI 1) = false by simp; intro e; rw [e] at hw; exact hw (by decide), show decide (w = nI 2) = false by simp; intro e; rw [e] at hw; exact hw (by decide)]
        rfl
      refine Mv.of pnX10_set (Nat.le_of_ble_eq_true rfl) rfl ?_
      refine r_iload_n 1 dX10_set_0 rfl rfl ?_
      refine r_callSp [_] dX10_set_1 ok_RX10_78 isX10_isStation rfl rfl (Nat.le_of_ble_eq_true rfl) (by refine ⟨?_, ?_, ?_, ?_⟩ <;> exact Nat.le_of_ble_eq_true rfl) (c_isStation _) ?_
      rw [hb]
      refine r_ifB_ne 9 dX10_set_4 (by decide) (fun h4 => ?_) (fun h4 => ?_)
      · refine r_iload_n 2 dX10_set_9 rfl rfl ?_
        refine r_iconst (v := nI 0) dX10_set_10 (by decide) ?_
        refine r_iconst (v := nI 2) dX10_set_11 (by decide) ?_
        refine r_callSp [_, _, _] dX10_set_12 ok_RX10_41 isX10_in rfl rfl (Nat.le_of_ble_eq_true rfl) (by refine ⟨?_, ?_, ?_, ?_⟩ <;> exact Nat.le_of_ble_eq_true rfl) (c_in _ _ _) ?_
        rw [hw']
        refine r_ifB_eq 55 dX10_set_15 (by decide) (fun h15 => ?_) (fun h15 => ?_)
        · exact K55 hg
        · exact absurd h15 (by decide)
      · exact absurd h4 (by decide)
  · have hb' : stB s = false := by simpa using hb
    refine Mv.of pnX10_set (Nat.le_of_ble_eq_true rfl) rfl ?_
    refine r_iload_n 1 dX10_set_0 rfl rfl ?_
    refine r_callSp [_] dX10_set_1 ok_RX10_78 isX10_isStation rfl rfl (Nat.le_of_ble_eq_true rfl) (by refine ⟨?_, ?_, ?_, ?_⟩ <;> exact Nat.le_of_ble_eq_true rfl) (c_isStation _) ?_
    rw [hb']
    refine r_ifB_ne 9 dX10_set_4 (by decide) (fun h4 => ?_) (fun h4 => ?_)
    · exact absurd h4 (by decide)
    · refine r_iconst (v := -1) dX10_set_7 (by decide) ?_
      refine r_iret dX10_set_8 rfl (Nat.le_of_ble_eq_true rfl) (Nat.le_of_ble_eq_true rfl) ?_
      refine ⟨rfl, rfl, rfl, ?_⟩
      unfold sp_set
      rw [if_pos hb']
      exact PM.same hR
theorem n_heard (hL : LM sh mr o) {σ : Al} {N : Nat} (hR : RR mi o σ) (s w : Int32) : Mi mX10_heard 2 [.ref o, .int s, .int w] z sh mi mr (PM mi o (sp_heard σ s w)) := by
  obtain ⟨l0, ⟨l1, l2⟩, -⟩ := id hL
  by_cases hb : stB s = true
  · by_cases hw : inB w (nI 0) (nI 10) = true
    · obtain ⟨k, hk, rfl⟩ := st_ex hb
      have hkk : sk (nI k) = k := sk_nI (by omega)
      obtain ⟨j, j1, j2, rfl⟩ := inB_ex (by omega) hw (by omega)
      have hjj : sk (nI j) = j := sk_nI (by omega)
      have g9 := (hR.2.1.1.1 k hk).2.2.1.1
      have g10 := (hR.2.1.1.1 k hk).2.2.2.1.1
      have gt := (hR.2.1.1.1 k hk).2.1 j
      by_cases e9 : j = 9
      · subst e9
        refine Mv.of pnX10_heard (Nat.le_of_ble_eq_true rfl) rfl ?_
        refine r_iload_n 1 dX10_heard_0 rfl rfl ?_
        refine r_callSp [_] dX10_heard_1 ok_RX10_78 isX10_isStation rfl rfl (Nat.le_of_ble_eq_true rfl) (by refine ⟨?_, ?_, ?_, ?_⟩ <;> exact Nat.le_of_ble_eq_true rfl) (c_isStation _) ?_
        rw [hb]
        refine r_ifB_ne 9 dX10_heard_4 (by decide) (fun h4 => ?_) (fun h4 => ?_)
        · refine r_iload_n 2 dX10_heard_9 rfl rfl ?_
          refine r_iconst (v := nI 0) dX10_heard_10 (by decide) ?_
          refine r_bipush (v := nI 10) dX10_heard_11 (by decide) ?_
          refine r_callSp [_, _, _] dX10_heard_13 ok_RX10_41 isX10_in rfl rfl (Nat.le_of_ble_eq_true rfl) (by refine ⟨?_, ?_, ?_, ?_⟩ <;> exact Nat.le_of_ble_eq_true rfl) (c_in _ _ _) ?_
          rw [hw]
          refine r_ifB_ne 22 dX10_heard_16 (by decide) (fun h16 => ?_) (fun h16 => ?_)
          · refine r_iload_n 2 dX10_heard_22 rfl rfl ?_
            refine r_bipush (v := nI 9) dX10_heard_23 (by decide) ?_
            refine r_icmpN_ne 41 dX10_heard_25 (by decide) (by omega) (by omega) (fun h25 => ?_) (fun h25 => ?_)
            · omega
            · refine r_aload_n 0 dX10_heard_28 rfl rfl ?_
              refine r_getR dX10_heard_29 fl_RX10_7 rfl (by assumption) (by assumption) ?_
              refine r_sipush (v := nI 150) dX10_heard_32 (by decide) ?_
              refine r_iload_n 1 dX10_heard_35 rfl rfl ?_
              refine r_iaddN dX10_heard_36 ?_
              refine r_ialdV dX10_heard_37 (by assumption) (by omega) (by omega) (by first | assumption | exact up2_same _ _ _ _ | exact (Eq.trans (up2_ne _ _ (by omega)) (by first | assumption | exact up2_same _ _ _ _)) | exact (Eq.trans (up2_ne _ _ (by omega)) (Eq.trans (up2_ne _ _ (by omega)) (by first | assumption | exact up2_same _ _ _ _))) | exact (Eq.trans (up2_ne _ _ (by omega)) (Eq.trans (up2_ne _ _ (by omega)) (Eq.trans (up2_ne _ _ (by omega)) (by first | assumption | exact up2_same _ _ _ _)))) | exact (Eq.trans (up2_ne _ _ (by omega)) (Eq.trans (up2_ne _ _ (by omega)) (Eq.trans (up2_ne _ _ (by omega)) (Eq.trans (up2_ne _ _ (by omega)) (by first | assumption | exact up2_same _ _ _ _))))) | rfl) ?_
              refine r_goto 74 dX10_heard_38 (by decide) ?_
              refine r_iret dX10_heard_74 rfl (Nat.le_of_ble_eq_true rfl) (Nat.le_of_ble_eq_true rfl) ?_
              refine ⟨rfl, rfl, rfl, ?_⟩
              unfold sp_heard
              rw [if_neg (by rw [hb]; decide), if_neg (by rw [hw]; decide), if_pos rfl, hkk]
              exact PM.same hR
          · exact absurd h16 (by decide)
        · exact absurd h4 (by decide)
      · by_cases e10 : j = 10
        · subst e10
          refine Mv.of pnX10_heard (Nat.le_of_ble_eq_true rfl) rfl ?_
          refine r_iload_n 1 dX10_heard_0 rfl rfl ?_
          refine r_callSp [_] dX10_heard_1 ok_RX10_78 isX10_isStation rfl rfl (Nat.le_of_ble_eq_true rfl) (by refine ⟨?_, ?_, ?_, ?_⟩ <;> exact Nat.le_of_ble_eq_true rfl) (c_isStation _) ?_
          rw [hb]
          refine r_ifB_ne 9 dX10_heard_4 (by decide) (fun h4 => ?_) (fun h4 => ?_)
          · refine r_iload_n 2 dX10_heard_9 rfl rfl ?_
            refine r_iconst (v := nI 0) dX10_heard_10 (by decide) ?_
            refine r_bipush (v := nI 10) dX10_heard_11 (by decide) ?_
            refine r_callSp [_, _, _] dX10_heard_13 ok_RX10_41 isX10_in rfl rfl (Nat.le_of_ble_eq_true rfl) (by refine ⟨?_, ?_, ?_, ?_⟩ <;> exact Nat.le_of_ble_eq_true rfl) (c_in _ _ _) ?_
            rw [hw]
            refine r_ifB_ne 22 dX10_heard_16 (by decide) (fun h16 => ?_) (fun h16 => ?_)
            · refine r_iload_n 2 dX10_heard_22 rfl rfl ?_
              refine r_bipush (v := nI 9) dX10_heard_23 (by decide) ?_
              refine r_icmpN_ne 41 dX10_heard_25 (by decide) (by omega) (by omega) (fun h25 => ?_) (fun h25 => ?_)
              · refine r_iload_n 2 dX10_heard_41 rfl rfl ?_
                refine r_bipush (v := nI 10) dX10_heard_42 (by decide) ?_
                refine r_icmpN_ne 60 dX10_heard_44 (by decide) (by omega) (by omega) (fun h44 => ?_) (fun h44 => ?_)
                · omega
                · refine r_aload_n 0 dX10_heard_47 rfl rfl ?_
                  refine r_getR dX10_heard_48 fl_RX10_7 rfl (by assumption) (by assumption) ?_
                  refine r_sipush (v := nI 1020) dX10_heard_51 (by decide) ?_
                  refine r_iload_n 1 dX10_heard_54 rfl rfl ?_
                  refine r_iaddN dX10_heard_55 ?_
                  refine r_ialdV dX10_heard_56 (by assumption) (by omega) (by omega) (by first | assumption | exact up2_same _ _ _ _ | exact (Eq.trans (up2_ne _ _ (by omega)) (by first | assumption | exact up2_same _ _ _ _)) | exact (Eq.trans (up2_ne _ _ (by omega)) (Eq.trans (up2_ne _ _ (by omega)) (by first | assumption | exact up2_same _ _ _ _))) | exact (Eq.trans (up2_ne _ _ (by omega)) (Eq.trans (up2_ne _ _ (by omega)) (Eq.trans (up2_ne _ _ (by omega)) (by first | assumption | exact up2_same _ _ _ _)))) | exact (Eq.trans (up2_ne _ _ (by omega)) (Eq.trans (up2_ne _ _ (by omega)) (Eq.trans (up2_ne _ _ (by omega)) (Eq.trans (up2_ne _ _ (by omega)) (by first | assumption | exact up2_same _ _ _ _))))) | rfl) ?_
                  refine r_goto 74 dX10_heard_57 (by decide) ?_
                  refine r_iret dX10_heard_74 rfl (Nat.le_of_ble_eq_true rfl) (Nat.le_of_ble_eq_true rfl) ?_
                  refine ⟨rfl, rfl, rfl, ?_⟩
                  unfold sp_heard
                  rw [if_neg (by rw [hb]; decide), if_neg (by rw [hw]; decide), if_neg (by decide), if_pos rfl, hkk]
                  exact PM.same hR
              · omega
            · exact absurd h16 (by decide)
          · exact absurd h4 (by decide)
        · have gt' := gt (by omega)
          refine Mv.of pnX10_heard (Nat.le_of_ble_eq_true rfl) rfl ?_
          refine r_iload_n 1 dX10_heard_0 rfl rfl ?_
          refine r_callSp [_] dX10_heard_1 ok_RX10_78 isX10_isStation rfl rfl (Nat.le_of_ble_eq_true rfl) (by refine ⟨?_, ?_, ?_, ?_⟩ <;> exact Nat.le_of_ble_eq_true rfl) (c_isStation _) ?_
          rw [hb]
          refine r_ifB_ne 9 dX10_heard_4 (by decide) (fun h4 => ?_) (fun h4 => ?_)
          · refine r_iload_n 2 dX10_heard_9 rfl rfl ?_
            refine r_iconst (v := nI 0) dX10_heard_10 (by decide) ?_
            refine r_bipush (v := nI 10) dX10_heard_11 (by decide) ?_
            refine r_callSp [_, _, _] dX10_heard_13 ok_RX10_41 isX10_in rfl rfl (Nat.le_of_ble_eq_true rfl) (by refine ⟨?_, ?_, ?_, ?_⟩ <;> exact Nat.le_of_ble_eq_true rfl) (c_in _ _ _) ?_
            rw [hw]
            refine r_ifB_ne 22 dX10_heard_16 (by decide) (fun h16 => ?_) (fun h16 => ?_)
            · refine r_iload_n 2 dX10_heard_22 rfl rfl ?_
              refine r_bipush (v := nI 9) dX10_heard_23 (by decide) ?_
              refine r_icmpN_ne 41 dX10_heard_25 (by decide) (by omega) (by omega) (fun h25 => ?_) (fun h25 => ?_)
              · refine r_iload_n 2 dX10_heard_41 rfl rfl ?_
                refine r_bipush (v := nI 10) dX10_heard_42 (by decide) ?_
                refine r_icmpN_ne 60 dX10_heard_44 (by decide) (by omega) (by omega) (fun h44 => ?_) (fun h44 => ?_)
                · refine r_aload_n 0 dX10_heard_60 rfl rfl ?_
                  refine r_getR dX10_heard_61 fl_RX10_7 rfl (by assumption) (by assumption) ?_
                  refine r_bipush (v := nI 96) dX10_heard_64 (by decide) ?_
                  refine r_bipush (v := nI 6) dX10_heard_66 (by decide) ?_
                  refine r_iload_n 2 dX10_heard_68 rfl rfl ?_
                  refine r_imulN dX10_heard_69 ?_
                  refine r_iaddN dX10_heard_70 ?_
                  refine r_iload_n 1 dX10_heard_71 rfl rfl ?_
                  refine r_iaddN dX10_heard_72 ?_
                  refine r_ialdV dX10_heard_73 (by assumption) (by omega) (by omega) (by first | assumption | exact up2_same _ _ _ _ | exact (Eq.trans (up2_ne _ _ (by omega)) (by first | assumption | exact up2_same _ _ _ _)) | exact (Eq.trans (up2_ne _ _ (by omega)) (Eq.trans (up2_ne _ _ (by omega)) (by first | assumption | exact up2_same _ _ _ _))) | exact (Eq.trans (up2_ne _ _ (by omega)) (Eq.trans (up2_ne _ _ (by omega)) (Eq.trans (up2_ne _ _ (by omega)) (by first | assumption | exact up2_same _ _ _ _)))) | exact (Eq.trans (up2_ne _ _ (by omega)) (Eq.trans (up2_ne _ _ (by omega)) (Eq.trans (up2_ne _ _ (by omega)) (Eq.trans (up2_ne _ _ (by omega)) (by first | assumption | exact up2_same _ _ _ _))))) | rfl) ?_
                  refine r_iret dX10_heard_74 rfl (Nat.le_of_ble_eq_true rfl) (Nat.le_of_ble_eq_true rfl) ?_
                  refine ⟨rfl, rfl, rfl, ?_⟩
                  unfold sp_heard
                  rw [if_neg (by rw [hb]; decide), if_neg (by rw [hw]; decide), if_neg (fun e => e9 ((nI_eq (by omega) (by omega)).mp e)), if_neg (fun e => e10 ((nI_eq (by omega) (by omega)).mp e)), hkk, hjj]
                  exact PM.same hR
                · omega
              · omega
            · exact absurd h16 (by decide)
          · exact absurd h4 (by decide)
    · have hw' : inB w (nI 0) (nI 10) = false := by simpa using hw
      refine Mv.of pnX10_heard (Nat.le_of_ble_eq_true rfl) rfl ?_
      refine r_iload_n 1 dX10_heard_0 rfl rfl ?_
      refine r_callSp [_] dX10_heard_1 ok_RX10_78 isX10_isStation rfl rfl (Nat.le_of_ble_eq_true rfl) (by refine ⟨?_, ?_, ?_, ?_⟩ <;> exact Nat.le_of_ble_eq_true rfl) (c_isStation _) ?_
      rw [hb]
      refine r_ifB_ne 9 dX10_heard_4 (by decide) (fun h4 => ?_) (fun h4 => ?_)
      · refine r_iload_n 2 dX10_heard_9 rfl rfl ?_
        refine r_iconst (v := nI 0) dX10_heard_10 (by decide) ?_
        refine r_bipush (v := nI 10) dX10_heard_11 (by decide) ?_
        refine r_callSp [_, _, _] dX10_heard_13 ok_RX10_41 isX10_in rfl rfl (Nat.le_of_ble_eq_true rfl) (by refine ⟨?_, ?_, ?_, ?_⟩ <;> exact Nat.le_of_ble_eq_true rfl) (c_in _ _ _) ?_
        rw [hw']
        refine r_ifB_ne 22 dX10_heard_16 (by decide) (fun h16 => ?_) (fun h16 => ?_)
        · exact absurd h16 (by decide)
        · refine r_bipush (v := -2) dX10_heard_19 (by decide) ?_
          refine r_iret dX10_heard_21 rfl (Nat.le_of_ble_eq_true rfl) (Nat.le_of_ble_eq_true rfl) ?_
          refine ⟨rfl, rfl, rfl, ?_⟩
          unfold sp_heard
          rw [if_neg (by rw [hb]; decide), if_pos hw']
          exact PM.same hR
      · exact absurd h4 (by decide)
  · have hb' : stB s = false := by simpa using hb
    refine Mv.of pnX10_heard (Nat.le_of_ble_eq_true rfl) rfl ?_
    refine r_iload_n 1 dX10_heard_0 rfl rfl ?_
    refine r_callSp [_] dX10_heard_1 ok_RX10_78 isX10_isStation rfl rfl (Nat.le_of_ble_eq_true rfl) (by refine ⟨?_, ?_, ?_, ?_⟩ <;> exact Nat.le_of_ble_eq_true rfl) (c_isStation _) ?_
    rw [hb']
    refine r_ifB_ne 9 dX10_heard_4 (by decide) (fun h4 => ?_) (fun h4 => ?_)
    · exact absurd h4 (by decide)
    · refine r_iconst (v := -1) dX10_heard_7 (by decide) ?_
      refine r_iret dX10_heard_8 rfl (Nat.le_of_ble_eq_true rfl) (Nat.le_of_ble_eq_true rfl) ?_
      refine ⟨rfl, rfl, rfl, ?_⟩
      unfold sp_heard
      rw [if_pos hb']
      exact PM.same hR
end RAPI3
