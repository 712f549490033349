section RAPI5
variable {z : Nat} {sh : SH} {mi : MI} {mr : MR} {o : Nat}
theorem look_last (st : St) (p : Pk) (now : Nat) : (look st p now).2.2.2.2 = st.2.2.2.2 := by
  unfold look
  split
  · rfl
  · split
    · rfl
    · split
      · rfl
      · split
        · rfl
        · split
          · rfl
          · rfl
theorem mid_last (n : Nt) (s : Nat) : (midS n s).2.2.2.2 = (n.1 s).2.2.2.2 := by
  unfold midS
  split
  · unfold aftS; split <;> rfl
  · split <;> rfl
theorem tck_last {n : Nt} {s : Nat} : (hrd n s = false → (tckS n s).2.2.2.2 = (n.1 s).2.2.2.2) ∧ (hrd n s = true → (tckS n s).2.2.2.2.isSome = true) := by
  refine ⟨fun h => by rw [tck_no h]; exact mid_last n s, fun h => ?_⟩
  obtain ⟨q, p, -, -, -, -, e⟩ := tck_yes h
  rw [e]; unfold hears; rw [look_last]; rfl
theorem LaM.tick {m : MI} {n : Nt} {v : Option Value} (h : LaM (mi (o + 1)) n) (hT : TkP mi o n v m) : LaM (m (o + 1)) (tck n) := by
  intro s hs hn
  have hn : (tckS n s).2.2.2.2 = none := hn
  cases hh : hrd n s with
  | true =>
    have := tck_last.2 hh
    rw [hn] at this; cases this
  | false =>
    rw [tck_last.1 hh] at hn
    rw [hT.2.2.1 s hs hh]; exact h s hs hn
theorem n_run (hL : LM sh mr o) {σ : Al} {N : Nat} (hR : RR mi o σ) (hok : okA σ N) (hN : N < 2 ^ 27) (n : Int32) : Mi mX10_run 6 [.ref o, .int n] z sh mi mr (PM mi o (sp_run σ n)) := by
  obtain ⟨l0, ⟨l1, l2⟩, -⟩ := id hL
  by_cases hb : inB n (nI 1) (nI 50) = true
  · obtain ⟨c, c1, c2, rfl⟩ := inB_ex (by omega) hb (by omega)
    have hsp : sp_run σ (nI c) = (nI (keptA (tcks c σ.2.1)), (σ.1, tcks c σ.2.1, σ.2.2)) := by unfold sp_run; rw [if_neg (by rw [hb]; decide), sk_nI (by omega)]
    have hnow := hok.2.1.2.2
    rw [hsp]
    have H : ∀ (t i : Nat) (m : MI) (n1 : Nt), i + t = c → okNt n1 → n1.2.2 + t ≤ N + 50 → NtM (m (o + 1)) n1 → LaM (m (o + 1)) n1 → (∀ x, (x ≤ o ∨ o + 10 ≤ x ∨ (o + 2 ≤ x ∧ x ≤ o + 4)) → m x = mi x) → tcks t n1 = tcks c σ.2.1 → Wp yX10_run cX10_run 3 (some .int) (EI 6 z sh mr (PM mi o (nI (keptA (tcks c σ.2.1)), (σ.1, tcks c σ.2.1, σ.2.2)))) 0 0 15 [.ref o, .int (nI c), .int (nI i)] [] z sh m mr := by
      intro t
      induction t with
      | zero =>
        intro i m n1 hi hk hle hNt hLa ho he
        have hi : i = c := hi
        subst hi
        have he : n1 = tcks i σ.2.1 := he
        subst he
        refine r_iload_n 2 dX10_run_15 rfl rfl ?_
        refine r_iload_n 1 dX10_run_16 rfl rfl ?_
        refine r_icmpN_ge 30 dX10_run_17 (by decide) (by omega) (by omega) (fun h17 => ?_) (fun h17 => ?_)
        · refine r_aload_n 0 dX10_run_30 rfl rfl ?_
          refine r_callVp [] dX10_run_31 ok_RX10_154 ivX10_keptByAll (by assumption) ⟨_, _, rfl⟩ rfl rfl (Nat.le_of_ble_eq_true rfl) (by refine ⟨?_, ?_, ?_, ?_⟩ <;> exact Nat.le_of_ble_eq_true rfl) (m_kept hL (fun s hs => (hNt.1 s hs).2.2.1.1)) ?_
          refine r_iret dX10_run_34 rfl (Nat.le_of_ble_eq_true rfl) (Nat.le_of_ble_eq_true rfl) ?_
          exact ⟨rfl, rfl, rfl, rfl, hR.to (hR.1.keep (by rw [ho o (by omega)]) (ho _ (by omega))) hNt hLa (ho _ (by omega)) (ho _ (by omega)), fun x hx => ho x (by omega)⟩
        · omega
      | succ t ih =>
        intro i m n1 hi hk hle hNt hLa ho he
        refine r_iload_n 2 dX10_run_15 rfl rfl ?_
        refine r_iload_n 1 dX10_run_16 rfl rfl ?_
        refine r_icmpN_ge 30 dX10_run_17 (by decide) (by omega) (by omega) (fun h17 => ?_) (fun h17 => ?_)
        · omega
        · refine r_aload_n 0 dX10_run_20 rfl rfl ?_
          refine r_callVi [] dX10_run_21 ok_RX10_151 ivX10_tick (by assumption) ⟨_, _, rfl⟩ rfl rfl (Nat.le_of_ble_eq_true rfl) (by refine ⟨?_, ?_, ?_, ?_⟩ <;> exact Nat.le_of_ble_eq_true rfl) (m_tick hL hNt hk (by omega)) ?_
          intro vA mA uA
          have uA' := uA
          obtain ⟨rfl, u1, u2, u3, u4⟩ := uA
          refine r_iincN 2 (b := 1) (ls2 := [_, _, _]) dX10_run_24 rfl (by decide) (by decide) rfl ?_
          refine r_goto 15 dX10_run_27 (by decide) ?_
          exact ih (i + 1) mA (tck n1) (by omega) (okNt_tck hk) (by show n1.2.2 + 1 + t ≤ _; omega) u1 (hLa.tick uA') (fun x hx => (u4 x hx).trans (ho x hx)) he
    refine Mv.of pnX10_run (Nat.le_of_ble_eq_true rfl) rfl ?_
    refine r_iload_n 1 dX10_run_0 rfl rfl ?_
    refine r_iconst (v := nI 1) dX10_run_1 (by decide) ?_
    refine r_bipush (v := nI 50) dX10_run_2 (by decide) ?_
    refine r_callSp [_, _, _] dX10_run_4 ok_RX10_41 isX10_in rfl rfl (Nat.le_of_ble_eq_true rfl) (by refine ⟨?_, ?_, ?_, ?_⟩ <;> exact Nat.le_of_ble_eq_true rfl) (c_in _ _ _) ?_
    rw [hb]
    refine r_ifB_ne 13 dX10_run_7 (by decide) (fun h7 => ?_) (fun h7 => ?_)
    · refine r_iconst (v := nI 0) dX10_run_13 (by decide) ?_
      refine r_istore_n 2 (ls2 := [_, _, _]) dX10_run_14 rfl (by decide) (Nat.le_of_ble_eq_true rfl) rfl ?_
      exact H c 0 mi σ.2.1 (by omega) hok.2.1.1 (by omega) hR.2.1.1 hR.2.1.2 (fun _ _ => rfl) rfl
    · exact absurd h7 (by decide)
  · have hb' : inB n (nI 1) (nI 50) = false := by simpa using hb
    have hsp : sp_run σ n = (-2, σ) := by unfold sp_run; rw [if_pos hb']
    rw [hsp]
    refine Mv.of pnX10_run (Nat.le_of_ble_eq_true rfl) rfl ?_
    refine r_iload_n 1 dX10_run_0 rfl rfl ?_
    refine r_iconst (v := nI 1) dX10_run_1 (by decide) ?_
    refine r_bipush (v := nI 50) dX10_run_2 (by decide) ?_
    refine r_callSp [_, _, _] dX10_run_4 ok_RX10_41 isX10_in rfl rfl (Nat.le_of_ble_eq_true rfl) (by refine ⟨?_, ?_, ?_, ?_⟩ <;> exact Nat.le_of_ble_eq_true rfl) (c_in _ _ _) ?_
    rw [hb']
    refine r_ifB_ne 13 dX10_run_7 (by decide) (fun h7 => ?_) (fun h7 => ?_)
    · exact absurd h7 (by decide)
    · refine r_bipush (v := -2) dX10_run_10 (by decide) ?_
      refine r_iret dX10_run_12 rfl (Nat.le_of_ble_eq_true rfl) (Nat.le_of_ble_eq_true rfl) ?_
      exact ⟨rfl, rfl, rfl, PM.same hR⟩
theorem n_last (hL : LM sh mr o) {σ : Al} {N : Nat} (hR : RR mi o σ) (hok : okA σ N) (hN : N < 2 ^ 27) (s w : Int32) : Mi mX10_last 2 [.ref o, .int s, .int w] z sh mi mr (PM mi o (sp_last σ s w)) := by
  obtain ⟨l0, ⟨l1, l2⟩, -⟩ := id hL
  by_cases hb : stB s = true
  · obtain ⟨k, hk, rfl⟩ := st_ex hb
    have hkk : sk (nI k) = k := sk_nI (by omega)
    by_cases hw : inB w (nI 0) (nI 3) = true
    · obtain ⟨j, j1, j2, rfl⟩ := inB_ex (by omega) hw (by omega)
      cases hq : (stA σ k).2.2.2.2 with
      | none =>
        have hsp : sp_last σ (nI k) (nI j) = (-3, σ) := by unfold sp_last; rw [if_neg (by rw [hb]; decide), if_neg (by rw [hw]; decide), hkk, hq]
        rw [hsp]
        have hv := hR.2.1.2 k hk hq
        refine Mv.of pnX10_last (Nat.le_of_ble_eq_true rfl) rfl ?_
        refine r_iload_n 1 dX10_last_0 rfl rfl ?_
        refine r_callSp [_] dX10_last_1 ok_RX10_78 isX10_isStation rfl rfl (Nat.le_of_ble_eq_true rfl) (by refine ⟨?_, ?_, ?_, ?_⟩ <;> exact Nat.le_of_ble_eq_true rfl) (c_isStation _) ?_
        rw [hb]
        refine r_ifB_ne 9 dX10_last_4 (by decide) (fun h4 => ?_) (fun h4 => ?_)
        · refine r_iload_n 2 dX10_last_9 rfl rfl ?_
          refine r_iconst (v := nI 0) dX10_last_10 (by decide) ?_
          refine r_iconst (v := nI 3) dX10_last_11 (by decide) ?_
          refine r_callSp [_, _, _] dX10_last_12 ok_RX10_41 isX10_in rfl rfl (Nat.le_of_ble_eq_true rfl) (by refine ⟨?_, ?_, ?_, ?_⟩ <;> exact Nat.le_of_ble_eq_true rfl) (c_in _ _ _) ?_
          rw [hw]
          refine r_ifB_ne 21 dX10_last_15 (by decide) (fun h15 => ?_) (fun h15 => ?_)
          · refine r_aload_n 0 dX10_last_21 rfl rfl ?_
            refine r_getR dX10_last_22 fl_RX10_7 rfl (by assumption) (by assumption) ?_
            refine r_sipush (v := nI 1380) dX10_last_25 (by decide) ?_
            refine r_iload_n 1 dX10_last_28 rfl rfl ?_
            refine r_iaddN dX10_last_29 ?_
            refine r_ialdV dX10_last_30 (by assumption) (by omega) (by omega) (by first | assumption | exact up2_same _ _ _ _ | exact (Eq.trans (up2_ne _ _ (by omega)) (by first | assumption | exact up2_same _ _ _ _)) | exact (Eq.trans (up2_ne _ _ (by omega)) (Eq.trans (up2_ne _ _ (by omega)) (by first | assumption | exact up2_same _ _ _ _))) | exact (Eq.trans (up2_ne _ _ (by omega)) (Eq.trans (up2_ne _ _ (by omega)) (Eq.trans (up2_ne _ _ (by omega)) (by first | assumption | exact up2_same _ _ _ _)))) | exact (Eq.trans (up2_ne _ _ (by omega)) (Eq.trans (up2_ne _ _ (by omega)) (Eq.trans (up2_ne _ _ (by omega)) (Eq.trans (up2_ne _ _ (by omega)) (by first | assumption | exact up2_same _ _ _ _))))) | rfl) ?_
            refine r_if_ge 37 dX10_last_31 (by decide) (fun h31 => ?_) (fun h31 => ?_)
            · exact absurd h31 (by decide)
            · refine r_bipush (v := -3) dX10_last_34 (by decide) ?_
              refine r_iret dX10_last_36 rfl (Nat.le_of_ble_eq_true rfl) (Nat.le_of_ble_eq_true rfl) ?_
              exact ⟨rfl, rfl, rfl, PM.same hR⟩
          · exact absurd h15 (by decide)
        · exact absurd h4 (by decide)
      | some q =>
        have hsp : sp_last σ (nI k) (nI j) = (if nI j = nI 0 then nI q.1.2.2.length else if nI j = nI 1 then nI (q.1.2.2.countP (fun w => w.2.2)) else if nI j = nI 2 then nI q.2 else match q.1.2.2[unIx q.1.2.2]? with
          | some u => nI u.2.1
          | none => -6, σ) := by unfold sp_last; rw [if_neg (by rw [hb]; decide), if_neg (by rw [hw]; decide), hkk, hq]; rfl
        obtain ⟨hP, hT⟩ := (hR.2.1.1.1 k hk).2.2.2.2 q hq
        obtain ⟨hpk, htl⟩ := (hok.2.1.1.1 k hk).2.2.2.2 q.1 q.2 hq
        have hnow := hok.2.1.2.2
        have hj : j = 0 ∨ j = 1 ∨ j = 2 ∨ j = 3 := by omega
        rcases hj with rfl | rfl | rfl | rfl
        · rw [if_pos rfl] at hsp
          rw [hsp]
          refine Mv.of pnX10_last (Nat.le_of_ble_eq_true rfl) rfl ?_
          refine r_iload_n 1 dX10_last_0 rfl rfl ?_
          refine r_callSp [_] dX10_last_1 ok_RX10_78 isX10_isStation rfl rfl (Nat.le_of_ble_eq_true rfl) (by refine ⟨?_, ?_, ?_, ?_⟩ <;> exact Nat.le_of_ble_eq_true rfl) (c_isStation _) ?_
          rw [hb]
          refine r_ifB_ne 9 dX10_last_4 (by decide) (fun h4 => ?_) (fun h4 => ?_)
          · refine r_iload_n 2 dX10_last_9 rfl rfl ?_
            refine r_iconst (v := nI 0) dX10_last_10 (by decide) ?_
            refine r_iconst (v := nI 3) dX10_last_11 (by decide) ?_
            refine r_callSp [_, _, _] dX10_last_12 ok_RX10_41 isX10_in rfl rfl (Nat.le_of_ble_eq_true rfl) (by refine ⟨?_, ?_, ?_, ?_⟩ <;> exact Nat.le_of_ble_eq_true rfl) (c_in _ _ _) ?_
            rw [hw]
            refine r_ifB_ne 21 dX10_last_15 (by decide) (fun h15 => ?_) (fun h15 => ?_)
            · refine r_aload_n 0 dX10_last_21 rfl rfl ?_
              refine r_getR dX10_last_22 fl_RX10_7 rfl (by assumption) (by assumption) ?_
              refine r_sipush (v := nI 1380) dX10_last_25 (by decide) ?_
              refine r_iload_n 1 dX10_last_28 rfl rfl ?_
              refine r_iaddN dX10_last_29 ?_
              refine r_ialdV dX10_last_30 (by assumption) (by omega) (by omega) (by first | assumption | exact up2_same _ _ _ _ | exact (Eq.trans (up2_ne _ _ (by omega)) (by first | assumption | exact up2_same _ _ _ _)) | exact (Eq.trans (up2_ne _ _ (by omega)) (Eq.trans (up2_ne _ _ (by omega)) (by first | assumption | exact up2_same _ _ _ _))) | exact (Eq.trans (up2_ne _ _ (by omega)) (Eq.trans (up2_ne _ _ (by omega)) (Eq.trans (up2_ne _ _ (by omega)) (by first | assumption | exact up2_same _ _ _ _)))) | exact (Eq.trans (up2_ne _ _ (by omega)) (Eq.trans (up2_ne _ _ (by omega)) (Eq.trans (up2_ne _ _ (by omega)) (Eq.trans (up2_ne _ _ (by omega)) (by first | assumption | exact up2_same _ _ _ _))))) | rfl) ?_
              refine r_ifN_ge 37 dX10_last_31 (by decide) (by omega) ?_
              refine r_iload_n 2 dX10_last_37 rfl rfl ?_
              refine r_ifN_ne 49 dX10_last_38 (by decide) (by omega) (fun h38 => ?_) (fun h38 => ?_)
              · omega
              · refine r_aload_n 0 dX10_last_41 rfl rfl ?_
                refine r_iload_n 1 dX10_last_42 rfl rfl ?_
                refine r_callVp [_] dX10_last_43 ok_RX10_166 ivX10_words (by assumption) ⟨_, _, rfl⟩ rfl rfl (Nat.le_of_ble_eq_true rfl) (by refine ⟨?_, ?_, ?_, ?_⟩ <;> exact Nat.le_of_ble_eq_true rfl) (m_words hL hk hP.2.2.1) ?_
                refine r_goto 85 dX10_last_46 (by decide) ?_
                refine r_iret dX10_last_85 rfl (Nat.le_of_ble_eq_true rfl) (Nat.le_of_ble_eq_true rfl) ?_
                exact ⟨rfl, rfl, rfl, PM.same hR⟩
            · exact absurd h15 (by decide)
          · exact absurd h4 (by decide)
        · rw [if_neg (by decide), if_pos rfl] at hsp
          rw [hsp]
          refine Mv.of pnX10_last (Nat.le_of_ble_eq_true rfl) rfl ?_
          refine r_iload_n 1 dX10_last_0 rfl rfl ?_
          refine r_callSp [_] dX10_last_1 ok_RX10_78 isX10_isStation rfl rfl (Nat.le_of_ble_eq_true rfl) (by refine ⟨?_, ?_, ?_, ?_⟩ <;> exact Nat.le_of_ble_eq_true rfl) (c_isStation _) ?_
          rw [hb]
          refine r_ifB_ne 9 dX10_last_4 (by decide) (fun h4 => ?_) (fun h4 => ?_)
          · refine r_iload_n 2 dX10_last_9 rfl rfl ?_
            refine r_iconst (v := nI 0) dX10_last_10 (by decide) ?_
            refine r_iconst (v := nI 3) dX10_last_11 (by decide) ?_
            refine r_callSp [_, _, _] dX10_last_12 ok_RX10_41 isX10_in rfl rfl (Nat.le_of_ble_eq_true rfl) (by refine ⟨?_, ?_, ?_, ?_⟩ <;> exact Nat.le_of_ble_eq_true rfl) (c_in _ _ _) ?_
            rw [hw]
            refine r_ifB_ne 21 dX10_last_15 (by decide) (fun h15 => ?_) (fun h15 => ?_)
            · refine r_aload_n 0 dX10_last_21 rfl rfl ?_
              refine r_getR dX10_last_22 fl_RX10_7 rfl (by assumption) (by assumption) ?_
              refine r_sipush (v := nI 1380) dX10_last_25 (by decide) ?_
              refine r_iload_n 1 dX10_last_28 rfl rfl ?_
              refine r_iaddN dX10_last_29 ?_
              refine r_ialdV dX10_last_30 (by assumption) (by omega) (by omega) (by first | assumption | exact up2_same _ _ _ _ | exact (Eq.trans (up2_ne _ _ (by omega)) (by first | assumption | exact up2_same _ _ _ _)) | exact (Eq.trans (up2_ne _ _ (by omega)) (Eq.trans (up2_ne _ _ (by omega)) (by first | assumption | exact up2_same _ _ _ _))) | exact (Eq.trans (up2_ne _ _ (by omega)) (Eq.trans (up2_ne _ _ (by omega)) (Eq.trans (up2_ne _ _ (by omega)) (by first | assumption | exact up2_same _ _ _ _)))) | exact (Eq.trans (up2_ne _ _ (by omega)) (Eq.trans (up2_ne _ _ (by omega)) (Eq.trans (up2_ne _ _ (by omega)) (Eq.trans (up2_ne _ _ (by omega)) (by first | assumption | exact up2_same _ _ _ _))))) | rfl) ?_
              refine r_ifN_ge 37 dX10_last_31 (by decide) (by omega) ?_
              refine r_iload_n 2 dX10_last_37 rfl rfl ?_
              refine r_ifN_ne 49 dX10_last_38 (by decide) (by omega) (fun h38 => ?_) (fun h38 => ?_)
              · refine r_iload_n 2 dX10_last_49 rfl rfl ?_
                refine r_iconst (v := nI 1) dX10_last_50 (by decide) ?_
                refine r_icmpN_ne 62 dX10_last_51 (by decide) (by omega) (by omega) (fun h51 => ?_) (fun h51 => ?_)
                · omega
                · refine r_aload_n 0 dX10_last_54 rfl rfl ?_
                  refine r_iload_n 1 dX10_last_55 rfl rfl ?_
                  refine r_callVp [_] dX10_last_56 ok_RX10_175 ivX10_spentWords (by assumption) ⟨_, _, rfl⟩ rfl rfl (Nat.le_of_ble_eq_true rfl) (by refine ⟨?_, ?_, ?_, ?_⟩ <;> exact Nat.le_of_ble_eq_true rfl) (m_spentWords hL hk hP hpk) ?_
                  refine r_goto 85 dX10_last_59 (by decide) ?_
                  refine r_iret dX10_last_85 rfl (Nat.le_of_ble_eq_true rfl) (Nat.le_of_ble_eq_true rfl) ?_
                  exact ⟨rfl, rfl, rfl, PM.same hR⟩
              · omega
            · exact absurd h15 (by decide)
          · exact absurd h4 (by decide)
        · rw [if_neg (by decide), if_neg (by decide), if_pos rfl] at hsp
          rw [hsp]
          refine Mv.of pnX10_last (Nat.le_of_ble_eq_true rfl) rfl ?_
          refine r_iload_n 1 dX10_last_0 rfl rfl ?_
          refine r_callSp [_] dX10_last_1 ok_RX10_78 isX10_isStation rfl rfl (Nat.le_of_ble_eq_true rfl) (by refine ⟨?_, ?_, ?_, ?_⟩ <;> exact Nat.le_of_ble_eq_true rfl) (c_isStation _) ?_
          rw [hb]
          refine r_ifB_ne 9 dX10_last_4 (by decide) (fun h4 => ?_) (fun h4 => ?_)
          · refine r_iload_n 2 dX10_last_9 rfl rfl ?_
            refine r_iconst (v := nI 0) dX10_last_10 (by decide) ?_
            refine r_iconst (v := nI 3) dX10_last_11 (by decide) ?_
            refine r_callSp [_, _, _] dX10_last_12 ok_RX10_41 isX10_in rfl rfl (Nat.le_of_ble_eq_true rfl) (by refine ⟨?_, ?_, ?_, ?_⟩ <;> exact Nat.le_of_ble_eq_true rfl) (c_in _ _ _) ?_
            rw [hw]
            refine r_ifB_ne 21 dX10_last_15 (by decide) (fun h15 => ?_) (fun h15 => ?_)
            · refine r_aload_n 0 dX10_last_21 rfl rfl ?_
              refine r_getR dX10_last_22 fl_RX10_7 rfl (by assumption) (by assumption) ?_
              refine r_sipush (v := nI 1380) dX10_last_25 (by decide) ?_
              refine r_iload_n 1 dX10_last_28 rfl rfl ?_
              refine r_iaddN dX10_last_29 ?_
              refine r_ialdV dX10_last_30 (by assumption) (by omega) (by omega) (by first | assumption | exact up2_same _ _ _ _ | exact (Eq.trans (up2_ne _ _ (by omega)) (by first | assumption | exact up2_same _ _ _ _)) | exact (Eq.trans (up2_ne _ _ (by omega)) (Eq.trans (up2_ne _ _ (by omega)) (by first | assumption | exact up2_same _ _ _ _))) | exact (Eq.trans (up2_ne _ _ (by omega)) (Eq.trans (up2_ne _ _ (by omega)) (Eq.trans (up2_ne _ _ (by omega)) (by first | assumption | exact up2_same _ _ _ _)))) | exact (Eq.trans (up2_ne _ _ (by omega)) (Eq.trans (up2_ne _ _ (by omega)) (Eq.trans (up2_ne _ _ (by omega)) (Eq.trans (up2_ne _ _ (by omega)) (by first | assumption | exact up2_same _ _ _ _))))) | rfl) ?_
              refine r_ifN_ge 37 dX10_last_31 (by decide) (by omega) ?_
              refine r_iload_n 2 dX10_last_37 rfl rfl ?_
              refine r_ifN_ne 49 dX10_last_38 (by decide) (by omega) (fun h38 => ?_) (fun h38 => ?_)
              · refine r_iload_n 2 dX10_last_49 rfl rfl ?_
                refine r_iconst (v := nI 1) dX10_last_50 (by decide) ?_
                refine r_icmpN_ne 62 dX10_last_51 (by decide) (by omega) (by omega) (fun h51 => ?_) (fun h51 => ?_)
                · refine r_iload_n 2 dX10_last_62 rfl rfl ?_
                  refine r_iconst (v := nI 2) dX10_last_63 (by decide) ?_
                  refine r_icmpN_ne 80 dX10_last_64 (by decide) (by omega) (by omega) (fun h64 => ?_) (fun h64 => ?_)
                  · omega
                  · refine r_aload_n 0 dX10_last_67 rfl rfl ?_
                    refine r_getR dX10_last_68 fl_RX10_7 rfl (by assumption) (by assumption) ?_
                    refine r_sipush (v := nI 1380) dX10_last_71 (by decide) ?_
                    refine r_iload_n 1 dX10_last_74 rfl rfl ?_
                    refine r_iaddN dX10_last_75 ?_
                    refine r_ialdV dX10_last_76 (by assumption) (by omega) (by omega) (by first | assumption | exact up2_same _ _ _ _ | exact (Eq.trans (up2_ne _ _ (by omega)) (by first | assumption | exact up2_same _ _ _ _)) | exact (Eq.trans (up2_ne _ _ (by omega)) (Eq.trans (up2_ne _ _ (by omega)) (by first | assumption | exact up2_same _ _ _ _))) | exact (Eq.trans (up2_ne _ _ (by omega)) (Eq.trans (up2_ne _ _ (by omega)) (Eq.trans (up2_ne _ _ (by omega)) (by first | assumption | exact up2_same _ _ _ _)))) | exact (Eq.trans (up2_ne _ _ (by omega)) (Eq.trans (up2_ne _ _ (by omega)) (Eq.trans (up2_ne _ _ (by omega)) (Eq.trans (up2_ne _ _ (by omega)) (by first | assumption | exact up2_same _ _ _ _))))) | rfl) ?_
                    refine r_goto 85 dX10_last_77 (by decide) ?_
                    refine r_iret dX10_last_85 rfl (Nat.le_of_ble_eq_true rfl) (Nat.le_of_ble_eq_true rfl) ?_
                    exact ⟨rfl, rfl, rfl, PM.same hR⟩
                · omega
              · omega
            · exact absurd h15 (by decide)
          · exact absurd h4 (by decide)
        · rw [if_neg (by decide), if_neg (by decide), if_neg (by decide)] at hsp
          rw [hsp]
          refine Mv.of pnX10_last (Nat.le_of_ble_eq_true rfl) rfl ?_
          refine r_iload_n 1 dX10_last_0 rfl rfl ?_
          refine r_callSp [_] dX10_last_1 ok_RX10_78 isX10_isStation rfl rfl (Nat.le_of_ble_eq_true rfl) (by refine ⟨?_, ?_, ?_, ?_⟩ <;> exact Nat.le_of_ble_eq_true rfl) (c_isStation _) ?_
          rw [hb]
          refine r_ifB_ne 9 dX10_last_4 (by decide) (fun h4 => ?_) (fun h4 => ?_)
          · refine r_iload_n 2 dX10_last_9 rfl rfl ?_
            refine r_iconst (v := nI 0) dX10_last_10 (by decide) ?_
            refine r_iconst (v := nI 3) dX10_last_11 (by decide) ?_
            refine r_callSp [_, _, _] dX10_last_12 ok_RX10_41 isX10_in rfl rfl (Nat.le_of_ble_eq_true rfl) (by refine ⟨?_, ?_, ?_, ?_⟩ <;> exact Nat.le_of_ble_eq_true rfl) (c_in _ _ _) ?_
            rw [hw]
            refine r_ifB_ne 21 dX10_last_15 (by decide) (fun h15 => ?_) (fun h15 => ?_)
            · refine r_aload_n 0 dX10_last_21 rfl rfl ?_
              refine r_getR dX10_last_22 fl_RX10_7 rfl (by assumption) (by assumption) ?_
              refine r_sipush (v := nI 1380) dX10_last_25 (by decide) ?_
              refine r_iload_n 1 dX10_last_28 rfl rfl ?_
              refine r_iaddN dX10_last_29 ?_
              refine r_ialdV dX10_last_30 (by assumption) (by omega) (by omega) (by first | assumption | exact up2_same _ _ _ _ | exact (Eq.trans (up2_ne _ _ (by omega)) (by first | assumption | exact up2_same _ _ _ _)) | exact (Eq.trans (up2_ne _ _ (by omega)) (Eq.trans (up2_ne _ _ (by omega)) (by first | assumption | exact up2_same _ _ _ _))) | exact (Eq.trans (up2_ne _ _ (by omega)) (Eq.trans (up2_ne _ _ (by omega)) (Eq.trans (up2_ne _ _ (by omega)) (by first | assumption | exact up2_same _ _ _ _)))) | exact (Eq.trans (up2_ne _ _ (by omega)) (Eq.trans (up2_ne _ _ (by omega)) (Eq.trans (up2_ne _ _ (by omega)) (Eq.trans (up2_ne _ _ (by omega)) (by first | assumption | exact up2_same _ _ _ _))))) | rfl) ?_
              refine r_ifN_ge 37 dX10_last_31 (by decide) (by omega) ?_
              refine r_iload_n 2 dX10_last_37 rfl rfl ?_
              refine r_ifN_ne 49 dX10_last_38 (by decide) (by omega) (fun h38 => ?_) (fun h38 => ?_)
              · refine r_iload_n 2 dX10_last_49 rfl rfl ?_
                refine r_iconst (v := nI 1) dX10_last_50 (by decide) ?_
                refine r_icmpN_ne 62 dX10_last_51 (by decide) (by omega) (by omega) (fun h51 => ?_) (fun h51 => ?_)
                · refine r_iload_n 2 dX10_last_62 rfl rfl ?_
                  refine r_iconst (v := nI 2) dX10_last_63 (by decide) ?_
                  refine r_icmpN_ne 80 dX10_last_64 (by decide) (by omega) (by omega) (fun h64 => ?_) (fun h64 => ?_)
                  · refine r_aload_n 0 dX10_last_80 rfl rfl ?_
                    refine r_iload_n 1 dX10_last_81 rfl rfl ?_
                    refine r_callVp [_] dX10_last_82 ok_RX10_178 ivX10_firstHops (by assumption) ⟨_, _, rfl⟩ rfl rfl (Nat.le_of_ble_eq_true rfl) (by refine ⟨?_, ?_, ?_, ?_⟩ <;> exact Nat.le_of_ble_eq_true rfl) (m_firstHops hL hk hP hpk) ?_
                    refine r_iret dX10_last_85 rfl (Nat.le_of_ble_eq_true rfl) (Nat.le_of_ble_eq_true rfl) ?_
                    exact ⟨rfl, rfl, rfl, PM.same hR⟩
                  · omega
                · omega
              · omega
            · exact absurd h15 (by decide)
          · exact absurd h4 (by decide)
    · have hw' : inB w (nI 0) (nI 3) = false := by simpa using hw
      have hsp : sp_last σ (nI k) w = (-2, σ) := by unfold sp_last; rw [if_neg (by rw [hb]; decide), if_pos hw']
      rw [hsp]
      refine Mv.of pnX10_last (Nat.le_of_ble_eq_true rfl) rfl ?_
      refine r_iload_n 1 dX10_last_0 rfl rfl ?_
      refine r_callSp [_] dX10_last_1 ok_RX10_78 isX10_isStation rfl rfl (Nat.le_of_ble_eq_true rfl) (by refine ⟨?_, ?_, ?_, ?_⟩ <;> exact Nat.le_of_ble_eq_true rfl) (c_isStation _) ?_
      rw [hb]
      refine r_ifB_ne 9 dX10_last_4 (by decide) (fun h4 => ?_) (fun h4 => ?_)
      · refine r_iload_n 2 dX10_last_9 rfl rfl ?_
        refine r_iconst (v := nI 0) dX10_last_10 (by decide) ?_
        refine r_iconst (v := nI 3) dX10_last_11 (by decide) ?_
        refine r_callSp [_, _, _] dX10_last_12 ok_RX10_41 isX10_in rfl rfl (Nat.le_of_ble_eq_true rfl) (by refine ⟨?_, ?_, ?_, ?_⟩ <;> exact Nat.le_of_ble_eq_true rfl) (c_in _ _ _) ?_
        rw [hw']
        refine r_ifB_ne 21 dX10_last_15 (by decide) (fun h15 => ?_) (fun h15 => ?_)
        · exact absurd h15 (by decide)
        · refine r_bipush (v := -2) dX10_last_18 (by decide) ?_
          refine r_iret dX10_last_20 rfl (Nat.le_of_ble_eq_true rfl) (Nat.le_of_ble_eq_true rfl) ?_
          exact ⟨rfl, rfl, rfl, PM.same hR⟩
      · exact absurd h4 (by decide)
  · have hb' : stB s = false := by simpa using hb
    have hsp : sp_last σ s w = (-1, σ) := by unfold sp_last; rw [if_pos hb']
    rw [hsp]
    refine Mv.of pnX10_last (Nat.le_of_ble_eq_true rfl) rfl ?_
    refine r_iload_n 1 dX10_last_0 rfl rfl ?_
    refine r_callSp [_] dX10_last_1 ok_RX10_78 isX10_isStation rfl rfl (Nat.le_of_ble_eq_true rfl) (by refine ⟨?_, ?_, ?_, ?_⟩ <;> exact Nat.le_of_ble_eq_true rfl) (c_isStation _) ?_
    rw [hb']
    refine r_ifB_ne 9 dX10_last_4 (by decide) (fun h4 => ?_) (fun h4 => ?_)
    · exact absurd h4 (by decide)
    · refine r_iconst (v := -1) dX10_last_7 (by decide) ?_
      refine r_iret dX10_last_8 rfl (Nat.le_of_ble_eq_true rfl) (Nat.le_of_ble_eq_true rfl) ?_
      exact ⟨rfl, rfl, rfl, PM.same hR⟩
theorem n_image (hL : LM sh mr o) {σ : Al} {N : Nat} (hR : RR mi o σ) (hok : okA σ N) (k : Int32) : Mi mX10_image 1 [.ref o, .int k] z sh mi mr (PM mi o (sp_image σ k)) := by
  obtain ⟨l0, -, -, ⟨l5, l6⟩, -⟩ := id hL
  by_cases hb : inB k (nI 0) (nI 1) = true
  · obtain ⟨j, j1, j2, rfl⟩ := inB_ex (by omega) hb (by omega)
    have hsp : sp_image σ (nI j) = (nI 1, (σ.1, σ.2.1, fun i => if i = j then some σ.2.1 else σ.2.2 i)) := by unfold sp_image; rw [if_neg (by rw [hb]; decide), sk_nI (by omega)]
    rw [hsp]
    refine Mv.of pnX10_image (Nat.le_of_ble_eq_true rfl) rfl ?_
    refine r_iload_n 1 dX10_image_0 rfl rfl ?_
    refine r_iconst (v := nI 0) dX10_image_1 (by decide) ?_
    refine r_iconst (v := nI 1) dX10_image_2 (by decide) ?_
    refine r_callSp [_, _, _] dX10_image_3 ok_RX10_41 isX10_in rfl rfl (Nat.le_of_ble_eq_true rfl) (by refine ⟨?_, ?_, ?_, ?_⟩ <;> exact Nat.le_of_ble_eq_true rfl) (c_in _ _ _) ?_
    rw [hb]
    refine r_ifB_ne 12 dX10_image_6 (by decide) (fun h6 => ?_) (fun h6 => ?_)
    · refine r_aload_n 0 dX10_image_12 rfl rfl ?_
      refine r_iload_n 1 dX10_image_13 rfl rfl ?_
      refine r_callVw [_] dX10_image_14 ok_RX10_184 ivX10_save (by assumption) ⟨_, _, rfl⟩ rfl rfl (Nat.le_of_ble_eq_true rfl) (by refine ⟨?_, ?_, ?_, ?_⟩ <;> exact Nat.le_of_ble_eq_true rfl) (m_save hL (by omega)) ?_
      intro mA ⟨u1, u2⟩
      refine r_aload_n 0 dX10_image_17 rfl rfl ?_
      refine r_getR dX10_image_18 fl_RX10_16 rfl (by assumption) (by assumption) ?_
      refine r_iload_n 1 dX10_image_21 rfl rfl ?_
      refine r_iconst (v := nI 1) dX10_image_22 (by decide) ?_
      refine r_bast dX10_image_23 (by first | exact b2_nar _ | decide) (by assumption) (by omega) (by omega) ?_
      refine r_iconst (v := nI 1) dX10_image_24 (by decide) ?_
      refine r_iret dX10_image_25 rfl (Nat.le_of_ble_eq_true rfl) (Nat.le_of_ble_eq_true rfl) ?_
      refine ⟨rfl, rfl, rfl, rfl, ⟨hR.1.keep (by rw [up2_row _ _ (by omega), u2 _ (by omega)]) (by rw [up2_row _ _ (by omega), u2 _ (by omega)]), ?_, fun q hq => ?_⟩, fun x hx => by rw [up2_row _ _ (by omega), u2 x (by omega)]⟩
      · rw [up2_row _ _ (by omega), u2 _ (by omega)]; exact hR.2.1
      · rw [up2_row _ _ (by omega : o + 2 ≠ o + 3)]
        by_cases e : q = j
        · subst e
          refine ⟨by rw [up2_same]; simp; rfl, fun n hn => ?_⟩
          have hn : (if q = q then some σ.2.1 else σ.2.2 q) = some n := hn
          rw [if_pos rfl] at hn
          cases hn
          have hx : ∀ i, i < 1387 → mA (o + 2) (1387 * q + i) = mi (o + 1) i := fun i hi => by rw [u1, if_pos (by omega)]; congr 1; omega
          exact ⟨hR.2.1.1.ext hok.2.1.1 hx, hR.2.1.2.ext hx⟩
        · obtain ⟨r1, r2⟩ := hR.2.2 q hq
          refine ⟨by rw [up2_ne _ _ (Or.inr e), u2 _ (by omega), r1]; simp [e], fun n hn => ?_⟩
          have hn : (if q = j then some σ.2.1 else σ.2.2 q) = some n := hn
          rw [if_neg e] at hn
          have hx : ∀ i, i < 1387 → mA (o + 2) (1387 * q + i) = mi (o + 2) (1387 * q + i) := fun i hi => by rw [u1, if_neg (by omega)]
          obtain ⟨r3, r4⟩ := r2 n hn
          exact ⟨r3.ext (hok.2.2 q hq n hn).1 hx, r4.ext hx⟩
    · exact absurd h6 (by decide)
  · have hb' : inB k (nI 0) (nI 1) = false := by simpa using hb
    have hsp : sp_image σ k = (-2, σ) := by unfold sp_image; rw [if_pos hb']
    rw [hsp]
    refine Mv.of pnX10_image (Nat.le_of_ble_eq_true rfl) rfl ?_
    refine r_iload_n 1 dX10_image_0 rfl rfl ?_
    refine r_iconst (v := nI 0) dX10_image_1 (by decide) ?_
    refine r_iconst (v := nI 1) dX10_image_2 (by decide) ?_
    refine r_callSp [_, _, _] dX10_image_3 ok_RX10_41 isX10_in rfl rfl (Nat.le_of_ble_eq_true rfl) (by refine ⟨?_, ?_, ?_, ?_⟩ <;> exact Nat.le_of_ble_eq_true rfl) (c_in _ _ _) ?_
    rw [hb']
    refine r_ifB_ne 12 dX10_image_6 (by decide) (fun h6 => ?_) (fun h6 => ?_)
    · exact absurd h6 (by decide)
    · refine r_bipush (v := -2) dX10_image_9 (by decide) ?_
      refine r_iret dX10_image_11 rfl (Nat.le_of_ble_eq_true rfl) (Nat.le_of_ble_eq_true rfl) ?_
      exact ⟨rfl, rfl, rfl, PM.same hR⟩
theorem n_restore (hL : LM sh mr o) {σ : Al} {N : Nat} (hR : RR mi o σ) (hok : okA σ N) (k : Int32) : Mi mX10_restore 1 [.ref o, .int k] z sh mi mr (PM mi o (sp_restore σ k)) := by
  obtain ⟨l0, -, -, ⟨l5, l6⟩, -⟩ := id hL
  by_cases hb : inB k (nI 0) (nI 1) = true
  · obtain ⟨j, j1, j2, rfl⟩ := inB_ex (by omega) hb (by omega)
    have hkk : sk (nI j) = j := sk_nI (by omega)
    obtain ⟨r1, r2⟩ := hR.2.2 j (by omega)
    cases hq : σ.2.2 j with
    | none =>
      have hsp : sp_restore σ (nI j) = (-3, σ) := by unfold sp_restore; rw [if_neg (by rw [hb]; decide), hkk, hq]
      rw [hsp]
      rw [hq] at r1
      have r1' : mi (o + 3) j = b2 false := r1
      refine Mv.of pnX10_restore (Nat.le_of_ble_eq_true rfl) rfl ?_
      refine r_iload_n 1 dX10_restore_0 rfl rfl ?_
      refine r_iconst (v := nI 0) dX10_restore_1 (by decide) ?_
      refine r_iconst (v := nI 1) dX10_restore_2 (by decide) ?_
      refine r_callSp [_, _, _] dX10_restore_3 ok_RX10_41 isX10_in rfl rfl (Nat.le_of_ble_eq_true rfl) (by refine ⟨?_, ?_, ?_, ?_⟩ <;> exact Nat.le_of_ble_eq_true rfl) (c_in _ _ _) ?_
      rw [hb]
      refine r_ifB_ne 12 dX10_restore_6 (by decide) (fun h6 => ?_) (fun h6 => ?_)
      · refine r_aload_n 0 dX10_restore_12 rfl rfl ?_
        refine r_getR dX10_restore_13 fl_RX10_16 rfl (by assumption) (by assumption) ?_
        refine r_iload_n 1 dX10_restore_16 rfl rfl ?_
        refine r_baldV dX10_restore_17 (by assumption) (by omega) (by omega) (by first | assumption | exact up2_same _ _ _ _ | exact (Eq.trans (up2_ne _ _ (by omega)) (by first | assumption | exact up2_same _ _ _ _)) | exact (Eq.trans (up2_ne _ _ (by omega)) (Eq.trans (up2_ne _ _ (by omega)) (by first | assumption | exact up2_same _ _ _ _))) | exact (Eq.trans (up2_ne _ _ (by omega)) (Eq.trans (up2_ne _ _ (by omega)) (Eq.trans (up2_ne _ _ (by omega)) (by first | assumption | exact up2_same _ _ _ _)))) | exact (Eq.trans (up2_ne _ _ (by omega)) (Eq.trans (up2_ne _ _ (by omega)) (Eq.trans (up2_ne _ _ (by omega)) (Eq.trans (up2_ne _ _ (by omega)) (by first | assumption | exact up2_same _ _ _ _))))) | rfl) ?_
        refine r_ifB_ne 24 dX10_restore_18 (by decide) (fun h18 => ?_) (fun h18 => ?_)
        · exact absurd h18 (by decide)
        · refine r_bipush (v := -3) dX10_restore_21 (by decide) ?_
          refine r_iret dX10_restore_23 rfl (Nat.le_of_ble_eq_true rfl) (Nat.le_of_ble_eq_true rfl) ?_
          exact ⟨rfl, rfl, rfl, PM.same hR⟩
      · exact absurd h6 (by decide)
    | some n =>
      have hsp : sp_restore σ (nI j) = (nI 1, (σ.1, n, σ.2.2)) := by unfold sp_restore; rw [if_neg (by rw [hb]; decide), hkk, hq]
      rw [hsp]
      rw [hq] at r1
      have r1' : mi (o + 3) j = b2 true := r1
      obtain ⟨r3, r4⟩ := r2 n hq
      refine Mv.of pnX10_restore (Nat.le_of_ble_eq_true rfl) rfl ?_
      refine r_iload_n 1 dX10_restore_0 rfl rfl ?_
      refine r_iconst (v := nI 0) dX10_restore_1 (by decide) ?_
      refine r_iconst (v := nI 1) dX10_restore_2 (by decide) ?_
      refine r_callSp [_, _, _] dX10_restore_3 ok_RX10_41 isX10_in rfl rfl (Nat.le_of_ble_eq_true rfl) (by refine ⟨?_, ?_, ?_, ?_⟩ <;> exact Nat.le_of_ble_eq_true rfl) (c_in _ _ _) ?_
      rw [hb]
      refine r_ifB_ne 12 dX10_restore_6 (by decide) (fun h6 => ?_) (fun h6 => ?_)
      · refine r_aload_n 0 dX10_restore_12 rfl rfl ?_
        refine r_getR dX10_restore_13 fl_RX10_16 rfl (by assumption) (by assumption) ?_
        refine r_iload_n 1 dX10_restore_16 rfl rfl ?_
        refine r_baldV dX10_restore_17 (by assumption) (by omega) (by omega) (by first | assumption | exact up2_same _ _ _ _ | exact (Eq.trans (up2_ne _ _ (by omega)) (by first | assumption | exact up2_same _ _ _ _)) | exact (Eq.trans (up2_ne _ _ (by omega)) (Eq.trans (up2_ne _ _ (by omega)) (by first | assumption | exact up2_same _ _ _ _))) | exact (Eq.trans (up2_ne _ _ (by omega)) (Eq.trans (up2_ne _ _ (by omega)) (Eq.trans (up2_ne _ _ (by omega)) (by first | assumption | exact up2_same _ _ _ _)))) | exact (Eq.trans (up2_ne _ _ (by omega)) (Eq.trans (up2_ne _ _ (by omega)) (Eq.trans (up2_ne _ _ (by omega)) (Eq.trans (up2_ne _ _ (by omega)) (by first | assumption | exact up2_same _ _ _ _))))) | rfl) ?_
        refine r_ifB_ne 24 dX10_restore_18 (by decide) (fun h18 => ?_) (fun h18 => ?_)
        · refine r_aload_n 0 dX10_restore_24 rfl rfl ?_
          refine r_iload_n 1 dX10_restore_25 rfl rfl ?_
          refine r_callVw [_] dX10_restore_26 ok_RX10_196 ivX10_load (by assumption) ⟨_, _, rfl⟩ rfl rfl (Nat.le_of_ble_eq_true rfl) (by refine ⟨?_, ?_, ?_, ?_⟩ <;> exact Nat.le_of_ble_eq_true rfl) (m_load hL (by omega)) ?_
          intro mA ⟨u1, u2⟩
          refine r_iconst (v := nI 1) dX10_restore_29 (by decide) ?_
          refine r_iret dX10_restore_30 rfl (Nat.le_of_ble_eq_true rfl) (Nat.le_of_ble_eq_true rfl) ?_
          have hx : ∀ i, i < 1387 → mA (o + 1) i = mi (o + 2) (1387 * j + i) := fun i hi => by rw [u1, if_pos hi]
          exact ⟨rfl, rfl, rfl, rfl, hR.to (hR.1.keep (by rw [u2 _ (by omega)]) (u2 _ (by omega))) (r3.ext (hok.2.2 j (by omega) n hq).1 hx) (r4.ext hx) (u2 _ (by omega)) (u2 _ (by omega)), fun x hx' => u2 x (by omega)⟩
        · exact absurd h18 (by decide)
      · exact absurd h6 (by decide)
  · have hb' : inB k (nI 0) (nI 1) = false := by simpa using hb
    have hsp : sp_restore σ k = (-2, σ) := by unfold sp_restore; rw [if_pos hb']
    rw [hsp]
    refine Mv.of pnX10_restore (Nat.le_of_ble_eq_true rfl) rfl ?_
    refine r_iload_n 1 dX10_restore_0 rfl rfl ?_
    refine r_iconst (v := nI 0) dX10_restore_1 (by decide) ?_
    refine r_iconst (v := nI 1) dX10_restore_2 (by decide) ?_
    refine r_callSp [_, _, _] dX10_restore_3 ok_RX10_41 isX10_in rfl rfl (Nat.le_of_ble_eq_true rfl) (by refine ⟨?_, ?_, ?_, ?_⟩ <;> exact Nat.le_of_ble_eq_true rfl) (c_in _ _ _) ?_
    rw [hb']
    refine r_ifB_ne 12 dX10_restore_6 (by decide) (fun h6 => ?_) (fun h6 => ?_)
    · exact absurd h6 (by decide)
    · refine r_bipush (v := -2) dX10_restore_9 (by decide) ?_
      refine r_iret dX10_restore_11 rfl (Nat.le_of_ble_eq_true rfl) (Nat.le_of_ble_eq_true rfl) ?_
      exact ⟨rfl, rfl, rfl, PM.same hR⟩
theorem n_count (hL : LM sh mr o) {σ : Al} (hR : RR mi o σ) (w : Int32) : Mi mX10_count_ 1 [.ref o, .int w] z sh mi mr (PM mi o (sp_count σ w)) := by
  obtain ⟨l0, ⟨l1, l2⟩, -, ⟨l5, l6⟩, -⟩ := id hL
  have hnw := hR.2.1.1.2.2
  have p4 := hR.1.1
  have i0 := (hR.2.2 0 (by omega)).1
  have i1 := (hR.2.2 1 (by omega)).1
  refine Mv.of pnX10_count_ (Nat.le_of_ble_eq_true rfl) rfl ?_
  refine r_iload_n 1 dX10_count__0 rfl rfl ?_
  have hsp : ∀ r, sp_count σ w = (r, σ) → PM mi o (sp_count σ w) (some (.int r)) mi := fun r e => by rw [e]; exact PM.same hR
  by_cases hw : inB w (nI 0) (nI 6) = true
  · obtain ⟨j, j1, j2, rfl⟩ := inB_ex (by omega) hw (by omega)
    rcases (show j = 0 ∨ j = 1 ∨ j = 2 ∨ j = 3 ∨ j = 4 ∨ j = 5 ∨ j = 6 by omega) with rfl | rfl | rfl | rfl | rfl | rfl | rfl
    · refine r_tableIn 44 dX10_count__1 (by decide) (by decide) rfl (by decide) ?_
      refine r_aload_n 0 dX10_count__44 rfl rfl ?_
      refine r_getR dX10_count__45 fl_RX10_7 rfl (by assumption) (by assumption) ?_
      refine r_sipush (v := nI 1386) dX10_count__48 (by decide) ?_
      refine r_ialdV dX10_count__51 (by assumption) (by omega) (by omega) (by first | assumption | exact up2_same _ _ _ _ | exact (Eq.trans (up2_ne _ _ (by omega)) (by first | assumption | exact up2_same _ _ _ _)) | exact (Eq.trans (up2_ne _ _ (by omega)) (Eq.trans (up2_ne _ _ (by omega)) (by first | assumption | exact up2_same _ _ _ _))) | exact (Eq.trans (up2_ne _ _ (by omega)) (Eq.trans (up2_ne _ _ (by omega)) (Eq.trans (up2_ne _ _ (by omega)) (by first | assumption | exact up2_same _ _ _ _)))) | exact (Eq.trans (up2_ne _ _ (by omega)) (Eq.trans (up2_ne _ _ (by omega)) (Eq.trans (up2_ne _ _ (by omega)) (Eq.trans (up2_ne _ _ (by omega)) (by first | assumption | exact up2_same _ _ _ _))))) | rfl) ?_
      refine r_iret dX10_count__52 rfl (Nat.le_of_ble_eq_true rfl) (Nat.le_of_ble_eq_true rfl) ?_
      exact ⟨rfl, rfl, rfl, hsp _ (by unfold sp_count; rw [if_pos rfl])⟩
    · refine r_tableIn 53 dX10_count__1 (by decide) (by decide) rfl (by decide) ?_
      refine r_aload_n 0 dX10_count__53 rfl rfl ?_
      refine r_getV dX10_count__54 fl_RX10_45 rfl (by assumption) (by first | assumption | exact up2_same _ _ _ _ | exact (Eq.trans (up2_ne _ _ (by omega)) (by first | assumption | exact up2_same _ _ _ _)) | exact (Eq.trans (up2_ne _ _ (by omega)) (Eq.trans (up2_ne _ _ (by omega)) (by first | assumption | exact up2_same _ _ _ _))) | exact (Eq.trans (up2_ne _ _ (by omega)) (Eq.trans (up2_ne _ _ (by omega)) (Eq.trans (up2_ne _ _ (by omega)) (by first | assumption | exact up2_same _ _ _ _)))) | exact (Eq.trans (up2_ne _ _ (by omega)) (Eq.trans (up2_ne _ _ (by omega)) (Eq.trans (up2_ne _ _ (by omega)) (Eq.trans (up2_ne _ _ (by omega)) (by first | assumption | exact up2_same _ _ _ _))))) | rfl) ?_
      refine r_iret dX10_count__57 rfl (Nat.le_of_ble_eq_true rfl) (Nat.le_of_ble_eq_true rfl) ?_
      exact ⟨rfl, rfl, rfl, hsp _ (by unfold sp_count; rw [if_neg (by decide), if_pos rfl])⟩
    · refine r_tableIn 58 dX10_count__1 (by decide) (by decide) rfl (by decide) ?_
      refine r_aload_n 0 dX10_count__58 rfl rfl ?_
      refine r_callVp [] dX10_count__59 ok_RX10_154 ivX10_keptByAll (by assumption) ⟨_, _, rfl⟩ rfl rfl (Nat.le_of_ble_eq_true rfl) (by refine ⟨?_, ?_, ?_, ?_⟩ <;> exact Nat.le_of_ble_eq_true rfl) (m_kept hL (fun s hs => (hR.2.1.1.1 s hs).2.2.1.1)) ?_
      refine r_iret dX10_count__62 rfl (Nat.le_of_ble_eq_true rfl) (Nat.le_of_ble_eq_true rfl) ?_
      exact ⟨rfl, rfl, rfl, hsp _ (by unfold sp_count; rw [if_neg (by decide), if_neg (by decide), if_pos rfl])⟩
    · refine r_tableIn 63 dX10_count__1 (by decide) (by decide) rfl (by decide) ?_
      refine r_aload_n 0 dX10_count__63 rfl rfl ?_
      refine r_iconst (v := nI 0) dX10_count__64 (by decide) ?_
      refine r_callVp [_] dX10_count__65 ok_RX10_187 ivX10_sumOf (by assumption) ⟨_, _, rfl⟩ rfl rfl (Nat.le_of_ble_eq_true rfl) (by refine ⟨?_, ?_, ?_, ?_⟩ <;> exact Nat.le_of_ble_eq_true rfl) (m_sumOf hL (w := 0) (by omega) (fun s hs => (hR.2.1.1.1 s hs).2.1 0 (by omega))) ?_
      refine r_iret dX10_count__68 rfl (Nat.le_of_ble_eq_true rfl) (Nat.le_of_ble_eq_true rfl) ?_
      exact ⟨rfl, rfl, rfl, hsp _ (by unfold sp_count; rw [if_neg (by decide), if_neg (by decide), if_neg (by decide), if_pos rfl]; rfl)⟩
    · refine r_tableIn 69 dX10_count__1 (by decide) (by decide) rfl (by decide) ?_
      refine r_aload_n 0 dX10_count__69 rfl rfl ?_
      refine r_bipush (v := nI 7) dX10_count__70 (by decide) ?_
      refine r_callVp [_] dX10_count__72 ok_RX10_187 ivX10_sumOf (by assumption) ⟨_, _, rfl⟩ rfl rfl (Nat.le_of_ble_eq_true rfl) (by refine ⟨?_, ?_, ?_, ?_⟩ <;> exact Nat.le_of_ble_eq_true rfl) (m_sumOf hL (w := 7) (by omega) (fun s hs => (hR.2.1.1.1 s hs).2.1 7 (by omega))) ?_
      refine r_iret dX10_count__75 rfl (Nat.le_of_ble_eq_true rfl) (Nat.le_of_ble_eq_true rfl) ?_
      exact ⟨rfl, rfl, rfl, hsp _ (by unfold sp_count; rw [if_neg (by decide), if_neg (by decide), if_neg (by decide), if_neg (by decide), if_pos rfl]; rfl)⟩
    · refine r_tableIn 76 dX10_count__1 (by decide) (by decide) rfl (by decide) ?_
      refine r_aload_n 0 dX10_count__76 rfl rfl ?_
      refine r_callVp [] dX10_count__77 ok_RX10_205 ivX10_pairs (by assumption) ⟨_, _, rfl⟩ rfl rfl (Nat.le_of_ble_eq_true rfl) (by refine ⟨?_, ?_, ?_, ?_⟩ <;> exact Nat.le_of_ble_eq_true rfl) (m_pairs hL hR.2.1.1.2.1) ?_
      refine r_iret dX10_count__80 rfl (Nat.le_of_ble_eq_true rfl) (Nat.le_of_ble_eq_true rfl) ?_
      exact ⟨rfl, rfl, rfl, hsp _ (by unfold sp_count; rw [if_neg (by decide), if_neg (by decide), if_neg (by decide), if_neg (by decide), if_neg (by decide), if_pos rfl])⟩
    · refine r_tableIn 81 dX10_count__1 (by decide) (by decide) rfl (by decide) ?_
      refine r_aload_n 0 dX10_count__81 rfl rfl ?_
      refine r_getR dX10_count__82 fl_RX10_16 rfl (by assumption) (by assumption) ?_
      refine r_iconst (v := nI 0) dX10_count__85 (by decide) ?_
      refine r_baldV dX10_count__86 (by assumption) (by omega) (by omega) (by first | assumption | exact up2_same _ _ _ _ | exact (Eq.trans (up2_ne _ _ (by omega)) (by first | assumption | exact up2_same _ _ _ _)) | exact (Eq.trans (up2_ne _ _ (by omega)) (Eq.trans (up2_ne _ _ (by omega)) (by first | assumption | exact up2_same _ _ _ _))) | exact (Eq.trans (up2_ne _ _ (by omega)) (Eq.trans (up2_ne _ _ (by omega)) (Eq.trans (up2_ne _ _ (by omega)) (by first | assumption | exact up2_same _ _ _ _)))) | exact (Eq.trans (up2_ne _ _ (by omega)) (Eq.trans (up2_ne _ _ (by omega)) (Eq.trans (up2_ne _ _ (by omega)) (Eq.trans (up2_ne _ _ (by omega)) (by first | assumption | exact up2_same _ _ _ _))))) | rfl) ?_
      refine r_ifB_eq 94 dX10_count__87 (by decide) (fun h87 => ?_) (fun h87 => ?_)
      · refine r_iconst (v := nI 0) dX10_count__94 (by decide) ?_
        refine r_aload_n 0 dX10_count__95 rfl rfl ?_
        refine r_getR dX10_count__96 fl_RX10_16 rfl (by assumption) (by assumption) ?_
        refine r_iconst (v := nI 1) dX10_count__99 (by decide) ?_
        refine r_baldV dX10_count__100 (by assumption) (by omega) (by omega) (by first | assumption | exact up2_same _ _ _ _ | exact (Eq.trans (up2_ne _ _ (by omega)) (by first | assumption | exact up2_same _ _ _ _)) | exact (Eq.trans (up2_ne _ _ (by omega)) (Eq.trans (up2_ne _ _ (by omega)) (by first | assumption | exact up2_same _ _ _ _))) | exact (Eq.trans (up2_ne _ _ (by omega)) (Eq.trans (up2_ne _ _ (by omega)) (Eq.trans (up2_ne _ _ (by omega)) (by first | assumption | exact up2_same _ _ _ _)))) | exact (Eq.trans (up2_ne _ _ (by omega)) (Eq.trans (up2_ne _ _ (by omega)) (Eq.trans (up2_ne _ _ (by omega)) (Eq.trans (up2_ne _ _ (by omega)) (by first | assumption | exact up2_same _ _ _ _))))) | rfl) ?_
        refine r_ifB_eq 108 dX10_count__101 (by decide) (fun h101 => ?_) (fun h101 => ?_)
        · refine r_iconst (v := nI 0) dX10_count__108 (by decide) ?_
          refine r_iaddN dX10_count__109 ?_
          refine r_iret dX10_count__110 rfl (Nat.le_of_ble_eq_true rfl) (Nat.le_of_ble_eq_true rfl) ?_
          refine ⟨rfl, rfl, rfl, hsp _ ?_⟩
          unfold sp_count
          rw [if_neg (by decide), if_neg (by decide), if_neg (by decide), if_neg (by decide), if_neg (by decide), if_neg (by decide), if_pos rfl, h87, h101]
          rfl
        · refine r_iconst (v := nI 2) dX10_count__104 (by decide) ?_
          refine r_goto 109 dX10_count__105 (by decide) ?_
          refine r_iaddN dX10_count__109 ?_
          refine r_iret dX10_count__110 rfl (Nat.le_of_ble_eq_true rfl) (Nat.le_of_ble_eq_true rfl) ?_
          refine ⟨rfl, rfl, rfl, hsp _ ?_⟩
          unfold sp_count
          rw [if_neg (by decide), if_neg (by decide), if_neg (by decide), if_neg (by decide), if_neg (by decide), if_neg (by decide), if_pos rfl, h87, h101]
          rfl
      · refine r_iconst (v := nI 1) dX10_count__90 (by decide) ?_
        refine r_goto 95 dX10_count__91 (by decide) ?_
        refine r_aload_n 0 dX10_count__95 rfl rfl ?_
        refine r_getR dX10_count__96 fl_RX10_16 rfl (by assumption) (by assumption) ?_
        refine r_iconst (v := nI 1) dX10_count__99 (by decide) ?_
        refine r_baldV dX10_count__100 (by assumption) (by omega) (by omega) (by first | assumption | exact up2_same _ _ _ _ | exact (Eq.trans (up2_ne _ _ (by omega)) (by first | assumption | exact up2_same _ _ _ _)) | exact (Eq.trans (up2_ne _ _ (by omega)) (Eq.trans (up2_ne _ _ (by omega)) (by first | assumption | exact up2_same _ _ _ _))) | exact (Eq.trans (up2_ne _ _ (by omega)) (Eq.trans (up2_ne _ _ (by omega)) (Eq.trans (up2_ne _ _ (by omega)) (by first | assumption | exact up2_same _ _ _ _)))) | exact (Eq.trans (up2_ne _ _ (by omega)) (Eq.trans (up2_ne _ _ (by omega)) (Eq.trans (up2_ne _ _ (by omega)) (Eq.trans (up2_ne _ _ (by omega)) (by first | assumption | exact up2_same _ _ _ _))))) | rfl) ?_
        refine r_ifB_eq 108 dX10_count__101 (by decide) (fun h101 => ?_) (fun h101 => ?_)
        · refine r_iconst (v := nI 0) dX10_count__108 (by decide) ?_
          refine r_iaddN dX10_count__109 ?_
          refine r_iret dX10_count__110 rfl (Nat.le_of_ble_eq_true rfl) (Nat.le_of_ble_eq_true rfl) ?_
          refine ⟨rfl, rfl, rfl, hsp _ ?_⟩
          unfold sp_count
          rw [if_neg (by decide), if_neg (by decide), if_neg (by decide), if_neg (by decide), if_neg (by decide), if_neg (by decide), if_pos rfl, h87, h101]
          rfl
        · refine r_iconst (v := nI 2) dX10_count__104 (by decide) ?_
          refine r_goto 109 dX10_count__105 (by decide) ?_
          refine r_iaddN dX10_count__109 ?_
          refine r_iret dX10_count__110 rfl (Nat.le_of_ble_eq_true rfl) (Nat.le_of_ble_eq_true rfl) ?_
          refine ⟨rfl, rfl, rfl, hsp _ ?_⟩
          unfold sp_count
          rw [if_neg (by decide), if_neg (by decide), if_neg (by decide), if_neg (by decide), if_neg (by decide), if_neg (by decide), if_pos rfl, h87, h101]
          rfl
  · have hne : ∀ j, j ≤ 6 → w ≠ nI j := fun j hj e => hw (by rw [e]; exact inB_in (Nat.zero_le _) hj (by omega))
    have hto : w.toInt < 0 ∨ 6 < w.toInt := by
      refine Classical.byContradiction (fun h => hw ?_)
      refine inB_ok' (fun q => h (Or.inl ?_)) (fun q => h (Or.inr ?_))
      · rw [Int32.lt_iff_toInt_lt, nI_toInt (by omega)] at q; exact q
      · rw [Int32.lt_iff_toInt_lt, nI_toInt (by omega)] at q; exact q
    refine r_tableOut 111 dX10_count__1 hto (by decide) ?_
    refine r_bipush (v := -2) dX10_count__111 (by decide) ?_
    refine r_iret dX10_count__113 rfl (Nat.le_of_ble_eq_true rfl) (Nat.le_of_ble_eq_true rfl) ?_
    exact ⟨rfl, rfl, rfl, hsp _ (by unfold sp_count; rw [if_neg (hne 0 (by omega)), if_neg (hne 1 (by omega)), if_neg (hne 2 (by omega)), if_neg (hne 3 (by omega)), if_neg (hne 4 (by omega)), if_neg (hne 5 (by omega)), if_neg (hne 6 (by omega))])⟩
end RAPI5
