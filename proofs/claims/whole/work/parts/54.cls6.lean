section CLS6
variable {z : Nat} {sh : SH} {mi : MI} {mr : MR} {x : Nat}
theorem k_reach {σ : Al} {N : Nat} (hC : CR z sh mi mr x σ) (hok : okA σ N) (s n w : Int32) : Mm mX9_reach 6 [.ref x, .int s, .int n, .int w] z sh mi mr (PC z sh mi mr x (sp_reach σ s n w)) := by
  obtain ⟨hLL, c2, c3, c4, c5, c6⟩ := id hC
  obtain ⟨l0, ⟨l1, l2⟩, ⟨l3, l4⟩, ⟨l5, l6⟩, ⟨l7, l8⟩, ⟨l9, l10⟩, ⟨l11, l12⟩⟩ := id hLL
  have pd0 := l2.1
  have pd1 := c2.1
  have h40 := hok.1.1
  have hnt := okNt_len hok.2.1.1
  obtain ⟨n0, n1, n2, n3, n4, n5⟩ := id l4
  have K45 : stB s = true → inB n (nI 1) (nI 7) = true → inB w (nI 0) (nI 3) = true → ∀ f, prsN σ.1 = some f → ∀ m, CR z sh m mr x σ → (∀ q, q ≠ x + 1 → m q = mi q) → Wp yX9_reach cX9_reach 5 (some .int) (EM 6 z sh (PC z sh mi mr x (sp_reach σ s n w))) 0 0 45 [.ref x, .int s, .int n, .int w, .int (nI (en 32 f))] [] z sh m mr := by
    intro hb hin hiw f hf m hCm hmq
    have hfl := prsN_ok hf
    obtain ⟨-, d2, d3, d4, d5, d6⟩ := id hCm
    obtain ⟨k, hk, rfl⟩ := st_ex hb
    obtain ⟨h, h1, h7, rfl⟩ := inB_ex (by omega) hin (by omega)
    obtain ⟨j, -, j2, rfl⟩ := inB_ex (by omega) hiw (by omega)
    have base : sp_reach σ (nI k) (nI h) (nI j) = (if nI j = nI 0 then nI (reaS σ.2.1 none k f h) else if nI j = nI 1 then latA (tri σ.2.1 none k f h).2 else if nI j = nI 2 then nI (sum6 (fun j => ((tri σ.2.1 none k f h).1.1 j).2.1 0)) else nI (sum6 (fun j => ((tri σ.2.1 none k f h).1.1 j).2.1 7)), σ) := by
      unfold sp_reach
      rw [if_neg (by rw [hb]; decide), if_neg (by rw [hin, hiw]; decide), hf, sk_nI (by omega), sk_nI (by omega)]
    have l60 := l6.1
    have K67 : ∀ (m3 : MI) (r3 : MR), m3 (x + 264) 2 = nI (bs (fun j => ((tri σ.2.1 none k f h).2 j).isSome)) → m3 (x + 264) 3 = latA (tri σ.2.1 none k f h).2 → NtC m3 r3 (x + 264 + 1) (tri σ.2.1 none k f h).1 → CR z sh m3 r3 x σ → (∀ q, x + 533 ≤ q → q < x + 544 → m3 q = mi q ∧ r3 q = mr q) → Wp yX9_reach cX9_reach 5 (some .int) (EM 6 z sh (PC z sh mi mr x (sp_reach σ (nI k) (nI h) (nI j)))) 0 0 67 [.ref x, .int (nI k), .int (nI h), .int (nI j), .int (nI (en 32 f))] [] z sh m3 r3 := by
      intro m3 r3 q1 q2 q3 hC3 hO3
      obtain ⟨u0, -, -, ⟨u5, u6⟩, -⟩ := id hC3.1
      obtain ⟨u7, ⟨u8, u9⟩, -⟩ := id u6
      have u10 := u9.1
      have fin : ∀ r, sp_reach σ (nI k) (nI h) (nI j) = (r, σ) → PC z sh mi mr x (sp_reach σ (nI k) (nI h) (nI j)) (some (.int r)) m3 r3 := fun r e => by rw [e]; exact ⟨rfl, hC3, hO3⟩
      rcases (show j = 0 ∨ j = 1 ∨ j = 2 ∨ j = 3 by omega) with rfl | rfl | rfl | rfl
      · skip
        refine r_iload_n 3 dX9_reach_67 rfl rfl ?_
        refine r_ifN_ne 79 dX9_reach_68 (by decide) (by omega) (fun h68 => ?_) (fun h68 => ?_)
        · omega
        · refine r_aload_n 0 dX9_reach_71 rfl rfl ?_
          refine r_getR dX9_reach_72 fl_RX9_26 rfl (by assumption) (by assumption) ?_
          refine r_getV dX9_reach_75 fl_RX9_197 rfl (by assumption) (by first | assumption | exact up2_same _ _ _ _ | exact (Eq.trans (up2_ne _ _ (by omega)) (by first | assumption | exact up2_same _ _ _ _)) | exact (Eq.trans (up2_ne _ _ (by omega)) (Eq.trans (up2_ne _ _ (by omega)) (by first | assumption | exact up2_same _ _ _ _))) | exact (Eq.trans (up2_ne _ _ (by omega)) (Eq.trans (up2_ne _ _ (by omega)) (Eq.trans (up2_ne _ _ (by omega)) (by first | assumption | exact up2_same _ _ _ _)))) | exact (Eq.trans (up2_ne _ _ (by omega)) (Eq.trans (up2_ne _ _ (by omega)) (Eq.trans (up2_ne _ _ (by omega)) (Eq.trans (up2_ne _ _ (by omega)) (by first | assumption | exact up2_same _ _ _ _))))) | rfl) ?_
          refine r_iret dX9_reach_78 rfl (Nat.le_of_ble_eq_true rfl) (Nat.le_of_ble_eq_true rfl) ?_
          exact ⟨rfl, rfl, fin _ (by rw [base, if_pos rfl]; try rfl)⟩
      · skip
        refine r_iload_n 3 dX9_reach_67 rfl rfl ?_
        refine r_ifN_ne 79 dX9_reach_68 (by decide) (by omega) (fun h68 => ?_) (fun h68 => ?_)
        · refine r_iload_n 3 dX9_reach_79 rfl rfl ?_
          refine r_iconst (v := nI 1) dX9_reach_80 (by decide) ?_
          refine r_icmpN_ne 92 dX9_reach_81 (by decide) (by omega) (by omega) (fun h81 => ?_) (fun h81 => ?_)
          · omega
          · refine r_aload_n 0 dX9_reach_84 rfl rfl ?_
            refine r_getR dX9_reach_85 fl_RX9_26 rfl (by assumption) (by assumption) ?_
            refine r_getV dX9_reach_88 fl_RX9_200 rfl (by assumption) (by first | assumption | exact up2_same _ _ _ _ | exact (Eq.trans (up2_ne _ _ (by omega)) (by first | assumption | exact up2_same _ _ _ _)) | exact (Eq.trans (up2_ne _ _ (by omega)) (Eq.trans (up2_ne _ _ (by omega)) (by first | assumption | exact up2_same _ _ _ _))) | exact (Eq.trans (up2_ne _ _ (by omega)) (Eq.trans (up2_ne _ _ (by omega)) (Eq.trans (up2_ne _ _ (by omega)) (by first | assumption | exact up2_same _ _ _ _)))) | exact (Eq.trans (up2_ne _ _ (by omega)) (Eq.trans (up2_ne _ _ (by omega)) (Eq.trans (up2_ne _ _ (by omega)) (Eq.trans (up2_ne _ _ (by omega)) (by first | assumption | exact up2_same _ _ _ _))))) | rfl) ?_
            refine r_iret dX9_reach_91 rfl (Nat.le_of_ble_eq_true rfl) (Nat.le_of_ble_eq_true rfl) ?_
            exact ⟨rfl, rfl, fin _ (by rw [base, if_neg (by decide), if_pos rfl])⟩
        · omega
      · skip
        refine r_iload_n 3 dX9_reach_67 rfl rfl ?_
        refine r_ifN_ne 79 dX9_reach_68 (by decide) (by omega) (fun h68 => ?_) (fun h68 => ?_)
        · refine r_iload_n 3 dX9_reach_79 rfl rfl ?_
          refine r_iconst (v := nI 1) dX9_reach_80 (by decide) ?_
          refine r_icmpN_ne 92 dX9_reach_81 (by decide) (by omega) (by omega) (fun h81 => ?_) (fun h81 => ?_)
          · refine r_aload_n 0 dX9_reach_92 rfl rfl ?_
            refine r_getR dX9_reach_93 fl_RX9_26 rfl (by assumption) (by assumption) ?_
            refine r_getR dX9_reach_96 fl_RX9_203 rfl (by assumption) (by assumption) ?_
            refine r_iload_n 3 dX9_reach_99 rfl rfl ?_
            refine r_iconst (v := nI 2) dX9_reach_100 (by decide) ?_
            refine r_icmpN_ne 108 dX9_reach_101 (by decide) (by omega) (by omega) (fun h101 => ?_) (fun h101 => ?_)
            · omega
            · refine r_iconst (v := nI 0) dX9_reach_104 (by decide) ?_
              refine r_goto 110 dX9_reach_105 (by decide) ?_
              refine r_callVp [_] dX9_reach_110 ok_RX9_204 ivX3_tallyOfAll (by assumption) ⟨_, _, rfl⟩ rfl rfl (Nat.le_of_ble_eq_true rfl) (by refine ⟨?_, ?_, ?_, ?_⟩ <;> exact Nat.le_of_ble_eq_true rfl) (c_tally u9 q3 (by omega)) ?_
              refine r_iret dX9_reach_113 rfl (Nat.le_of_ble_eq_true rfl) (Nat.le_of_ble_eq_true rfl) ?_
              exact ⟨rfl, rfl, fin _ (by rw [base, if_neg (by decide), if_neg (by decide), if_pos rfl])⟩
          · omega
        · omega
      · skip
        refine r_iload_n 3 dX9_reach_67 rfl rfl ?_
        refine r_ifN_ne 79 dX9_reach_68 (by decide) (by omega) (fun h68 => ?_) (fun h68 => ?_)
        · refine r_iload_n 3 dX9_reach_79 rfl rfl ?_
          refine r_iconst (v := nI 1) dX9_reach_80 (by decide) ?_
          refine r_icmpN_ne 92 dX9_reach_81 (by decide) (by omega) (by omega) (fun h81 => ?_) (fun h81 => ?_)
          · refine r_aload_n 0 dX9_reach_92 rfl rfl ?_
            refine r_getR dX9_reach_93 fl_RX9_26 rfl (by assumption) (by assumption) ?_
            refine r_getR dX9_reach_96 fl_RX9_203 rfl (by assumption) (by assumption) ?_
            refine r_iload_n 3 dX9_reach_99 rfl rfl ?_
            refine r_iconst (v := nI 2) dX9_reach_100 (by decide) ?_
            refine r_icmpN_ne 108 dX9_reach_101 (by decide) (by omega) (by omega) (fun h101 => ?_) (fun h101 => ?_)
            · refine r_bipush (v := nI 7) dX9_reach_108 (by decide) ?_
              refine r_callVp [_] dX9_reach_110 ok_RX9_204 ivX3_tallyOfAll (by assumption) ⟨_, _, rfl⟩ rfl rfl (Nat.le_of_ble_eq_true rfl) (by refine ⟨?_, ?_, ?_, ?_⟩ <;> exact Nat.le_of_ble_eq_true rfl) (c_tally u9 q3 (by omega)) ?_
              refine r_iret dX9_reach_113 rfl (Nat.le_of_ble_eq_true rfl) (Nat.le_of_ble_eq_true rfl) ?_
              exact ⟨rfl, rfl, fin _ (by rw [base, if_neg (by decide), if_neg (by decide), if_neg (by decide)])⟩
            · omega
          · omega
        · omega
    refine r_aload_n 0 dX9_reach_45 rfl rfl ?_
    refine r_getR dX9_reach_46 fl_RX9_26 rfl (by assumption) (by assumption) ?_
    refine r_aload_n 0 dX9_reach_49 rfl rfl ?_
    refine r_getR dX9_reach_50 fl_RX9_19 rfl (by assumption) (by assumption) ?_
    refine r_callVw [_] dX9_reach_53 ok_RX9_189 ivX7_prepare (by assumption) ⟨_, _, rfl⟩ rfl rfl (Nat.le_of_ble_eq_true rfl) (by refine ⟨?_, ?_, ?_, ?_⟩ <;> exact Nat.le_of_ble_eq_true rfl) (c_prepare l6 l4 (by omega) d3 hok.2.1.1.1 d4) ?_
    intro m2 ⟨g1, g2⟩
    refine r_aload_n 0 dX9_reach_56 rfl rfl ?_
    refine r_getR dX9_reach_57 fl_RX9_26 rfl (by assumption) (by assumption) ?_
    refine r_iload_n 1 dX9_reach_60 rfl rfl ?_
    refine r_iload 4 dX9_reach_61 rfl ?_
    refine r_iload_n 2 dX9_reach_63 rfl rfl ?_
    refine r_callVmw [_, _, _] dX9_reach_64 ok_RX9_193 ivX7_spread (by assumption) ⟨_, _, rfl⟩ rfl rfl (Nat.le_of_ble_eq_true rfl) (by refine ⟨?_, ?_, ?_, ?_⟩ <;> exact Nat.le_of_ble_eq_true rfl) (c_spread l6 hok.2.1.1 g1 hk hfl h1 h7) ?_
    intro m3 r3 ⟨p1, p2, p3, p4, p5⟩
    refine K67 m3 r3 p1 p2 p3 (hCm.trial hok p4 p3 (fun q hq => ⟨(p5 q (by omega)).1.trans (g2 q (by omega)), (p5 q (by omega)).2⟩)) (fun q q1 q2 => ⟨(p5 q (by omega)).1.trans ((g2 q (by omega)).trans (hmq q (by omega))), (p5 q (by omega)).2⟩)
  refine Mv.of pnX9_reach (Nat.le_of_ble_eq_true rfl) rfl ?_
  have bad : ∀ {P : Prop}, (inB n (nI 1) (nI 7) && inB w (nI 0) (nI 3)) = true → (inB n (nI 1) (nI 7) = false ∨ inB w (nI 0) (nI 3) = false) → P := fun h h' => by
    rw [Bool.and_eq_true] at h
    rcases h' with e | e
    · rw [h.1] at e; cases e
    · rw [h.2] at e; cases e
  cases hb : stB s with
  | false =>
    refine r_iload_n 1 dX9_reach_0 rfl rfl ?_
    refine r_callSp [_] dX9_reach_1 ok_RX9_63 isX9_isStation rfl rfl (Nat.le_of_ble_eq_true rfl) (by refine ⟨?_, ?_, ?_, ?_⟩ <;> exact Nat.le_of_ble_eq_true rfl) (c_isSt _) ?_
    rw [hb]
    refine r_ifB_ne 9 dX9_reach_4 (by decide) (fun h4 => ?_) (fun h4 => ?_)
    · cases h4
    · refine r_iconst (v := -1) dX9_reach_7 (by decide) ?_
      refine r_iret dX9_reach_8 rfl (Nat.le_of_ble_eq_true rfl) (Nat.le_of_ble_eq_true rfl) ?_
      refine ⟨rfl, rfl, ?_⟩
      have e : sp_reach σ s n w = (-1, σ) := by unfold sp_reach; rw [if_pos hb]
      rw [e]
      exact PC.same hC
  | true =>
    cases hin : (inB n (nI 1) (nI 7) && inB w (nI 0) (nI 3)) with
    | true =>
      cases hp : prsN σ.1 with
      | none =>
        have e : sp_reach σ s n w = (-7, σ) := by unfold sp_reach; rw [if_neg (by rw [hb]; decide), if_neg (by rw [hin]; decide), hp]
        rw [e]
        refine r_iload_n 1 dX9_reach_0 rfl rfl ?_
        refine r_callSp [_] dX9_reach_1 ok_RX9_63 isX9_isStation rfl rfl (Nat.le_of_ble_eq_true rfl) (by refine ⟨?_, ?_, ?_, ?_⟩ <;> exact Nat.le_of_ble_eq_true rfl) (c_isSt _) ?_
        rw [hb]
        refine r_ifB_ne 9 dX9_reach_4 (by decide) (fun h4 => ?_) (fun h4 => ?_)
        · refine r_iload_n 2 dX9_reach_9 rfl rfl ?_
          refine r_callSp [_] dX9_reach_10 ok_RX9_186 isX9_isHops rfl rfl (Nat.le_of_ble_eq_true rfl) (by refine ⟨?_, ?_, ?_, ?_⟩ <;> exact Nat.le_of_ble_eq_true rfl) (c_isHops _) ?_
          refine r_ifB_eq 25 dX9_reach_13 (by decide) (fun h13 => ?_) (fun h13 => ?_)
          · first | exact bad hin (Or.inl h13) | exact bad hin (Or.inr (inB_lo (a := nI 0) h17)) | exact bad hin (Or.inr (inB_hi h22))
          · refine r_iload_n 3 dX9_reach_16 rfl rfl ?_
            refine r_if_lt 25 dX9_reach_17 (by decide) (fun h17 => ?_) (fun h17 => ?_)
            · first | exact bad hin (Or.inl h13) | exact bad hin (Or.inr (inB_lo (a := nI 0) h17)) | exact bad hin (Or.inr (inB_hi h22))
            · refine r_iload_n 3 dX9_reach_20 rfl rfl ?_
              refine r_iconst (v := nI 3) dX9_reach_21 (by decide) ?_
              refine r_icmp_le 28 dX9_reach_22 (by decide) (fun h22 => ?_) (fun h22 => ?_)
              · refine r_aload_n 0 dX9_reach_28 rfl rfl ?_
                refine r_getR dX9_reach_29 fl_RX9_10 rfl (by assumption) (by assumption) ?_
                refine r_callVx [] dX9_reach_32 ok_RX9_67 ivX5_readName (by assumption) ⟨_, _, rfl⟩ rfl rfl (Nat.le_of_ble_eq_true rfl) (by refine ⟨?_, ?_, ?_, ?_⟩ <;> exact Nat.le_of_ble_eq_true rfl) (rd_none l2 c2 hok.1 hp) ?_
                intro m hm
                refine r_istore 4 (ls2 := [_, _, _, _, _]) dX9_reach_35 (by decide) (Nat.le_of_ble_eq_true rfl) rfl ?_
                refine r_iload 4 dX9_reach_37 rfl ?_
                refine r_if_ne 45 dX9_reach_39 (by decide) (fun h39 => ?_) (fun h39 => ?_)
                · exact absurd rfl h39
                · refine r_bipush (v := -7) dX9_reach_42 (by decide) ?_
                  refine r_iret dX9_reach_44 rfl (Nat.le_of_ble_eq_true rfl) (Nat.le_of_ble_eq_true rfl) ?_
                  refine ⟨rfl, rfl, rfl, ?_, fun q q1 q2 => ⟨by rw [hm, up2_row _ _ (by omega)], rfl⟩⟩
                  rw [hm]; exact hC.rd hok
              · first | exact bad hin (Or.inl h13) | exact bad hin (Or.inr (inB_lo (a := nI 0) h17)) | exact bad hin (Or.inr (inB_hi h22))
        · cases h4
      | some f =>
        have hpos := okL_pos (b := 32) (prsN_ok hp)
        have hlt := okL_32 (prsN_ok hp)
        rw [Bool.and_eq_true] at hin
        refine r_iload_n 1 dX9_reach_0 rfl rfl ?_
        refine r_callSp [_] dX9_reach_1 ok_RX9_63 isX9_isStation rfl rfl (Nat.le_of_ble_eq_true rfl) (by refine ⟨?_, ?_, ?_, ?_⟩ <;> exact Nat.le_of_ble_eq_true rfl) (c_isSt _) ?_
        rw [hb]
        refine r_ifB_ne 9 dX9_reach_4 (by decide) (fun h4 => ?_) (fun h4 => ?_)
        · refine r_iload_n 2 dX9_reach_9 rfl rfl ?_
          refine r_callSp [_] dX9_reach_10 ok_RX9_186 isX9_isHops rfl rfl (Nat.le_of_ble_eq_true rfl) (by refine ⟨?_, ?_, ?_, ?_⟩ <;> exact Nat.le_of_ble_eq_true rfl) (c_isHops _) ?_
          refine r_ifB_eq 25 dX9_reach_13 (by decide) (fun h13 => ?_) (fun h13 => ?_)
          · first | exact absurd h13 (by rw [hin.1]; decide) | exact absurd hin.2 (by rw [inB_lo (a := nI 0) h17]; decide) | exact absurd hin.2 (by rw [inB_hi h22]; decide)
          · refine r_iload_n 3 dX9_reach_16 rfl rfl ?_
            refine r_if_lt 25 dX9_reach_17 (by decide) (fun h17 => ?_) (fun h17 => ?_)
            · first | exact absurd h13 (by rw [hin.1]; decide) | exact absurd hin.2 (by rw [inB_lo (a := nI 0) h17]; decide) | exact absurd hin.2 (by rw [inB_hi h22]; decide)
            · refine r_iload_n 3 dX9_reach_20 rfl rfl ?_
              refine r_iconst (v := nI 3) dX9_reach_21 (by decide) ?_
              refine r_icmp_le 28 dX9_reach_22 (by decide) (fun h22 => ?_) (fun h22 => ?_)
              · refine r_aload_n 0 dX9_reach_28 rfl rfl ?_
                refine r_getR dX9_reach_29 fl_RX9_10 rfl (by assumption) (by assumption) ?_
                refine r_callVx [] dX9_reach_32 ok_RX9_67 ivX5_readName (by assumption) ⟨_, _, rfl⟩ rfl rfl (Nat.le_of_ble_eq_true rfl) (by refine ⟨?_, ?_, ?_, ?_⟩ <;> exact Nat.le_of_ble_eq_true rfl) (rd_some l2 c2 hok.1 hp) ?_
                intro m hm
                refine r_istore 4 (ls2 := [_, _, _, _, _]) dX9_reach_35 (by decide) (Nat.le_of_ble_eq_true rfl) rfl ?_
                refine r_iload 4 dX9_reach_37 rfl ?_
                refine r_ifN_ne 45 dX9_reach_39 (by decide) (by omega) (fun h39 => ?_) (fun h39 => ?_)
                · exact K45 hb hin.1 hin.2 f hp m (by rw [hm]; exact hC.rd hok) (fun q hq => by rw [hm, up2_row _ _ hq])
                · omega
              · first | exact absurd h13 (by rw [hin.1]; decide) | exact absurd hin.2 (by rw [inB_lo (a := nI 0) h17]; decide) | exact absurd hin.2 (by rw [inB_hi h22]; decide)
        · cases h4
    | false =>
      have e : sp_reach σ s n w = (-2, σ) := by unfold sp_reach; rw [if_neg (by rw [hb]; decide), if_pos hin]
      rw [e]
      refine r_iload_n 1 dX9_reach_0 rfl rfl ?_
      refine r_callSp [_] dX9_reach_1 ok_RX9_63 isX9_isStation rfl rfl (Nat.le_of_ble_eq_true rfl) (by refine ⟨?_, ?_, ?_, ?_⟩ <;> exact Nat.le_of_ble_eq_true rfl) (c_isSt _) ?_
      rw [hb]
      refine r_ifB_ne 9 dX9_reach_4 (by decide) (fun h4 => ?_) (fun h4 => ?_)
      · refine r_iload_n 2 dX9_reach_9 rfl rfl ?_
        refine r_callSp [_] dX9_reach_10 ok_RX9_186 isX9_isHops rfl rfl (Nat.le_of_ble_eq_true rfl) (by refine ⟨?_, ?_, ?_, ?_⟩ <;> exact Nat.le_of_ble_eq_true rfl) (c_isHops _) ?_
        refine r_ifB_eq 25 dX9_reach_13 (by decide) (fun h13 => ?_) (fun h13 => ?_)
        · refine r_bipush (v := -2) dX9_reach_25 (by decide) ?_
          refine r_iret dX9_reach_27 rfl (Nat.le_of_ble_eq_true rfl) (Nat.le_of_ble_eq_true rfl) ?_
          exact ⟨rfl, rfl, PC.same hC⟩
        · refine r_iload_n 3 dX9_reach_16 rfl rfl ?_
          refine r_if_lt 25 dX9_reach_17 (by decide) (fun h17 => ?_) (fun h17 => ?_)
          · refine r_bipush (v := -2) dX9_reach_25 (by decide) ?_
            refine r_iret dX9_reach_27 rfl (Nat.le_of_ble_eq_true rfl) (Nat.le_of_ble_eq_true rfl) ?_
            exact ⟨rfl, rfl, PC.same hC⟩
          · refine r_iload_n 3 dX9_reach_20 rfl rfl ?_
            refine r_iconst (v := nI 3) dX9_reach_21 (by decide) ?_
            refine r_icmp_le 28 dX9_reach_22 (by decide) (fun h22 => ?_) (fun h22 => ?_)
            · exact absurd hin (by rw [h13, inB_ok (by rw [nI_zero] at h17; exact h17) h22]; decide)
            · refine r_bipush (v := -2) dX9_reach_25 (by decide) ?_
              refine r_iret dX9_reach_27 rfl (Nat.le_of_ble_eq_true rfl) (Nat.le_of_ble_eq_true rfl) ?_
              exact ⟨rfl, rfl, PC.same hC⟩
      · cases h4
theorem hitsB (n : Nt) (w : Option Nat) (s t : Nat) (f : Nm) (h : Nat) : ((tri n w s f h).2 t).isSome = hits n w s t f h := rfl
theorem k_fewest {σ : Al} {N : Nat} (hC : CR z sh mi mr x σ) (hok : okA σ N) (s t : Int32) : Mm mX9_fewest 6 [.ref x, .int s, .int t] z sh mi mr (PC z sh mi mr x (sp_fewest σ s t)) := by
  obtain ⟨hLL, c2, c3, c4, c5, c6⟩ := id hC
  obtain ⟨l0, ⟨l1, l2⟩, ⟨l3, l4⟩, ⟨l5, l6⟩, ⟨l7, l8⟩, ⟨l9, l10⟩, ⟨l11, l12⟩⟩ := id hLL
  have pd0 := l2.1
  have pd1 := c2.1
  have h40 := hok.1.1
  have hnt := okNt_len hok.2.1.1
  obtain ⟨n0, n1, n2, n3, n4, n5⟩ := id l4
  have H : (stB s && stB t) = true → ¬ s = t → ∀ f, prsN σ.1 = some f → ∀ (c i : Nat) (m : MI) (r : MR), i + c = 7 → (∀ j, j < i → hits σ.2.1 none (sk s) (sk t) f (j + 1) = false) → CR z sh m r x σ → (∀ q, x + 533 ≤ q → q < x + 544 → m q = mi q ∧ r q = mr q) → Wp yX9_fewest cX9_fewest 5 (some .int) (EM 6 z sh (PC z sh mi mr x (sp_fewest σ s t))) 0 0 42 [.ref x, .int s, .int t, .int (nI (en 32 f)), .int (nI (i + 1))] [] z sh m r := by
    intro hbb hne f hf c
    have hfl := prsN_ok hf
    rw [Bool.and_eq_true] at hbb
    obtain ⟨a, ha, rfl⟩ := st_ex hbb.1
    obtain ⟨b, hb, rfl⟩ := st_ex hbb.2
    rw [sk_nI (show a < 2 ^ 31 by omega), sk_nI (show b < 2 ^ 31 by omega)]
    have base : sp_fewest σ (nI a) (nI b) = (match (List.range 7).find? (fun h => hits σ.2.1 none a b f (h + 1)) with
      | some h => nI (h + 1)
      | none => -6, σ) := by
      unfold sp_fewest
      rw [if_neg (by rw [hbb.1, hbb.2]; decide), if_neg hne, hf, sk_nI (by omega), sk_nI (by omega)]; rfl
    induction c with
    | zero =>
      intro i m r hi hno hCm hO
      have e : sp_fewest σ (nI a) (nI b) = (-6, σ) := by rw [base, fr_no (fun j hj => hno j (by omega))]
      rw [e]
      refine r_iload 4 dX9_fewest_42 rfl ?_
      refine r_bipush (v := nI 7) dX9_fewest_44 (by decide) ?_
      refine r_icmpN_gt 94 dX9_fewest_46 (by decide) (by omega) (by omega) (fun h46 => ?_) (fun h46 => ?_)
      · refine r_bipush (v := -6) dX9_fewest_94 (by decide) ?_
        refine r_iret dX9_fewest_96 rfl (Nat.le_of_ble_eq_true rfl) (Nat.le_of_ble_eq_true rfl) ?_
        exact ⟨rfl, rfl, rfl, hCm, hO⟩
      · omega
    | succ c ih =>
      intro i m r hi hno hCm hO
      obtain ⟨d1, d2, d3, d4, d5, d6⟩ := id hCm
      obtain ⟨v0, ⟨v1, v2⟩, ⟨v3, v4⟩, ⟨v5, v6⟩, -⟩ := id d1
      have v7 := v6.1
      refine r_iload 4 dX9_fewest_42 rfl ?_
      refine r_bipush (v := nI 7) dX9_fewest_44 (by decide) ?_
      refine r_icmpN_gt 94 dX9_fewest_46 (by decide) (by omega) (by omega) (fun h46 => ?_) (fun h46 => ?_)
      · omega
      · refine r_aload_n 0 dX9_fewest_49 rfl rfl ?_
        refine r_getR dX9_fewest_50 fl_RX9_26 rfl (by assumption) (by assumption) ?_
        refine r_aload_n 0 dX9_fewest_53 rfl rfl ?_
        refine r_getR dX9_fewest_54 fl_RX9_19 rfl (by assumption) (by assumption) ?_
        refine r_callVw [_] dX9_fewest_57 ok_RX9_189 ivX7_prepare (by assumption) ⟨_, _, rfl⟩ rfl rfl (Nat.le_of_ble_eq_true rfl) (by refine ⟨?_, ?_, ?_, ?_⟩ <;> exact Nat.le_of_ble_eq_true rfl) (c_prepare v6 v4 (by omega) d3 hok.2.1.1.1 d4) ?_
        intro m2 ⟨g1, g2⟩
        refine r_aload_n 0 dX9_fewest_60 rfl rfl ?_
        refine r_getR dX9_fewest_61 fl_RX9_26 rfl (by assumption) (by assumption) ?_
        refine r_iload_n 1 dX9_fewest_64 rfl rfl ?_
        refine r_iload_n 3 dX9_fewest_65 rfl rfl ?_
        refine r_iload 4 dX9_fewest_66 rfl ?_
        refine r_callVmw [_, _, _] dX9_fewest_68 ok_RX9_193 ivX7_spread (by assumption) ⟨_, _, rfl⟩ rfl rfl (Nat.le_of_ble_eq_true rfl) (by refine ⟨?_, ?_, ?_, ?_⟩ <;> exact Nat.le_of_ble_eq_true rfl) (c_spread v6 hok.2.1.1 g1 ha hfl (Nat.le_add_left 1 i) (by omega)) ?_
        intro m3 r3 ⟨p1, p2, p3, p4, p5⟩
        have hC3 := hCm.trial hok p4 p3 (fun q hq => ⟨(p5 q (by omega)).1.trans (g2 q (by omega)), (p5 q (by omega)).2⟩)
        have hO3 : ∀ q, x + 533 ≤ q → q < x + 544 → m3 q = mi q ∧ r3 q = mr q := fun q q1 q2 => ⟨(p5 q (by omega)).1.trans ((g2 q (by omega)).trans (hO q q1 q2).1), (p5 q (by omega)).2.trans (hO q q1 q2).2⟩
        obtain ⟨u0, -, -, ⟨u5, u6⟩, -⟩ := id hC3.1
        have u7 := u6.1
        refine r_aload_n 0 dX9_fewest_71 rfl rfl ?_
        refine r_getR dX9_fewest_72 fl_RX9_26 rfl (by assumption) (by assumption) ?_
        refine r_getV dX9_fewest_75 fl_RX9_197 rfl (by assumption) (by first | assumption | exact up2_same _ _ _ _ | exact (Eq.trans (up2_ne _ _ (by omega)) (by first | assumption | exact up2_same _ _ _ _)) | exact (Eq.trans (up2_ne _ _ (by omega)) (Eq.trans (up2_ne _ _ (by omega)) (by first | assumption | exact up2_same _ _ _ _))) | exact (Eq.trans (up2_ne _ _ (by omega)) (Eq.trans (up2_ne _ _ (by omega)) (Eq.trans (up2_ne _ _ (by omega)) (by first | assumption | exact up2_same _ _ _ _)))) | exact (Eq.trans (up2_ne _ _ (by omega)) (Eq.trans (up2_ne _ _ (by omega)) (Eq.trans (up2_ne _ _ (by omega)) (Eq.trans (up2_ne _ _ (by omega)) (by first | assumption | exact up2_same _ _ _ _))))) | rfl) ?_
        refine r_iload_n 2 dX9_fewest_78 rfl rfl ?_
        refine r_callSp [_, _] dX9_fewest_79 ok_RX9_207 isX9_isIn rfl rfl (Nat.le_of_ble_eq_true rfl) (by refine ⟨?_, ?_, ?_, ?_⟩ <;> exact Nat.le_of_ble_eq_true rfl) (c_isInB _ hb) ?_
        rw [hitsB]
        refine r_ifB_eq 88 dX9_fewest_82 (by decide) (fun h82 => ?_) (fun h82 => ?_)
        · refine r_iincN 4 (b := 1) (ls2 := [_, _, _, _, _]) dX9_fewest_88 rfl (by decide) (by decide) rfl ?_
          refine r_goto 42 dX9_fewest_91 (by decide) ?_
          refine ih (i + 1) m3 r3 (by omega) (fun j hj => ?_) hC3 hO3
          by_cases e : j = i
          · rw [e]; exact h82
          · exact hno j (by omega)
        · refine r_iload 4 dX9_fewest_85 rfl ?_
          refine r_iret dX9_fewest_87 rfl (Nat.le_of_ble_eq_true rfl) (Nat.le_of_ble_eq_true rfl) ?_
          have e : sp_fewest σ (nI a) (nI b) = (nI (i + 1), σ) := by rw [base, fr_at (i := i) (by omega) h82 hno]
          rw [e]
          exact ⟨rfl, rfl, rfl, hC3, hO3⟩
  refine Mv.of pnX9_fewest (Nat.le_of_ble_eq_true rfl) rfl ?_
  cases hbb : (stB s && stB t) with
  | false =>
    refine r_iload_n 1 dX9_fewest_0 rfl rfl ?_
    refine r_callSp [_] dX9_fewest_1 ok_RX9_63 isX9_isStation rfl rfl (Nat.le_of_ble_eq_true rfl) (by refine ⟨?_, ?_, ?_, ?_⟩ <;> exact Nat.le_of_ble_eq_true rfl) (c_isSt _) ?_
    refine r_ifB_eq 14 dX9_fewest_4 (by decide) (fun h4 => ?_) (fun h4 => ?_)
    · refine r_iconst (v := -1) dX9_fewest_14 (by decide) ?_
      refine r_iret dX9_fewest_15 rfl (Nat.le_of_ble_eq_true rfl) (Nat.le_of_ble_eq_true rfl) ?_
      refine ⟨rfl, rfl, ?_⟩
      have e : sp_fewest σ s t = (-1, σ) := by unfold sp_fewest; rw [if_pos hbb]
      rw [e]
      exact PC.same hC
    · refine r_iload_n 2 dX9_fewest_7 rfl rfl ?_
      refine r_callSp [_] dX9_fewest_8 ok_RX9_63 isX9_isStation rfl rfl (Nat.le_of_ble_eq_true rfl) (by refine ⟨?_, ?_, ?_, ?_⟩ <;> exact Nat.le_of_ble_eq_true rfl) (c_isSt _) ?_
      refine r_ifB_ne 16 dX9_fewest_11 (by decide) (fun h11 => ?_) (fun h11 => ?_)
      · exact absurd hbb (by rw [h4, h11]; decide)
      · refine r_iconst (v := -1) dX9_fewest_14 (by decide) ?_
        refine r_iret dX9_fewest_15 rfl (Nat.le_of_ble_eq_true rfl) (Nat.le_of_ble_eq_true rfl) ?_
        refine ⟨rfl, rfl, ?_⟩
        have e : sp_fewest σ s t = (-1, σ) := by unfold sp_fewest; rw [if_pos hbb]
        rw [e]
        exact PC.same hC
  | true =>
    have hbb' := hbb
    rw [Bool.and_eq_true] at hbb'
    by_cases hst : s = t
    · have e : sp_fewest σ s t = (-2, σ) := by unfold sp_fewest; rw [if_neg (by rw [hbb]; decide), if_pos hst]
      rw [e]
      refine r_iload_n 1 dX9_fewest_0 rfl rfl ?_
      refine r_callSp [_] dX9_fewest_1 ok_RX9_63 isX9_isStation rfl rfl (Nat.le_of_ble_eq_true rfl) (by refine ⟨?_, ?_, ?_, ?_⟩ <;> exact Nat.le_of_ble_eq_true rfl) (c_isSt _) ?_
      refine r_ifB_eq 14 dX9_fewest_4 (by decide) (fun h4 => ?_) (fun h4 => ?_)
      · first | exact absurd h4 (by rw [hbb'.1]; decide) | exact absurd h11 (by rw [hbb'.2]; decide)
      · refine r_iload_n 2 dX9_fewest_7 rfl rfl ?_
        refine r_callSp [_] dX9_fewest_8 ok_RX9_63 isX9_isStation rfl rfl (Nat.le_of_ble_eq_true rfl) (by refine ⟨?_, ?_, ?_, ?_⟩ <;> exact Nat.le_of_ble_eq_true rfl) (c_isSt _) ?_
        refine r_ifB_ne 16 dX9_fewest_11 (by decide) (fun h11 => ?_) (fun h11 => ?_)
        · refine r_iload_n 1 dX9_fewest_16 rfl rfl ?_
          refine r_iload_n 2 dX9_fewest_17 rfl rfl ?_
          refine r_icmp_ne 24 dX9_fewest_18 (by decide) (fun h18 => ?_) (fun h18 => ?_)
          · exact absurd hst h18
          · refine r_bipush (v := -2) dX9_fewest_21 (by decide) ?_
            refine r_iret dX9_fewest_23 rfl (Nat.le_of_ble_eq_true rfl) (Nat.le_of_ble_eq_true rfl) ?_
            exact ⟨rfl, rfl, PC.same hC⟩
        · first | exact absurd h4 (by rw [hbb'.1]; decide) | exact absurd h11 (by rw [hbb'.2]; decide)
    · skip
      cases hp : prsN σ.1 with
      | none =>
        have e : sp_fewest σ s t = (-7, σ) := by unfold sp_fewest; rw [if_neg (by rw [hbb]; decide), if_neg hst, hp]
        rw [e]
        refine r_iload_n 1 dX9_fewest_0 rfl rfl ?_
        refine r_callSp [_] dX9_fewest_1 ok_RX9_63 isX9_isStation rfl rfl (Nat.le_of_ble_eq_true rfl) (by refine ⟨?_, ?_, ?_, ?_⟩ <;> exact Nat.le_of_ble_eq_true rfl) (c_isSt _) ?_
        refine r_ifB_eq 14 dX9_fewest_4 (by decide) (fun h4 => ?_) (fun h4 => ?_)
        · first | exact absurd h4 (by rw [hbb'.1]; decide) | exact absurd h11 (by rw [hbb'.2]; decide)
        · refine r_iload_n 2 dX9_fewest_7 rfl rfl ?_
          refine r_callSp [_] dX9_fewest_8 ok_RX9_63 isX9_isStation rfl rfl (Nat.le_of_ble_eq_true rfl) (by refine ⟨?_, ?_, ?_, ?_⟩ <;> exact Nat.le_of_ble_eq_true rfl) (c_isSt _) ?_
          refine r_ifB_ne 16 dX9_fewest_11 (by decide) (fun h11 => ?_) (fun h11 => ?_)
          · refine r_iload_n 1 dX9_fewest_16 rfl rfl ?_
            refine r_iload_n 2 dX9_fewest_17 rfl rfl ?_
            refine r_icmp_ne 24 dX9_fewest_18 (by decide) (fun h18 => ?_) (fun h18 => ?_)
            · refine r_aload_n 0 dX9_fewest_24 rfl rfl ?_
              refine r_getR dX9_fewest_25 fl_RX9_10 rfl (by assumption) (by assumption) ?_
              refine r_callVx [] dX9_fewest_28 ok_RX9_67 ivX5_readName (by assumption) ⟨_, _, rfl⟩ rfl rfl (Nat.le_of_ble_eq_true rfl) (by refine ⟨?_, ?_, ?_, ?_⟩ <;> exact Nat.le_of_ble_eq_true rfl) (rd_none l2 c2 hok.1 hp) ?_
              intro m hm
              refine r_istore_n 3 (ls2 := [_, _, _, _]) dX9_fewest_31 rfl (by decide) (Nat.le_of_ble_eq_true rfl) rfl ?_
              refine r_iload_n 3 dX9_fewest_32 rfl rfl ?_
              refine r_if_ne 39 dX9_fewest_33 (by decide) (fun h33 => ?_) (fun h33 => ?_)
              · exact absurd rfl h33
              · refine r_bipush (v := -7) dX9_fewest_36 (by decide) ?_
                refine r_iret dX9_fewest_38 rfl (Nat.le_of_ble_eq_true rfl) (Nat.le_of_ble_eq_true rfl) ?_
                refine ⟨rfl, rfl, rfl, ?_, fun q q1 q2 => ⟨by rw [hm, up2_row _ _ (by omega)], rfl⟩⟩
                rw [hm]; exact hC.rd hok
            · exact absurd h18 hst
          · first | exact absurd h4 (by rw [hbb'.1]; decide) | exact absurd h11 (by rw [hbb'.2]; decide)
      | some f =>
        have hpos := okL_pos (b := 32) (prsN_ok hp)
        have hlt := okL_32 (prsN_ok hp)
        refine r_iload_n 1 dX9_fewest_0 rfl rfl ?_
        refine r_callSp [_] dX9_fewest_1 ok_RX9_63 isX9_isStation rfl rfl (Nat.le_of_ble_eq_true rfl) (by refine ⟨?_, ?_, ?_, ?_⟩ <;> exact Nat.le_of_ble_eq_true rfl) (c_isSt _) ?_
        refine r_ifB_eq 14 dX9_fewest_4 (by decide) (fun h4 => ?_) (fun h4 => ?_)
        · first | exact absurd h4 (by rw [hbb'.1]; decide) | exact absurd h11 (by rw [hbb'.2]; decide)
        · refine r_iload_n 2 dX9_fewest_7 rfl rfl ?_
          refine r_callSp [_] dX9_fewest_8 ok_RX9_63 isX9_isStation rfl rfl (Nat.le_of_ble_eq_true rfl) (by refine ⟨?_, ?_, ?_, ?_⟩ <;> exact Nat.le_of_ble_eq_true rfl) (c_isSt _) ?_
          refine r_ifB_ne 16 dX9_fewest_11 (by decide) (fun h11 => ?_) (fun h11 => ?_)
          · refine r_iload_n 1 dX9_fewest_16 rfl rfl ?_
            refine r_iload_n 2 dX9_fewest_17 rfl rfl ?_
            refine r_icmp_ne 24 dX9_fewest_18 (by decide) (fun h18 => ?_) (fun h18 => ?_)
            · refine r_aload_n 0 dX9_fewest_24 rfl rfl ?_
              refine r_getR dX9_fewest_25 fl_RX9_10 rfl (by assumption) (by assumption) ?_
              refine r_callVx [] dX9_fewest_28 ok_RX9_67 ivX5_readName (by assumption) ⟨_, _, rfl⟩ rfl rfl (Nat.le_of_ble_eq_true rfl) (by refine ⟨?_, ?_, ?_, ?_⟩ <;> exact Nat.le_of_ble_eq_true rfl) (rd_some l2 c2 hok.1 hp) ?_
              intro m hm
              refine r_istore_n 3 (ls2 := [_, _, _, _]) dX9_fewest_31 rfl (by decide) (Nat.le_of_ble_eq_true rfl) rfl ?_
              refine r_iload_n 3 dX9_fewest_32 rfl rfl ?_
              refine r_ifN_ne 39 dX9_fewest_33 (by decide) (by omega) (fun h33 => ?_) (fun h33 => ?_)
              · refine r_iconst (v := nI 1) dX9_fewest_39 (by decide) ?_
                refine r_istore 4 (ls2 := [_, _, _, _, _]) dX9_fewest_40 (by decide) (Nat.le_of_ble_eq_true rfl) rfl ?_
                exact H hbb hst f hp 7 0 m mr rfl (fun j hj => by omega) (by rw [hm]; exact hC.rd hok) (fun q q1 q2 => ⟨by rw [hm, up2_row _ _ (by omega)], rfl⟩)
              · omega
            · exact absurd h18 hst
          · first | exact absurd h4 (by rw [hbb'.1]; decide) | exact absurd h11 (by rw [hbb'.2]; decide)
theorem k_bridges {σ : Al} {N : Nat} (hC : CR z sh mi mr x σ) (hok : okA σ N) (s t n : Int32) : Mm mX9_bridges 6 [.ref x, .int s, .int t, .int n] z sh mi mr (PC z sh mi mr x (sp_bridges σ s t n)) := by
  obtain ⟨hLL, c2, c3, c4, c5, c6⟩ := id hC
  obtain ⟨l0, ⟨l1, l2⟩, ⟨l3, l4⟩, ⟨l5, l6⟩, ⟨l7, l8⟩, ⟨l9, l10⟩, ⟨l11, l12⟩⟩ := id hLL
  have pd0 := l2.1
  have pd1 := c2.1
  have h40 := hok.1.1
  have hnt := okNt_len hok.2.1.1
  obtain ⟨n0, n1, n2, n3, n4, n5⟩ := id l4
  have K48 : (stB s && stB t) = true → ¬ s = t → inB n (nI 1) (nI 7) = true → ∀ f, prsN σ.1 = some f → ∀ m, CR z sh m mr x σ → (∀ q, q ≠ x + 1 → m q = mi q) → Wp yX9_bridges cX9_bridges 7 (some .int) (EM 6 z sh (PC z sh mi mr x (sp_bridges σ s t n))) 0 0 48 [.ref x, .int s, .int t, .int n, .int (nI (en 32 f))] [] z sh m mr := by
    intro hbb hne hin f hf m hCm hmq
    have hfl := prsN_ok hf
    have hbb' := hbb
    rw [Bool.and_eq_true] at hbb'
    obtain ⟨a, ha, rfl⟩ := st_ex hbb'.1
    obtain ⟨b, hb, rfl⟩ := st_ex hbb'.2
    obtain ⟨h, h1, h7, rfl⟩ := inB_ex (by omega) hin (by omega)
    have hab : a ≠ b := fun e => hne (by rw [e])
    obtain ⟨g, hg⟩ : ∃ g : Nat → Bool, g = fun q => decide (q ≠ a) && (decide (q ≠ b) && !hits σ.2.1 (some q) a b f h) := ⟨_, rfl⟩
    have base : sp_bridges σ (nI a) (nI b) (nI h) = (if hits σ.2.1 none a b f h = false then -6 else nI (bs g), σ) := by
      unfold sp_bridges
      rw [if_neg (by rw [hbb]; decide), if_neg (by rw [hin]; intro q; rcases q with q | q; exact hne q; cases q), hf, sk_nI (by omega), sk_nI (by omega), sk_nI (by omega), hg]
    have l60 := l6.1
    have H : hits σ.2.1 none a b f h = true → ∀ (c i v : Nat) (m : MI) (r : MR), i + c = 6 → v = bs (fun q => decide (q < i) && g q) → CR z sh m r x σ → (∀ q, x + 533 ≤ q → q < x + 544 → m q = mi q ∧ r q = mr q) → Wp yX9_bridges cX9_bridges 7 (some .int) (EM 6 z sh (PC z sh mi mr x (sp_bridges σ (nI a) (nI b) (nI h)))) 0 0 93 [.ref x, .int (nI a), .int (nI b), .int (nI h), .int (nI (en 32 f)), .int (nI v), .int (nI i)] [] z sh m r := by
      intro hh c
      have e : sp_bridges σ (nI a) (nI b) (nI h) = (nI (bs g), σ) := by rw [base, if_neg (by rw [hh]; decide)]
      rw [e]
      induction c with
      | zero =>
        intro i v m r hi hv hCm hO
        refine r_iload 6 dX9_bridges_93 rfl ?_
        refine r_bipush (v := nI 6) dX9_bridges_95 (by decide) ?_
        refine r_icmpN_ge 175 dX9_bridges_97 (by decide) (by omega) (by omega) (fun h97 => ?_) (fun h97 => ?_)
        · refine r_iload 5 dX9_bridges_175 rfl ?_
          refine r_iret dX9_bridges_177 rfl (Nat.le_of_ble_eq_true rfl) (Nat.le_of_ble_eq_true rfl) ?_
          refine ⟨rfl, rfl, ?_, hCm, hO⟩
          rw [hv]
          exact congrArg (fun v => some (Value.int (nI v))) (bs_eq (fun q hq => by rw [decide_eq_true (show q < i by omega)]; rfl))
        · omega
      | succ c ih =>
        intro i v m r hi hv hCm hO
        obtain ⟨d1, d2, d3, d4, d5, d6⟩ := id hCm
        obtain ⟨v0, ⟨v1, v2⟩, ⟨v3, v4⟩, ⟨v5, v6⟩, -⟩ := id d1
        obtain ⟨v7, ⟨v8, v9⟩, -⟩ := id v6
        have v10 := v9.1
        have hi6 : i < 6 := by omega
        have hp2 : 1 * 2 ^ i < 2 ^ 32 := by have := Nat.pow_lt_pow_right (a := 2) (by omega) (show i < 32 by omega); omega
        have stay : g i = false → v = bs (fun q => decide (q < i + 1) && g q) := fun e => by
          rw [hv]
          refine bs_eq (fun q hq => ?_)
          by_cases e2 : q = i
          · rw [e2, e, Bool.and_false, Bool.and_false]
          · rw [decide_eq_decide.mpr (show q < i ↔ q < i + 1 by omega)]
        have yes : g i = true → v ||| 1 * 2 ^ i = bs (fun q => decide (q < i + 1) && g q) := fun e => by
          rw [hv, bs_or _ hi6]
          refine bs_eq (fun q hq => ?_)
          unfold upB
          by_cases e2 : q = i
          · rw [if_pos e2, e2, e, decide_eq_true (show i < i + 1 by omega)]; rfl
          · rw [if_neg e2]; show (decide (q < i) && g q) = _; rw [decide_eq_decide.mpr (show q < i ↔ q < i + 1 by omega)]
        refine r_iload 6 dX9_bridges_93 rfl ?_
        refine r_bipush (v := nI 6) dX9_bridges_95 (by decide) ?_
        refine r_icmpN_ge 175 dX9_bridges_97 (by decide) (by omega) (by omega) (fun h97 => ?_) (fun h97 => ?_)
        · omega
        · refine r_iload 6 dX9_bridges_100 rfl ?_
          refine r_iload_n 1 dX9_bridges_102 rfl rfl ?_
          refine r_icmpN_eq 169 dX9_bridges_103 (by decide) (by omega) (by omega) (fun h103 => ?_) (fun h103 => ?_)
          · refine r_iincN 6 (b := 1) (ls2 := [_, _, _, _, _, _, _]) dX9_bridges_169 rfl (by decide) (by decide) rfl ?_
            refine r_goto 93 dX9_bridges_172 (by decide) ?_
            first | exact ih (i + 1) _ m r (by omega) (stay (by rw [hg]; subst h103; simp)) hCm hO | exact ih (i + 1) _ m r (by omega) (stay (by rw [hg]; subst h109; simp)) hCm hO | exact ih (i + 1) _ m3 r3 (by omega) (stay (by rw [hg]; simp [h157])) hC3 hO3 | exact ih (i + 1) _ m3 r3 (by omega) (yes (by rw [hg]; simp [h103, h109, h157])) hC3 hO3
          · refine r_iload 6 dX9_bridges_106 rfl ?_
            refine r_iload_n 2 dX9_bridges_108 rfl rfl ?_
            refine r_icmpN_eq 169 dX9_bridges_109 (by decide) (by omega) (by omega) (fun h109 => ?_) (fun h109 => ?_)
            · refine r_iincN 6 (b := 1) (ls2 := [_, _, _, _, _, _, _]) dX9_bridges_169 rfl (by decide) (by decide) rfl ?_
              refine r_goto 93 dX9_bridges_172 (by decide) ?_
              first | exact ih (i + 1) _ m r (by omega) (stay (by rw [hg]; subst h103; simp)) hCm hO | exact ih (i + 1) _ m r (by omega) (stay (by rw [hg]; subst h109; simp)) hCm hO | exact ih (i + 1) _ m3 r3 (by omega) (stay (by rw [hg]; simp [h157])) hC3 hO3 | exact ih (i + 1) _ m3 r3 (by omega) (yes (by rw [hg]; simp [h103, h109, h157])) hC3 hO3
            · refine r_aload_n 0 dX9_bridges_112 rfl rfl ?_
              refine r_getR dX9_bridges_113 fl_RX9_26 rfl (by assumption) (by assumption) ?_
              refine r_aload_n 0 dX9_bridges_116 rfl rfl ?_
              refine r_getR dX9_bridges_117 fl_RX9_19 rfl (by assumption) (by assumption) ?_
              refine r_callVw [_] dX9_bridges_120 ok_RX9_189 ivX7_prepare (by assumption) ⟨_, _, rfl⟩ rfl rfl (Nat.le_of_ble_eq_true rfl) (by refine ⟨?_, ?_, ?_, ?_⟩ <;> exact Nat.le_of_ble_eq_true rfl) (c_prepare v6 v4 (by omega) d3 hok.2.1.1.1 d4) ?_
              intro m2 ⟨g1, g2⟩
              refine r_aload_n 0 dX9_bridges_123 rfl rfl ?_
              refine r_getR dX9_bridges_124 fl_RX9_26 rfl (by assumption) (by assumption) ?_
              refine r_getR dX9_bridges_127 fl_RX9_203 rfl (by assumption) (by assumption) ?_
              refine r_iload 6 dX9_bridges_130 rfl ?_
              refine r_callVw [_] dX9_bridges_132 ok_RX9_210 ivX3_isolate (by assumption) ⟨_, _, rfl⟩ rfl rfl (Nat.le_of_ble_eq_true rfl) (by refine ⟨?_, ?_, ?_, ?_⟩ <;> exact Nat.le_of_ble_eq_true rfl) (c_isolate v9 g1 hi6) ?_
              intro m2' ⟨o1, o2⟩
              have g1' : NtC m2' r (x + 264 + 1) (triN σ.2.1 (some i)) := ⟨by rw [o1 _ (by omega)]; exact g1.1, fun s hs => ⟨(o2 s hs).trans (congrArg nI (bs_eq (fun q hq => by simp [triN]))), (g1.2 s hs).2.keep (Nat.zero_le _) (fun y y1 y2 => o1 y (by omega))⟩⟩
              refine r_aload_n 0 dX9_bridges_135 rfl rfl ?_
              refine r_getR dX9_bridges_136 fl_RX9_26 rfl (by assumption) (by assumption) ?_
              refine r_iload_n 1 dX9_bridges_139 rfl rfl ?_
              refine r_iload 4 dX9_bridges_140 rfl ?_
              refine r_iload_n 3 dX9_bridges_142 rfl rfl ?_
              refine r_callVmw [_, _, _] dX9_bridges_143 ok_RX9_193 ivX7_spread (by assumption) ⟨_, _, rfl⟩ rfl rfl (Nat.le_of_ble_eq_true rfl) (by refine ⟨?_, ?_, ?_, ?_⟩ <;> exact Nat.le_of_ble_eq_true rfl) (c_spread v6 hok.2.1.1 g1' ha hfl h1 h7) ?_
              intro m3 r3 ⟨p1, p2, p3, p4, p5⟩
              have hC3 := hCm.trial hok p4 p3 (fun q hq => ⟨(p5 q (by omega)).1.trans ((o1 q (by omega)).trans (g2 q (by omega))), (p5 q (by omega)).2⟩)
              have hO3 : ∀ q, x + 533 ≤ q → q < x + 544 → m3 q = mi q ∧ r3 q = mr q := fun q q1 q2 => ⟨(p5 q (by omega)).1.trans ((o1 q (by omega)).trans ((g2 q (by omega)).trans (hO q q1 q2).1)), (p5 q (by omega)).2.trans (hO q q1 q2).2⟩
              obtain ⟨u0, -, -, ⟨u5, u6⟩, -⟩ := id hC3.1
              have u7 := u6.1
              refine r_aload_n 0 dX9_bridges_146 rfl rfl ?_
              refine r_getR dX9_bridges_147 fl_RX9_26 rfl (by assumption) (by assumption) ?_
              refine r_getV dX9_bridges_150 fl_RX9_197 rfl (by assumption) (by first | assumption | exact up2_same _ _ _ _ | exact (Eq.trans (up2_ne _ _ (by omega)) (by first | assumption | exact up2_same _ _ _ _)) | exact (Eq.trans (up2_ne _ _ (by omega)) (Eq.trans (up2_ne _ _ (by omega)) (by first | assumption | exact up2_same _ _ _ _))) | exact (Eq.trans (up2_ne _ _ (by omega)) (Eq.trans (up2_ne _ _ (by omega)) (Eq.trans (up2_ne _ _ (by omega)) (by first | assumption | exact up2_same _ _ _ _)))) | exact (Eq.trans (up2_ne _ _ (by omega)) (Eq.trans (up2_ne _ _ (by omega)) (Eq.trans (up2_ne _ _ (by omega)) (Eq.trans (up2_ne _ _ (by omega)) (by first | assumption | exact up2_same _ _ _ _))))) | rfl) ?_
              refine r_iload_n 2 dX9_bridges_153 rfl rfl ?_
              refine r_callSp [_, _] dX9_bridges_154 ok_RX9_207 isX9_isIn rfl rfl (Nat.le_of_ble_eq_true rfl) (by refine ⟨?_, ?_, ?_, ?_⟩ <;> exact Nat.le_of_ble_eq_true rfl) (c_isInB _ hb) ?_
              rw [hitsB]
              refine r_ifB_ne 169 dX9_bridges_157 (by decide) (fun h157 => ?_) (fun h157 => ?_)
              · refine r_iincN 6 (b := 1) (ls2 := [_, _, _, _, _, _, _]) dX9_bridges_169 rfl (by decide) (by decide) rfl ?_
                refine r_goto 93 dX9_bridges_172 (by decide) ?_
                first | exact ih (i + 1) _ m r (by omega) (stay (by rw [hg]; subst h103; simp)) hCm hO | exact ih (i + 1) _ m r (by omega) (stay (by rw [hg]; subst h109; simp)) hCm hO | exact ih (i + 1) _ m3 r3 (by omega) (stay (by rw [hg]; simp [h157])) hC3 hO3 | exact ih (i + 1) _ m3 r3 (by omega) (yes (by rw [hg]; simp [h103, h109, h157])) hC3 hO3
              · refine r_iload 5 dX9_bridges_160 rfl ?_
                refine r_iconst (v := nI 1) dX9_bridges_162 (by decide) ?_
                refine r_iload 6 dX9_bridges_163 rfl ?_
                refine r_ishlN dX9_bridges_165 (by omega) (by omega) ?_
                refine r_iorN dX9_bridges_166 ?_
                refine r_istore 5 (ls2 := [_, _, _, _, _, _, _]) dX9_bridges_167 (by decide) (Nat.le_of_ble_eq_true rfl) rfl ?_
                refine r_iincN 6 (b := 1) (ls2 := [_, _, _, _, _, _, _]) dX9_bridges_169 rfl (by decide) (by decide) rfl ?_
                refine r_goto 93 dX9_bridges_172 (by decide) ?_
                first | exact ih (i + 1) _ m r (by omega) (stay (by rw [hg]; subst h103; simp)) hCm hO | exact ih (i + 1) _ m r (by omega) (stay (by rw [hg]; subst h109; simp)) hCm hO | exact ih (i + 1) _ m3 r3 (by omega) (stay (by rw [hg]; simp [h157])) hC3 hO3 | exact ih (i + 1) _ m3 r3 (by omega) (yes (by rw [hg]; simp [h103, h109, h157])) hC3 hO3
    obtain ⟨-, d2, d3, d4, d5, d6⟩ := id hCm
    refine r_aload_n 0 dX9_bridges_48 rfl rfl ?_
    refine r_getR dX9_bridges_49 fl_RX9_26 rfl (by assumption) (by assumption) ?_
    refine r_aload_n 0 dX9_bridges_52 rfl rfl ?_
    refine r_getR dX9_bridges_53 fl_RX9_19 rfl (by assumption) (by assumption) ?_
    refine r_callVw [_] dX9_bridges_56 ok_RX9_189 ivX7_prepare (by assumption) ⟨_, _, rfl⟩ rfl rfl (Nat.le_of_ble_eq_true rfl) (by refine ⟨?_, ?_, ?_, ?_⟩ <;> exact Nat.le_of_ble_eq_true rfl) (c_prepare l6 l4 (by omega) d3 hok.2.1.1.1 d4) ?_
    intro m2 ⟨g1, g2⟩
    refine r_aload_n 0 dX9_bridges_59 rfl rfl ?_
    refine r_getR dX9_bridges_60 fl_RX9_26 rfl (by assumption) (by assumption) ?_
    refine r_iload_n 1 dX9_bridges_63 rfl rfl ?_
    refine r_iload 4 dX9_bridges_64 rfl ?_
    refine r_iload_n 3 dX9_bridges_66 rfl rfl ?_
    refine r_callVmw [_, _, _] dX9_bridges_67 ok_RX9_193 ivX7_spread (by assumption) ⟨_, _, rfl⟩ rfl rfl (Nat.le_of_ble_eq_true rfl) (by refine ⟨?_, ?_, ?_, ?_⟩ <;> exact Nat.le_of_ble_eq_true rfl) (c_spread l6 hok.2.1.1 g1 ha hfl h1 h7) ?_
    intro m3 r3 ⟨p1, p2, p3, p4, p5⟩
    have hC3 := hCm.trial hok p4 p3 (fun q hq => ⟨(p5 q (by omega)).1.trans (g2 q (by omega)), (p5 q (by omega)).2⟩)
    have hO3 : ∀ q, x + 533 ≤ q → q < x + 544 → m3 q = mi q ∧ r3 q = mr q := fun q q1 q2 => ⟨(p5 q (by omega)).1.trans ((g2 q (by omega)).trans (hmq q (by omega))), (p5 q (by omega)).2⟩
    obtain ⟨u0, -, -, ⟨u5, u6⟩, -⟩ := id hC3.1
    have u7 := u6.1
    refine r_aload_n 0 dX9_bridges_70 rfl rfl ?_
    refine r_getR dX9_bridges_71 fl_RX9_26 rfl (by assumption) (by assumption) ?_
    refine r_getV dX9_bridges_74 fl_RX9_197 rfl (by assumption) (by first | assumption | exact up2_same _ _ _ _ | exact (Eq.trans (up2_ne _ _ (by omega)) (by first | assumption | exact up2_same _ _ _ _)) | exact (Eq.trans (up2_ne _ _ (by omega)) (Eq.trans (up2_ne _ _ (by omega)) (by first | assumption | exact up2_same _ _ _ _))) | exact (Eq.trans (up2_ne _ _ (by omega)) (Eq.trans (up2_ne _ _ (by omega)) (Eq.trans (up2_ne _ _ (by omega)) (by first | assumption | exact up2_same _ _ _ _)))) | exact (Eq.trans (up2_ne _ _ (by omega)) (Eq.trans (up2_ne _ _ (by omega)) (Eq.trans (up2_ne _ _ (by omega)) (Eq.trans (up2_ne _ _ (by omega)) (by first | assumption | exact up2_same _ _ _ _))))) | rfl) ?_
    refine r_iload_n 2 dX9_bridges_77 rfl rfl ?_
    refine r_callSp [_, _] dX9_bridges_78 ok_RX9_207 isX9_isIn rfl rfl (Nat.le_of_ble_eq_true rfl) (by refine ⟨?_, ?_, ?_, ?_⟩ <;> exact Nat.le_of_ble_eq_true rfl) (c_isInB _ hb) ?_
    rw [hitsB]
    refine r_ifB_ne 87 dX9_bridges_81 (by decide) (fun h81 => ?_) (fun h81 => ?_)
    · refine r_iconst (v := nI 0) dX9_bridges_87 (by decide) ?_
      refine r_istore 5 (ls2 := [_, _, _, _, _, _]) dX9_bridges_88 (by decide) (Nat.le_of_ble_eq_true rfl) rfl ?_
      refine r_iconst (v := nI 0) dX9_bridges_90 (by decide) ?_
      refine r_istore 6 (ls2 := [_, _, _, _, _, _, _]) dX9_bridges_91 (by decide) (Nat.le_of_ble_eq_true rfl) rfl ?_
      exact H h81 6 0 0 m3 r3 rfl (by rfl) hC3 hO3
    · refine r_bipush (v := -6) dX9_bridges_84 (by decide) ?_
      refine r_iret dX9_bridges_86 rfl (Nat.le_of_ble_eq_true rfl) (Nat.le_of_ble_eq_true rfl) ?_
      rw [base, if_pos h81]
      exact ⟨rfl, rfl, rfl, hC3, hO3⟩
  refine Mv.of pnX9_bridges (Nat.le_of_ble_eq_true rfl) rfl ?_
  cases hbb : (stB s && stB t) with
  | false =>
    refine r_iload_n 1 dX9_bridges_0 rfl rfl ?_
    refine r_callSp [_] dX9_bridges_1 ok_RX9_63 isX9_isStation rfl rfl (Nat.le_of_ble_eq_true rfl) (by refine ⟨?_, ?_, ?_, ?_⟩ <;> exact Nat.le_of_ble_eq_true rfl) (c_isSt _) ?_
    refine r_ifB_eq 14 dX9_bridges_4 (by decide) (fun h4 => ?_) (fun h4 => ?_)
    · refine r_iconst (v := -1) dX9_bridges_14 (by decide) ?_
      refine r_iret dX9_bridges_15 rfl (Nat.le_of_ble_eq_true rfl) (Nat.le_of_ble_eq_true rfl) ?_
      refine ⟨rfl, rfl, ?_⟩
      have e : sp_bridges σ s t n = (-1, σ) := by unfold sp_bridges; rw [if_pos hbb]
      rw [e]
      exact PC.same hC
    · refine r_iload_n 2 dX9_bridges_7 rfl rfl ?_
      refine r_callSp [_] dX9_bridges_8 ok_RX9_63 isX9_isStation rfl rfl (Nat.le_of_ble_eq_true rfl) (by refine ⟨?_, ?_, ?_, ?_⟩ <;> exact Nat.le_of_ble_eq_true rfl) (c_isSt _) ?_
      refine r_ifB_ne 16 dX9_bridges_11 (by decide) (fun h11 => ?_) (fun h11 => ?_)
      · exact absurd hbb (by rw [h4, h11]; decide)
      · refine r_iconst (v := -1) dX9_bridges_14 (by decide) ?_
        refine r_iret dX9_bridges_15 rfl (Nat.le_of_ble_eq_true rfl) (Nat.le_of_ble_eq_true rfl) ?_
        refine ⟨rfl, rfl, ?_⟩
        have e : sp_bridges σ s t n = (-1, σ) := by unfold sp_bridges; rw [if_pos hbb]
        rw [e]
        exact PC.same hC
  | true =>
    have hbb' := hbb
    rw [Bool.and_eq_true] at hbb'
    by_cases hst : s = t ∨ inB n (nI 1) (nI 7) = false
    · have e : sp_bridges σ s t n = (-2, σ) := by unfold sp_bridges; rw [if_neg (by rw [hbb]; decide), if_pos hst]
      rw [e]
      refine r_iload_n 1 dX9_bridges_0 rfl rfl ?_
      refine r_callSp [_] dX9_bridges_1 ok_RX9_63 isX9_isStation rfl rfl (Nat.le_of_ble_eq_true rfl) (by refine ⟨?_, ?_, ?_, ?_⟩ <;> exact Nat.le_of_ble_eq_true rfl) (c_isSt _) ?_
      refine r_ifB_eq 14 dX9_bridges_4 (by decide) (fun h4 => ?_) (fun h4 => ?_)
      · first | exact absurd h4 (by rw [hbb'.1]; decide) | exact absurd h11 (by rw [hbb'.2]; decide)
      · refine r_iload_n 2 dX9_bridges_7 rfl rfl ?_
        refine r_callSp [_] dX9_bridges_8 ok_RX9_63 isX9_isStation rfl rfl (Nat.le_of_ble_eq_true rfl) (by refine ⟨?_, ?_, ?_, ?_⟩ <;> exact Nat.le_of_ble_eq_true rfl) (c_isSt _) ?_
        refine r_ifB_ne 16 dX9_bridges_11 (by decide) (fun h11 => ?_) (fun h11 => ?_)
        · refine r_iload_n 1 dX9_bridges_16 rfl rfl ?_
          refine r_iload_n 2 dX9_bridges_17 rfl rfl ?_
          refine r_icmp_eq 28 dX9_bridges_18 (by decide) (fun h18 => ?_) (fun h18 => ?_)
          · refine r_bipush (v := -2) dX9_bridges_28 (by decide) ?_
            refine r_iret dX9_bridges_30 rfl (Nat.le_of_ble_eq_true rfl) (Nat.le_of_ble_eq_true rfl) ?_
            exact ⟨rfl, rfl, PC.same hC⟩
          · refine r_iload_n 3 dX9_bridges_21 rfl rfl ?_
            refine r_callSp [_] dX9_bridges_22 ok_RX9_186 isX9_isHops rfl rfl (Nat.le_of_ble_eq_true rfl) (by refine ⟨?_, ?_, ?_, ?_⟩ <;> exact Nat.le_of_ble_eq_true rfl) (c_isHops _) ?_
            refine r_ifB_ne 31 dX9_bridges_25 (by decide) (fun h25 => ?_) (fun h25 => ?_)
            · exact absurd hst (by rw [h25]; intro q; rcases q with q | q; exact h18 q; cases q)
            · refine r_bipush (v := -2) dX9_bridges_28 (by decide) ?_
              refine r_iret dX9_bridges_30 rfl (Nat.le_of_ble_eq_true rfl) (Nat.le_of_ble_eq_true rfl) ?_
              exact ⟨rfl, rfl, PC.same hC⟩
        · first | exact absurd h4 (by rw [hbb'.1]; decide) | exact absurd h11 (by rw [hbb'.2]; decide)
    · have hst1 : ¬ s = t := fun e => hst (Or.inl e)
      have hin : inB n (nI 1) (nI 7) = true := by cases h : inB n (nI 1) (nI 7) with | true => rfl | false => exact absurd (Or.inr h) hst
      cases hp : prsN σ.1 with
      | none =>
        have e : sp_bridges σ s t n = (-7, σ) := by unfold sp_bridges; rw [if_neg (by rw [hbb]; decide), if_neg hst, hp]
        rw [e]
        refine r_iload_n 1 dX9_bridges_0 rfl rfl ?_
        refine r_callSp [_] dX9_bridges_1 ok_RX9_63 isX9_isStation rfl rfl (Nat.le_of_ble_eq_true rfl) (by refine ⟨?_, ?_, ?_, ?_⟩ <;> exact Nat.le_of_ble_eq_true rfl) (c_isSt _) ?_
        refine r_ifB_eq 14 dX9_bridges_4 (by decide) (fun h4 => ?_) (fun h4 => ?_)
        · first | exact absurd h4 (by rw [hbb'.1]; decide) | exact absurd h11 (by rw [hbb'.2]; decide)
        · refine r_iload_n 2 dX9_bridges_7 rfl rfl ?_
          refine r_callSp [_] dX9_bridges_8 ok_RX9_63 isX9_isStation rfl rfl (Nat.le_of_ble_eq_true rfl) (by refine ⟨?_, ?_, ?_, ?_⟩ <;> exact Nat.le_of_ble_eq_true rfl) (c_isSt _) ?_
          refine r_ifB_ne 16 dX9_bridges_11 (by decide) (fun h11 => ?_) (fun h11 => ?_)
          · refine r_iload_n 1 dX9_bridges_16 rfl rfl ?_
            refine r_iload_n 2 dX9_bridges_17 rfl rfl ?_
            refine r_icmp_eq 28 dX9_bridges_18 (by decide) (fun h18 => ?_) (fun h18 => ?_)
            · first | exact absurd h18 hst1 | exact absurd h25 (by rw [hin]; decide)
            · refine r_iload_n 3 dX9_bridges_21 rfl rfl ?_
              refine r_callSp [_] dX9_bridges_22 ok_RX9_186 isX9_isHops rfl rfl (Nat.le_of_ble_eq_true rfl) (by refine ⟨?_, ?_, ?_, ?_⟩ <;> exact Nat.le_of_ble_eq_true rfl) (c_isHops _) ?_
              refine r_ifB_ne 31 dX9_bridges_25 (by decide) (fun h25 => ?_) (fun h25 => ?_)
              · refine r_aload_n 0 dX9_bridges_31 rfl rfl ?_
                refine r_getR dX9_bridges_32 fl_RX9_10 rfl (by assumption) (by assumption) ?_
                refine r_callVx [] dX9_bridges_35 ok_RX9_67 ivX5_readName (by assumption) ⟨_, _, rfl⟩ rfl rfl (Nat.le_of_ble_eq_true rfl) (by refine ⟨?_, ?_, ?_, ?_⟩ <;> exact Nat.le_of_ble_eq_true rfl) (rd_none l2 c2 hok.1 hp) ?_
                intro m hm
                refine r_istore 4 (ls2 := [_, _, _, _, _]) dX9_bridges_38 (by decide) (Nat.le_of_ble_eq_true rfl) rfl ?_
                refine r_iload 4 dX9_bridges_40 rfl ?_
                refine r_if_ne 48 dX9_bridges_42 (by decide) (fun h42 => ?_) (fun h42 => ?_)
                · exact absurd rfl h42
                · refine r_bipush (v := -7) dX9_bridges_45 (by decide) ?_
                  refine r_iret dX9_bridges_47 rfl (Nat.le_of_ble_eq_true rfl) (Nat.le_of_ble_eq_true rfl) ?_
                  refine ⟨rfl, rfl, rfl, ?_, fun q q1 q2 => ⟨by rw [hm, up2_row _ _ (by omega)], rfl⟩⟩
                  rw [hm]; exact hC.rd hok
              · first | exact absurd h18 hst1 | exact absurd h25 (by rw [hin]; decide)
          · first | exact absurd h4 (by rw [hbb'.1]; decide) | exact absurd h11 (by rw [hbb'.2]; decide)
      | some f =>
        have hpos := okL_pos (b := 32) (prsN_ok hp)
        have hlt := okL_32 (prsN_ok hp)
        refine r_iload_n 1 dX9_bridges_0 rfl rfl ?_
        refine r_callSp [_] dX9_bridges_1 ok_RX9_63 isX9_isStation rfl rfl (Nat.le_of_ble_eq_true rfl) (by refine ⟨?_, ?_, ?_, ?_⟩ <;> exact Nat.le_of_ble_eq_true rfl) (c_isSt _) ?_
        refine r_ifB_eq 14 dX9_bridges_4 (by decide) (fun h4 => ?_) (fun h4 => ?_)
        · first | exact absurd h4 (by rw [hbb'.1]; decide) | exact absurd h11 (by rw [hbb'.2]; decide)
        · refine r_iload_n 2 dX9_bridges_7 rfl rfl ?_
          refine r_callSp [_] dX9_bridges_8 ok_RX9_63 isX9_isStation rfl rfl (Nat.le_of_ble_eq_true rfl) (by refine ⟨?_, ?_, ?_, ?_⟩ <;> exact Nat.le_of_ble_eq_true rfl) (c_isSt _) ?_
          refine r_ifB_ne 16 dX9_bridges_11 (by decide) (fun h11 => ?_) (fun h11 => ?_)
          · refine r_iload_n 1 dX9_bridges_16 rfl rfl ?_
            refine r_iload_n 2 dX9_bridges_17 rfl rfl ?_
            refine r_icmp_eq 28 dX9_bridges_18 (by decide) (fun h18 => ?_) (fun h18 => ?_)
            · first | exact absurd h18 hst1 | exact absurd h25 (by rw [hin]; decide)
            · refine r_iload_n 3 dX9_bridges_21 rfl rfl ?_
              refine r_callSp [_] dX9_bridges_22 ok_RX9_186 isX9_isHops rfl rfl (Nat.le_of_ble_eq_true rfl) (by refine ⟨?_, ?_, ?_, ?_⟩ <;> exact Nat.le_of_ble_eq_true rfl) (c_isHops _) ?_
              refine r_ifB_ne 31 dX9_bridges_25 (by decide) (fun h25 => ?_) (fun h25 => ?_)
              · refine r_aload_n 0 dX9_bridges_31 rfl rfl ?_
                refine r_getR dX9_bridges_32 fl_RX9_10 rfl (by assumption) (by assumption) ?_
                refine r_callVx [] dX9_bridges_35 ok_RX9_67 ivX5_readName (by assumption) ⟨_, _, rfl⟩ rfl rfl (Nat.le_of_ble_eq_true rfl) (by refine ⟨?_, ?_, ?_, ?_⟩ <;> exact Nat.le_of_ble_eq_true rfl) (rd_some l2 c2 hok.1 hp) ?_
                intro m hm
                refine r_istore 4 (ls2 := [_, _, _, _, _]) dX9_bridges_38 (by decide) (Nat.le_of_ble_eq_true rfl) rfl ?_
                refine r_iload 4 dX9_bridges_40 rfl ?_
                refine r_ifN_ne 48 dX9_bridges_42 (by decide) (by omega) (fun h42 => ?_) (fun h42 => ?_)
                · exact K48 hbb hst1 hin f hp m (by rw [hm]; exact hC.rd hok) (fun q hq => by rw [hm, up2_row _ _ hq])
                · omega
              · first | exact absurd h18 hst1 | exact absurd h25 (by rw [hin]; decide)
          · first | exact absurd h4 (by rw [hbb'.1]; decide) | exact absurd h11 (by rw [hbb'.2]; decide)
end CLS6
