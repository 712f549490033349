section CLS4
variable {z : Nat} {sh : SH} {mi : MI} {mr : MR} {x : Nat}
theorem HLb {st : St} {p : Pk} {t : Nat} (h : HL st) (e : st.2.2.2.2 = some (p, t)) : decide (0 < st.2.1 1) = true := by
  rw [decide_eq_true_iff]; exact h.mpr (by rw [e]; rfl)
theorem HLn {st : St} (h : HL st) (e : st.2.2.2.2 = none) : decide (0 < st.2.1 1) = false := by
  rw [decide_eq_false_iff_not]; intro q; have := h.mp q; rw [e] at this; cases this
theorem k_last {σ : Al} {N : Nat} (hC : CR z sh mi mr x σ) (hok : okA σ N) (hN : N < 2 ^ 27) (s w : Int32) : Mm mX9_last 2 [.ref x, .int s, .int w] z sh mi mr (PC z sh mi mr x (sp_last σ s w)) := by
  obtain ⟨hLL, c2, c3, c4, c5, c6⟩ := id hC
  obtain ⟨l0, ⟨l1, l2⟩, ⟨l3, l4⟩, ⟨l5, l6⟩, ⟨l7, l8⟩, ⟨l9, l10⟩, ⟨l11, l12⟩⟩ := id hLL
  have pd0 := l2.1
  have pd1 := c2.1
  have h40 := hok.1.1
  have hnt := okNt_len hok.2.1.1
  obtain ⟨n0, n1, n2, n3, n4, n5⟩ := id l4
  refine Mv.of pnX9_last (Nat.le_of_ble_eq_true rfl) rfl ?_
  cases hb : stB s with
  | false =>
    refine r_iload_n 1 dX9_last_0 rfl rfl ?_
    refine r_callSp [_] dX9_last_1 ok_RX9_63 isX9_isStation rfl rfl (Nat.le_of_ble_eq_true rfl) (by refine ⟨?_, ?_, ?_, ?_⟩ <;> exact Nat.le_of_ble_eq_true rfl) (c_isSt _) ?_
    rw [hb]
    refine r_ifB_ne 9 dX9_last_4 (by decide) (fun h4 => ?_) (fun h4 => ?_)
    · cases h4
    · refine r_iconst (v := -1) dX9_last_7 (by decide) ?_
      refine r_iret dX9_last_8 rfl (Nat.le_of_ble_eq_true rfl) (Nat.le_of_ble_eq_true rfl) ?_
      refine ⟨rfl, rfl, ?_⟩
      have e : sp_last σ s w = (-1, σ) := by unfold sp_last; rw [if_pos hb]
      rw [e]
      exact PC.same hC
  | true =>
    obtain ⟨k, hk, rfl⟩ := st_ex hb
    have hkk : sk (nI k) = k := sk_nI (by omega)
    obtain ⟨s1, s2⟩ := n5 k hk
    obtain ⟨t0, ⟨t1, t2⟩, ⟨t3, t4⟩, ⟨t5, t6⟩, ⟨t7, t8⟩, ⟨t9, t10⟩, ⟨t11, t12⟩, ⟨t13, t14⟩, ⟨t15, t16⟩⟩ := id s2
    have hSt := (c3.2 k hk).2
    have hOk := hok.2.1.1.1 k hk
    have hHL := hok.2.1.2.1 k hk
    have htl : (σ.2.1.1 k).2.1 1 < 2 ^ 31 := by have := hOk.2.1 1 (by omega); have := hok.2.1.2.2; omega
    by_cases hin : inB w (nI 0) (nI 3) = true
    · obtain ⟨j, j1, j2, rfl⟩ := inB_ex (by omega) hin (by omega)
      cases hl : (stA σ k).2.2.2.2 with
      | none =>
        have e : sp_last σ (nI k) (nI j) = (-3, σ) := by unfold sp_last; rw [if_neg (by rw [hb]; decide), if_neg (by rw [hin]; decide), hkk, hl]
        rw [e]
        refine r_iload_n 1 dX9_last_0 rfl rfl ?_
        refine r_callSp [_] dX9_last_1 ok_RX9_63 isX9_isStation rfl rfl (Nat.le_of_ble_eq_true rfl) (by refine ⟨?_, ?_, ?_, ?_⟩ <;> exact Nat.le_of_ble_eq_true rfl) (c_isSt _) ?_
        rw [hb]
        refine r_ifB_ne 9 dX9_last_4 (by decide) (fun h4 => ?_) (fun h4 => ?_)
        · refine r_iload_n 2 dX9_last_9 rfl rfl ?_
          refine r_ifN_lt 18 dX9_last_10 (by decide) (by omega) ?_
          refine r_iload_n 2 dX9_last_13 rfl rfl ?_
          refine r_iconst (v := nI 3) dX9_last_14 (by decide) ?_
          refine r_icmpN_le 21 dX9_last_15 (by decide) (by omega) (by omega) (fun h15 => ?_) (fun h15 => ?_)
          · refine r_aload_n 0 dX9_last_21 rfl rfl ?_
            refine r_getR dX9_last_22 fl_RX9_19 rfl (by assumption) (by assumption) ?_
            refine r_getR dX9_last_25 fl_RX9_71 rfl (by assumption) (by assumption) ?_
            refine r_iload_n 1 dX9_last_28 rfl rfl ?_
            refine r_aald dX9_last_29 (by assumption) (by decide) (by intro _; rfl) (by omega) (by omega) (by assumption) ?_
            refine r_astore_n 3 (ls2 := [_, _, _, _]) dX9_last_30 rfl (by decide) (Nat.le_of_ble_eq_true rfl) rfl ?_
            refine r_aload_n 3 dX9_last_31 rfl rfl ?_
            refine r_callVp [] dX9_last_32 ok_RX9_152 ivX6_hasHeard (by assumption) ⟨_, _, rfl⟩ rfl rfl (Nat.le_of_ble_eq_true rfl) (by refine ⟨?_, ?_, ?_, ?_⟩ <;> exact Nat.le_of_ble_eq_true rfl) (c_hasHeard s2 hSt.2.1 htl) ?_
            rw [HLn hHL hl]
            refine r_ifB_ne 41 dX9_last_35 (by decide) (fun h35 => ?_) (fun h35 => ?_)
            · cases h35
            · refine r_bipush (v := -3) dX9_last_38 (by decide) ?_
              refine r_iret dX9_last_40 rfl (Nat.le_of_ble_eq_true rfl) (Nat.le_of_ble_eq_true rfl) ?_
              exact ⟨rfl, rfl, PC.same hC⟩
          · omega
        · cases h4
      | some q =>
        obtain ⟨p, t⟩ := q
        obtain ⟨hP, hT⟩ := hSt.2.2.2.2.2 p t hl
        obtain ⟨hpk, htn⟩ := hOk.2.2.2.2 p t hl
        have u0 := t12.1
        have hp1 := hP.1
        have h8 := hpk.2.2.1
        have hun := c_firstUnspent (z := z) t12 hP hpk
        have hsp : ∀ r, sp_last σ (nI k) (nI j) = (r, σ) → PC z sh mi mr x (sp_last σ (nI k) (nI j)) (some (.int r)) mi mr := fun r e => by rw [e]; exact PC.same hC
        have hbase : sp_last σ (nI k) (nI j) = (if nI j = nI 0 then nI p.2.2.length else if nI j = nI 1 then nI (p.2.2.countP (fun w => w.2.2)) else if nI j = nI 2 then nI t else match p.2.2[unIx p.2.2]? with | some u => nI u.2.1 | none => -6, σ) := by unfold sp_last; rw [if_neg (by rw [hb]; decide), if_neg (by rw [hin]; decide), hkk, hl]; rfl
        rcases (show j = 0 ∨ j = 1 ∨ j = 2 ∨ j = 3 by omega) with rfl | rfl | rfl | rfl
        · skip
          refine r_iload_n 1 dX9_last_0 rfl rfl ?_
          refine r_callSp [_] dX9_last_1 ok_RX9_63 isX9_isStation rfl rfl (Nat.le_of_ble_eq_true rfl) (by refine ⟨?_, ?_, ?_, ?_⟩ <;> exact Nat.le_of_ble_eq_true rfl) (c_isSt _) ?_
          rw [hb]
          refine r_ifB_ne 9 dX9_last_4 (by decide) (fun h4 => ?_) (fun h4 => ?_)
          · refine r_iload_n 2 dX9_last_9 rfl rfl ?_
            refine r_ifN_lt 18 dX9_last_10 (by decide) (by omega) ?_
            refine r_iload_n 2 dX9_last_13 rfl rfl ?_
            refine r_iconst (v := nI 3) dX9_last_14 (by decide) ?_
            refine r_icmpN_le 21 dX9_last_15 (by decide) (by omega) (by omega) (fun h15 => ?_) (fun h15 => ?_)
            · refine r_aload_n 0 dX9_last_21 rfl rfl ?_
              refine r_getR dX9_last_22 fl_RX9_19 rfl (by assumption) (by assumption) ?_
              refine r_getR dX9_last_25 fl_RX9_71 rfl (by assumption) (by assumption) ?_
              refine r_iload_n 1 dX9_last_28 rfl rfl ?_
              refine r_aald dX9_last_29 (by assumption) (by decide) (by intro _; rfl) (by omega) (by omega) (by assumption) ?_
              refine r_astore_n 3 (ls2 := [_, _, _, _]) dX9_last_30 rfl (by decide) (Nat.le_of_ble_eq_true rfl) rfl ?_
              refine r_aload_n 3 dX9_last_31 rfl rfl ?_
              refine r_callVp [] dX9_last_32 ok_RX9_152 ivX6_hasHeard (by assumption) ⟨_, _, rfl⟩ rfl rfl (Nat.le_of_ble_eq_true rfl) (by refine ⟨?_, ?_, ?_, ?_⟩ <;> exact Nat.le_of_ble_eq_true rfl) (c_hasHeard s2 hSt.2.1 htl) ?_
              rw [HLb hHL hl]
              refine r_ifB_ne 41 dX9_last_35 (by decide) (fun h35 => ?_) (fun h35 => ?_)
              · refine r_aload_n 3 dX9_last_41 rfl rfl ?_
                refine r_getR dX9_last_42 fl_RX9_156 rfl (by assumption) (by assumption) ?_
                refine r_astore 4 (ls2 := [_, _, _, _, _]) dX9_last_45 (by decide) (Nat.le_of_ble_eq_true rfl) rfl ?_
                refine r_iload_n 2 dX9_last_47 rfl rfl ?_
                refine r_ifN_ne 57 dX9_last_48 (by decide) (by omega) (fun h48 => ?_) (fun h48 => ?_)
                · omega
                · refine r_aload 4 dX9_last_51 rfl ?_
                  refine r_getV dX9_last_53 fl_RX9_167 rfl (by assumption) (by first | assumption | exact up2_same _ _ _ _ | exact (Eq.trans (up2_ne _ _ (by omega)) (by first | assumption | exact up2_same _ _ _ _)) | exact (Eq.trans (up2_ne _ _ (by omega)) (Eq.trans (up2_ne _ _ (by omega)) (by first | assumption | exact up2_same _ _ _ _))) | exact (Eq.trans (up2_ne _ _ (by omega)) (Eq.trans (up2_ne _ _ (by omega)) (Eq.trans (up2_ne _ _ (by omega)) (by first | assumption | exact up2_same _ _ _ _)))) | exact (Eq.trans (up2_ne _ _ (by omega)) (Eq.trans (up2_ne _ _ (by omega)) (Eq.trans (up2_ne _ _ (by omega)) (Eq.trans (up2_ne _ _ (by omega)) (by first | assumption | exact up2_same _ _ _ _))))) | rfl) ?_
                  refine r_iret dX9_last_56 rfl (Nat.le_of_ble_eq_true rfl) (Nat.le_of_ble_eq_true rfl) ?_
                  exact ⟨rfl, rfl, hsp _ (by rw [hbase, if_pos rfl])⟩
              · cases h35
            · omega
          · cases h4
        · skip
          refine r_iload_n 1 dX9_last_0 rfl rfl ?_
          refine r_callSp [_] dX9_last_1 ok_RX9_63 isX9_isStation rfl rfl (Nat.le_of_ble_eq_true rfl) (by refine ⟨?_, ?_, ?_, ?_⟩ <;> exact Nat.le_of_ble_eq_true rfl) (c_isSt _) ?_
          rw [hb]
          refine r_ifB_ne 9 dX9_last_4 (by decide) (fun h4 => ?_) (fun h4 => ?_)
          · refine r_iload_n 2 dX9_last_9 rfl rfl ?_
            refine r_ifN_lt 18 dX9_last_10 (by decide) (by omega) ?_
            refine r_iload_n 2 dX9_last_13 rfl rfl ?_
            refine r_iconst (v := nI 3) dX9_last_14 (by decide) ?_
            refine r_icmpN_le 21 dX9_last_15 (by decide) (by omega) (by omega) (fun h15 => ?_) (fun h15 => ?_)
            · refine r_aload_n 0 dX9_last_21 rfl rfl ?_
              refine r_getR dX9_last_22 fl_RX9_19 rfl (by assumption) (by assumption) ?_
              refine r_getR dX9_last_25 fl_RX9_71 rfl (by assumption) (by assumption) ?_
              refine r_iload_n 1 dX9_last_28 rfl rfl ?_
              refine r_aald dX9_last_29 (by assumption) (by decide) (by intro _; rfl) (by omega) (by omega) (by assumption) ?_
              refine r_astore_n 3 (ls2 := [_, _, _, _]) dX9_last_30 rfl (by decide) (Nat.le_of_ble_eq_true rfl) rfl ?_
              refine r_aload_n 3 dX9_last_31 rfl rfl ?_
              refine r_callVp [] dX9_last_32 ok_RX9_152 ivX6_hasHeard (by assumption) ⟨_, _, rfl⟩ rfl rfl (Nat.le_of_ble_eq_true rfl) (by refine ⟨?_, ?_, ?_, ?_⟩ <;> exact Nat.le_of_ble_eq_true rfl) (c_hasHeard s2 hSt.2.1 htl) ?_
              rw [HLb hHL hl]
              refine r_ifB_ne 41 dX9_last_35 (by decide) (fun h35 => ?_) (fun h35 => ?_)
              · refine r_aload_n 3 dX9_last_41 rfl rfl ?_
                refine r_getR dX9_last_42 fl_RX9_156 rfl (by assumption) (by assumption) ?_
                refine r_astore 4 (ls2 := [_, _, _, _, _]) dX9_last_45 (by decide) (Nat.le_of_ble_eq_true rfl) rfl ?_
                refine r_iload_n 2 dX9_last_47 rfl rfl ?_
                refine r_ifN_ne 57 dX9_last_48 (by decide) (by omega) (fun h48 => ?_) (fun h48 => ?_)
                · refine r_iload_n 2 dX9_last_57 rfl rfl ?_
                  refine r_iconst (v := nI 1) dX9_last_58 (by decide) ?_
                  refine r_icmpN_ne 68 dX9_last_59 (by decide) (by omega) (by omega) (fun h59 => ?_) (fun h59 => ?_)
                  · omega
                  · refine r_aload 4 dX9_last_62 rfl ?_
                    refine r_callVp [] dX9_last_64 ok_RX9_168 ivX4_spentWords (by assumption) ⟨_, _, rfl⟩ rfl rfl (Nat.le_of_ble_eq_true rfl) (by refine ⟨?_, ?_, ?_, ?_⟩ <;> exact Nat.le_of_ble_eq_true rfl) (c_spentWords t12 hP hpk) ?_
                    refine r_iret dX9_last_67 rfl (Nat.le_of_ble_eq_true rfl) (Nat.le_of_ble_eq_true rfl) ?_
                    exact ⟨rfl, rfl, hsp _ (by rw [hbase, if_neg (by decide), if_pos rfl])⟩
                · omega
              · cases h35
            · omega
          · cases h4
        · skip
          refine r_iload_n 1 dX9_last_0 rfl rfl ?_
          refine r_callSp [_] dX9_last_1 ok_RX9_63 isX9_isStation rfl rfl (Nat.le_of_ble_eq_true rfl) (by refine ⟨?_, ?_, ?_, ?_⟩ <;> exact Nat.le_of_ble_eq_true rfl) (c_isSt _) ?_
          rw [hb]
          refine r_ifB_ne 9 dX9_last_4 (by decide) (fun h4 => ?_) (fun h4 => ?_)
          · refine r_iload_n 2 dX9_last_9 rfl rfl ?_
            refine r_ifN_lt 18 dX9_last_10 (by decide) (by omega) ?_
            refine r_iload_n 2 dX9_last_13 rfl rfl ?_
            refine r_iconst (v := nI 3) dX9_last_14 (by decide) ?_
            refine r_icmpN_le 21 dX9_last_15 (by decide) (by omega) (by omega) (fun h15 => ?_) (fun h15 => ?_)
            · refine r_aload_n 0 dX9_last_21 rfl rfl ?_
              refine r_getR dX9_last_22 fl_RX9_19 rfl (by assumption) (by assumption) ?_
              refine r_getR dX9_last_25 fl_RX9_71 rfl (by assumption) (by assumption) ?_
              refine r_iload_n 1 dX9_last_28 rfl rfl ?_
              refine r_aald dX9_last_29 (by assumption) (by decide) (by intro _; rfl) (by omega) (by omega) (by assumption) ?_
              refine r_astore_n 3 (ls2 := [_, _, _, _]) dX9_last_30 rfl (by decide) (Nat.le_of_ble_eq_true rfl) rfl ?_
              refine r_aload_n 3 dX9_last_31 rfl rfl ?_
              refine r_callVp [] dX9_last_32 ok_RX9_152 ivX6_hasHeard (by assumption) ⟨_, _, rfl⟩ rfl rfl (Nat.le_of_ble_eq_true rfl) (by refine ⟨?_, ?_, ?_, ?_⟩ <;> exact Nat.le_of_ble_eq_true rfl) (c_hasHeard s2 hSt.2.1 htl) ?_
              rw [HLb hHL hl]
              refine r_ifB_ne 41 dX9_last_35 (by decide) (fun h35 => ?_) (fun h35 => ?_)
              · refine r_aload_n 3 dX9_last_41 rfl rfl ?_
                refine r_getR dX9_last_42 fl_RX9_156 rfl (by assumption) (by assumption) ?_
                refine r_astore 4 (ls2 := [_, _, _, _, _]) dX9_last_45 (by decide) (Nat.le_of_ble_eq_true rfl) rfl ?_
                refine r_iload_n 2 dX9_last_47 rfl rfl ?_
                refine r_ifN_ne 57 dX9_last_48 (by decide) (by omega) (fun h48 => ?_) (fun h48 => ?_)
                · refine r_iload_n 2 dX9_last_57 rfl rfl ?_
                  refine r_iconst (v := nI 1) dX9_last_58 (by decide) ?_
                  refine r_icmpN_ne 68 dX9_last_59 (by decide) (by omega) (by omega) (fun h59 => ?_) (fun h59 => ?_)
                  · refine r_iload_n 2 dX9_last_68 rfl rfl ?_
                    refine r_iconst (v := nI 2) dX9_last_69 (by decide) ?_
                    refine r_icmpN_ne 78 dX9_last_70 (by decide) (by omega) (by omega) (fun h70 => ?_) (fun h70 => ?_)
                    · omega
                    · refine r_aload_n 3 dX9_last_73 rfl rfl ?_
                      refine r_getV dX9_last_74 fl_RX9_171 rfl (by assumption) (by first | assumption | exact up2_same _ _ _ _ | exact (Eq.trans (up2_ne _ _ (by omega)) (by first | assumption | exact up2_same _ _ _ _)) | exact (Eq.trans (up2_ne _ _ (by omega)) (Eq.trans (up2_ne _ _ (by omega)) (by first | assumption | exact up2_same _ _ _ _))) | exact (Eq.trans (up2_ne _ _ (by omega)) (Eq.trans (up2_ne _ _ (by omega)) (Eq.trans (up2_ne _ _ (by omega)) (by first | assumption | exact up2_same _ _ _ _)))) | exact (Eq.trans (up2_ne _ _ (by omega)) (Eq.trans (up2_ne _ _ (by omega)) (Eq.trans (up2_ne _ _ (by omega)) (Eq.trans (up2_ne _ _ (by omega)) (by first | assumption | exact up2_same _ _ _ _))))) | rfl) ?_
                      refine r_iret dX9_last_77 rfl (Nat.le_of_ble_eq_true rfl) (Nat.le_of_ble_eq_true rfl) ?_
                      exact ⟨rfl, rfl, hsp _ (by rw [hbase, if_neg (by decide), if_neg (by decide), if_pos rfl])⟩
                  · omega
                · omega
              · cases h35
            · omega
          · cases h4
        · have hb3 : sp_last σ (nI k) (nI 3) = (match p.2.2[unIx p.2.2]? with | some u => nI u.2.1 | none => -6, σ) := by rw [hbase, if_neg (by decide), if_neg (by decide), if_neg (by decide)]
          by_cases hu : unIx p.2.2 < p.2.2.length
          · obtain ⟨u, hu2⟩ := gl_ex hu
            have huk := hpk.2.2.2 u (gl_mem hu2)
            have hvl := wc_lt huk
            rw [if_pos hu] at hun
            refine r_iload_n 1 dX9_last_0 rfl rfl ?_
            refine r_callSp [_] dX9_last_1 ok_RX9_63 isX9_isStation rfl rfl (Nat.le_of_ble_eq_true rfl) (by refine ⟨?_, ?_, ?_, ?_⟩ <;> exact Nat.le_of_ble_eq_true rfl) (c_isSt _) ?_
            rw [hb]
            refine r_ifB_ne 9 dX9_last_4 (by decide) (fun h4 => ?_) (fun h4 => ?_)
            · refine r_iload_n 2 dX9_last_9 rfl rfl ?_
              refine r_ifN_lt 18 dX9_last_10 (by decide) (by omega) ?_
              refine r_iload_n 2 dX9_last_13 rfl rfl ?_
              refine r_iconst (v := nI 3) dX9_last_14 (by decide) ?_
              refine r_icmpN_le 21 dX9_last_15 (by decide) (by omega) (by omega) (fun h15 => ?_) (fun h15 => ?_)
              · refine r_aload_n 0 dX9_last_21 rfl rfl ?_
                refine r_getR dX9_last_22 fl_RX9_19 rfl (by assumption) (by assumption) ?_
                refine r_getR dX9_last_25 fl_RX9_71 rfl (by assumption) (by assumption) ?_
                refine r_iload_n 1 dX9_last_28 rfl rfl ?_
                refine r_aald dX9_last_29 (by assumption) (by decide) (by intro _; rfl) (by omega) (by omega) (by assumption) ?_
                refine r_astore_n 3 (ls2 := [_, _, _, _]) dX9_last_30 rfl (by decide) (Nat.le_of_ble_eq_true rfl) rfl ?_
                refine r_aload_n 3 dX9_last_31 rfl rfl ?_
                refine r_callVp [] dX9_last_32 ok_RX9_152 ivX6_hasHeard (by assumption) ⟨_, _, rfl⟩ rfl rfl (Nat.le_of_ble_eq_true rfl) (by refine ⟨?_, ?_, ?_, ?_⟩ <;> exact Nat.le_of_ble_eq_true rfl) (c_hasHeard s2 hSt.2.1 htl) ?_
                rw [HLb hHL hl]
                refine r_ifB_ne 41 dX9_last_35 (by decide) (fun h35 => ?_) (fun h35 => ?_)
                · refine r_aload_n 3 dX9_last_41 rfl rfl ?_
                  refine r_getR dX9_last_42 fl_RX9_156 rfl (by assumption) (by assumption) ?_
                  refine r_astore 4 (ls2 := [_, _, _, _, _]) dX9_last_45 (by decide) (Nat.le_of_ble_eq_true rfl) rfl ?_
                  refine r_iload_n 2 dX9_last_47 rfl rfl ?_
                  refine r_ifN_ne 57 dX9_last_48 (by decide) (by omega) (fun h48 => ?_) (fun h48 => ?_)
                  · refine r_iload_n 2 dX9_last_57 rfl rfl ?_
                    refine r_iconst (v := nI 1) dX9_last_58 (by decide) ?_
                    refine r_icmpN_ne 68 dX9_last_59 (by decide) (by omega) (by omega) (fun h59 => ?_) (fun h59 => ?_)
                    · refine r_iload_n 2 dX9_last_68 rfl rfl ?_
                      refine r_iconst (v := nI 2) dX9_last_69 (by decide) ?_
                      refine r_icmpN_ne 78 dX9_last_70 (by decide) (by omega) (by omega) (fun h70 => ?_) (fun h70 => ?_)
                      · refine r_aload 4 dX9_last_78 rfl ?_
                        refine r_callVp [] dX9_last_80 ok_RX9_174 ivX4_firstUnspent (by assumption) ⟨_, _, rfl⟩ rfl rfl (Nat.le_of_ble_eq_true rfl) (by refine ⟨?_, ?_, ?_, ?_⟩ <;> exact Nat.le_of_ble_eq_true rfl) (hun) ?_
                        refine r_istore 5 (ls2 := [_, _, _, _, _, _]) dX9_last_83 (by decide) (Nat.le_of_ble_eq_true rfl) rfl ?_
                        refine r_iload 5 dX9_last_85 rfl ?_
                        refine r_bipush (v := -6) dX9_last_87 (by decide) ?_
                        refine r_icmp_ne 97 dX9_last_89 (by decide) (fun h89 => ?_) (fun h89 => ?_)
                        · refine r_aload 4 dX9_last_97 rfl ?_
                          refine r_iload 5 dX9_last_99 rfl ?_
                          refine r_callVp [_] dX9_last_101 ok_RX9_177 ivX4_hopsAt (by assumption) ⟨_, _, rfl⟩ rfl rfl (Nat.le_of_ble_eq_true rfl) (by refine ⟨?_, ?_, ?_, ?_⟩ <;> exact Nat.le_of_ble_eq_true rfl) (c_hopsAt t12 hp1 h8 hu (hP.2.2.2 _ u hu2) (by omega)) ?_
                          refine r_iret dX9_last_104 rfl (Nat.le_of_ble_eq_true rfl) (Nat.le_of_ble_eq_true rfl) ?_
                          refine ⟨rfl, rfl, hsp _ ?_⟩
                          rw [hb3, hu2, wc_hops huk.2]
                        · exact absurd h89 (nI_ne6 (by omega))
                      · omega
                    · omega
                  · omega
                · cases h35
              · omega
            · cases h4
          · rw [if_neg hu] at hun
            refine r_iload_n 1 dX9_last_0 rfl rfl ?_
            refine r_callSp [_] dX9_last_1 ok_RX9_63 isX9_isStation rfl rfl (Nat.le_of_ble_eq_true rfl) (by refine ⟨?_, ?_, ?_, ?_⟩ <;> exact Nat.le_of_ble_eq_true rfl) (c_isSt _) ?_
            rw [hb]
            refine r_ifB_ne 9 dX9_last_4 (by decide) (fun h4 => ?_) (fun h4 => ?_)
            · refine r_iload_n 2 dX9_last_9 rfl rfl ?_
              refine r_ifN_lt 18 dX9_last_10 (by decide) (by omega) ?_
              refine r_iload_n 2 dX9_last_13 rfl rfl ?_
              refine r_iconst (v := nI 3) dX9_last_14 (by decide) ?_
              refine r_icmpN_le 21 dX9_last_15 (by decide) (by omega) (by omega) (fun h15 => ?_) (fun h15 => ?_)
              · refine r_aload_n 0 dX9_last_21 rfl rfl ?_
                refine r_getR dX9_last_22 fl_RX9_19 rfl (by assumption) (by assumption) ?_
                refine r_getR dX9_last_25 fl_RX9_71 rfl (by assumption) (by assumption) ?_
                refine r_iload_n 1 dX9_last_28 rfl rfl ?_
                refine r_aald dX9_last_29 (by assumption) (by decide) (by intro _; rfl) (by omega) (by omega) (by assumption) ?_
                refine r_astore_n 3 (ls2 := [_, _, _, _]) dX9_last_30 rfl (by decide) (Nat.le_of_ble_eq_true rfl) rfl ?_
                refine r_aload_n 3 dX9_last_31 rfl rfl ?_
                refine r_callVp [] dX9_last_32 ok_RX9_152 ivX6_hasHeard (by assumption) ⟨_, _, rfl⟩ rfl rfl (Nat.le_of_ble_eq_true rfl) (by refine ⟨?_, ?_, ?_, ?_⟩ <;> exact Nat.le_of_ble_eq_true rfl) (c_hasHeard s2 hSt.2.1 htl) ?_
                rw [HLb hHL hl]
                refine r_ifB_ne 41 dX9_last_35 (by decide) (fun h35 => ?_) (fun h35 => ?_)
                · refine r_aload_n 3 dX9_last_41 rfl rfl ?_
                  refine r_getR dX9_last_42 fl_RX9_156 rfl (by assumption) (by assumption) ?_
                  refine r_astore 4 (ls2 := [_, _, _, _, _]) dX9_last_45 (by decide) (Nat.le_of_ble_eq_true rfl) rfl ?_
                  refine r_iload_n 2 dX9_last_47 rfl rfl ?_
                  refine r_ifN_ne 57 dX9_last_48 (by decide) (by omega) (fun h48 => ?_) (fun h48 => ?_)
                  · refine r_iload_n 2 dX9_last_57 rfl rfl ?_
                    refine r_iconst (v := nI 1) dX9_last_58 (by decide) ?_
                    refine r_icmpN_ne 68 dX9_last_59 (by decide) (by omega) (by omega) (fun h59 => ?_) (fun h59 => ?_)
                    · refine r_iload_n 2 dX9_last_68 rfl rfl ?_
                      refine r_iconst (v := nI 2) dX9_last_69 (by decide) ?_
                      refine r_icmpN_ne 78 dX9_last_70 (by decide) (by omega) (by omega) (fun h70 => ?_) (fun h70 => ?_)
                      · refine r_aload 4 dX9_last_78 rfl ?_
                        refine r_callVp [] dX9_last_80 ok_RX9_174 ivX4_firstUnspent (by assumption) ⟨_, _, rfl⟩ rfl rfl (Nat.le_of_ble_eq_true rfl) (by refine ⟨?_, ?_, ?_, ?_⟩ <;> exact Nat.le_of_ble_eq_true rfl) (hun) ?_
                        refine r_istore 5 (ls2 := [_, _, _, _, _, _]) dX9_last_83 (by decide) (Nat.le_of_ble_eq_true rfl) rfl ?_
                        refine r_iload 5 dX9_last_85 rfl ?_
                        refine r_bipush (v := -6) dX9_last_87 (by decide) ?_
                        refine r_icmp_ne 97 dX9_last_89 (by decide) (fun h89 => ?_) (fun h89 => ?_)
                        · exact absurd rfl h89
                        · refine r_bipush (v := -6) dX9_last_92 (by decide) ?_
                          refine r_goto 104 dX9_last_94 (by decide) ?_
                          refine r_iret dX9_last_104 rfl (Nat.le_of_ble_eq_true rfl) (Nat.le_of_ble_eq_true rfl) ?_
                          refine ⟨rfl, rfl, hsp _ ?_⟩
                          rw [hb3, List.getElem?_eq_none (by omega)]
                      · omega
                    · omega
                  · omega
                · cases h35
              · omega
            · cases h4
    · have e : sp_last σ (nI k) w = (-2, σ) := by unfold sp_last; rw [if_neg (by rw [hb]; decide), if_pos (by simpa using hin)]
      rw [e]
      refine r_iload_n 1 dX9_last_0 rfl rfl ?_
      refine r_callSp [_] dX9_last_1 ok_RX9_63 isX9_isStation rfl rfl (Nat.le_of_ble_eq_true rfl) (by refine ⟨?_, ?_, ?_, ?_⟩ <;> exact Nat.le_of_ble_eq_true rfl) (c_isSt _) ?_
      rw [hb]
      refine r_ifB_ne 9 dX9_last_4 (by decide) (fun h4 => ?_) (fun h4 => ?_)
      · refine r_iload_n 2 dX9_last_9 rfl rfl ?_
        refine r_if_lt 18 dX9_last_10 (by decide) (fun h10 => ?_) (fun h10 => ?_)
        · refine r_bipush (v := -2) dX9_last_18 (by decide) ?_
          refine r_iret dX9_last_20 rfl (Nat.le_of_ble_eq_true rfl) (Nat.le_of_ble_eq_true rfl) ?_
          exact ⟨rfl, rfl, PC.same hC⟩
        · refine r_iload_n 2 dX9_last_13 rfl rfl ?_
          refine r_iconst (v := nI 3) dX9_last_14 (by decide) ?_
          refine r_icmp_le 21 dX9_last_15 (by decide) (fun h15 => ?_) (fun h15 => ?_)
          · exact absurd (inB_ok (by rw [nI_zero] at h10; exact h10) h15) hin
          · refine r_bipush (v := -2) dX9_last_18 (by decide) ?_
            refine r_iret dX9_last_20 rfl (Nat.le_of_ble_eq_true rfl) (Nat.le_of_ble_eq_true rfl) ?_
            exact ⟨rfl, rfl, PC.same hC⟩
      · cases h4
theorem k_trail {σ : Al} {N : Nat} (hC : CR z sh mi mr x σ) (hok : okA σ N) (hN : N < 2 ^ 27) (s i : Int32) : Mm mX9_trail 2 [.ref x, .int s, .int i] z sh mi mr (PC z sh mi mr x (sp_trail σ s i)) := by
  obtain ⟨hLL, c2, c3, c4, c5, c6⟩ := id hC
  obtain ⟨l0, ⟨l1, l2⟩, ⟨l3, l4⟩, ⟨l5, l6⟩, ⟨l7, l8⟩, ⟨l9, l10⟩, ⟨l11, l12⟩⟩ := id hLL
  have pd0 := l2.1
  have pd1 := c2.1
  have h40 := hok.1.1
  have hnt := okNt_len hok.2.1.1
  obtain ⟨n0, n1, n2, n3, n4, n5⟩ := id l4
  refine Mv.of pnX9_trail (Nat.le_of_ble_eq_true rfl) rfl ?_
  cases hb : stB s with
  | false =>
    refine r_iload_n 1 dX9_trail_0 rfl rfl ?_
    refine r_callSp [_] dX9_trail_1 ok_RX9_63 isX9_isStation rfl rfl (Nat.le_of_ble_eq_true rfl) (by refine ⟨?_, ?_, ?_, ?_⟩ <;> exact Nat.le_of_ble_eq_true rfl) (c_isSt _) ?_
    rw [hb]
    refine r_ifB_ne 9 dX9_trail_4 (by decide) (fun h4 => ?_) (fun h4 => ?_)
    · cases h4
    · refine r_iconst (v := -1) dX9_trail_7 (by decide) ?_
      refine r_iret dX9_trail_8 rfl (Nat.le_of_ble_eq_true rfl) (Nat.le_of_ble_eq_true rfl) ?_
      refine ⟨rfl, rfl, ?_⟩
      have e : sp_trail σ s i = (-1, σ) := by unfold sp_trail; rw [if_pos hb]
      rw [e]
      exact PC.same hC
  | true =>
    obtain ⟨k, hk, rfl⟩ := st_ex hb
    have hkk : sk (nI k) = k := sk_nI (by omega)
    obtain ⟨s1, s2⟩ := n5 k hk
    obtain ⟨t0, ⟨t1, t2⟩, ⟨t3, t4⟩, ⟨t5, t6⟩, ⟨t7, t8⟩, ⟨t9, t10⟩, ⟨t11, t12⟩, ⟨t13, t14⟩, ⟨t15, t16⟩⟩ := id s2
    have hSt := (c3.2 k hk).2
    have hOk := hok.2.1.1.1 k hk
    have hHL := hok.2.1.2.1 k hk
    have htl : (σ.2.1.1 k).2.1 1 < 2 ^ 31 := by have := hOk.2.1 1 (by omega); have := hok.2.1.2.2; omega
    cases hl : (stA σ k).2.2.2.2 with
    | none =>
      have e : sp_trail σ (nI k) i = (-3, σ) := by unfold sp_trail; rw [if_neg (by rw [hb]; decide), hkk, hl]
      rw [e]
      refine r_iload_n 1 dX9_trail_0 rfl rfl ?_
      refine r_callSp [_] dX9_trail_1 ok_RX9_63 isX9_isStation rfl rfl (Nat.le_of_ble_eq_true rfl) (by refine ⟨?_, ?_, ?_, ?_⟩ <;> exact Nat.le_of_ble_eq_true rfl) (c_isSt _) ?_
      rw [hb]
      refine r_ifB_ne 9 dX9_trail_4 (by decide) (fun h4 => ?_) (fun h4 => ?_)
      · refine r_aload_n 0 dX9_trail_9 rfl rfl ?_
        refine r_getR dX9_trail_10 fl_RX9_19 rfl (by assumption) (by assumption) ?_
        refine r_getR dX9_trail_13 fl_RX9_71 rfl (by assumption) (by assumption) ?_
        refine r_iload_n 1 dX9_trail_16 rfl rfl ?_
        refine r_aald dX9_trail_17 (by assumption) (by decide) (by intro _; rfl) (by omega) (by omega) (by assumption) ?_
        refine r_astore_n 3 (ls2 := [_, _, _, _]) dX9_trail_18 rfl (by decide) (Nat.le_of_ble_eq_true rfl) rfl ?_
        refine r_aload_n 3 dX9_trail_19 rfl rfl ?_
        refine r_callVp [] dX9_trail_20 ok_RX9_152 ivX6_hasHeard (by assumption) ⟨_, _, rfl⟩ rfl rfl (Nat.le_of_ble_eq_true rfl) (by refine ⟨?_, ?_, ?_, ?_⟩ <;> exact Nat.le_of_ble_eq_true rfl) (c_hasHeard s2 hSt.2.1 htl) ?_
        rw [HLn hHL hl]
        refine r_ifB_ne 29 dX9_trail_23 (by decide) (fun h23 => ?_) (fun h23 => ?_)
        · cases h23
        · refine r_bipush (v := -3) dX9_trail_26 (by decide) ?_
          refine r_iret dX9_trail_28 rfl (Nat.le_of_ble_eq_true rfl) (Nat.le_of_ble_eq_true rfl) ?_
          exact ⟨rfl, rfl, PC.same hC⟩
      · cases h4
    | some q =>
      obtain ⟨p, t⟩ := q
      obtain ⟨hP, hT⟩ := hSt.2.2.2.2.2 p t hl
      obtain ⟨hpk, htn⟩ := hOk.2.2.2.2 p t hl
      have u0 := t12.1
      have hp1 := hP.1
      have h8 := hpk.2.2.1
      have hpl := c_placeOfSpent (z := z) t12 hP hpk i
      have hsp : ∀ r, sp_trail σ (nI k) i = (r, σ) → PC z sh mi mr x (sp_trail σ (nI k) i) (some (.int r)) mi mr := fun r e => by rw [e]; exact PC.same hC
      have hbase : sp_trail σ (nI k) i = (if i = -1 then nI (p.2.2.countP (fun w => w.2.2)) else match spF p.2.2 i with | some j => (match p.2.2[j]? with | some u => cal σ u.1 | none => -6) | none => -6, σ) := by unfold sp_trail; rw [if_neg (by rw [hb]; decide), hkk, hl]; rfl
      by_cases hi : i = -1
      · skip
        refine r_iload_n 1 dX9_trail_0 rfl rfl ?_
        refine r_callSp [_] dX9_trail_1 ok_RX9_63 isX9_isStation rfl rfl (Nat.le_of_ble_eq_true rfl) (by refine ⟨?_, ?_, ?_, ?_⟩ <;> exact Nat.le_of_ble_eq_true rfl) (c_isSt _) ?_
        rw [hb]
        refine r_ifB_ne 9 dX9_trail_4 (by decide) (fun h4 => ?_) (fun h4 => ?_)
        · refine r_aload_n 0 dX9_trail_9 rfl rfl ?_
          refine r_getR dX9_trail_10 fl_RX9_19 rfl (by assumption) (by assumption) ?_
          refine r_getR dX9_trail_13 fl_RX9_71 rfl (by assumption) (by assumption) ?_
          refine r_iload_n 1 dX9_trail_16 rfl rfl ?_
          refine r_aald dX9_trail_17 (by assumption) (by decide) (by intro _; rfl) (by omega) (by omega) (by assumption) ?_
          refine r_astore_n 3 (ls2 := [_, _, _, _]) dX9_trail_18 rfl (by decide) (Nat.le_of_ble_eq_true rfl) rfl ?_
          refine r_aload_n 3 dX9_trail_19 rfl rfl ?_
          refine r_callVp [] dX9_trail_20 ok_RX9_152 ivX6_hasHeard (by assumption) ⟨_, _, rfl⟩ rfl rfl (Nat.le_of_ble_eq_true rfl) (by refine ⟨?_, ?_, ?_, ?_⟩ <;> exact Nat.le_of_ble_eq_true rfl) (c_hasHeard s2 hSt.2.1 htl) ?_
          rw [HLb hHL hl]
          refine r_ifB_ne 29 dX9_trail_23 (by decide) (fun h23 => ?_) (fun h23 => ?_)
          · refine r_iload_n 2 dX9_trail_29 rfl rfl ?_
            refine r_iconst (v := -1) dX9_trail_30 (by decide) ?_
            refine r_icmp_ne 42 dX9_trail_31 (by decide) (fun h31 => ?_) (fun h31 => ?_)
            · exact absurd hi h31
            · refine r_aload_n 3 dX9_trail_34 rfl rfl ?_
              refine r_getR dX9_trail_35 fl_RX9_156 rfl (by assumption) (by assumption) ?_
              refine r_callVp [] dX9_trail_38 ok_RX9_168 ivX4_spentWords (by assumption) ⟨_, _, rfl⟩ rfl rfl (Nat.le_of_ble_eq_true rfl) (by refine ⟨?_, ?_, ?_, ?_⟩ <;> exact Nat.le_of_ble_eq_true rfl) (c_spentWords t12 hP hpk) ?_
              refine r_iret dX9_trail_41 rfl (Nat.le_of_ble_eq_true rfl) (Nat.le_of_ble_eq_true rfl) ?_
              exact ⟨rfl, rfl, hsp _ (by rw [hbase, if_pos hi])⟩
          · cases h23
        · cases h4
      · skip
        cases hf : spF p.2.2 i with
        | none =>
          rw [hf] at hpl
          refine r_iload_n 1 dX9_trail_0 rfl rfl ?_
          refine r_callSp [_] dX9_trail_1 ok_RX9_63 isX9_isStation rfl rfl (Nat.le_of_ble_eq_true rfl) (by refine ⟨?_, ?_, ?_, ?_⟩ <;> exact Nat.le_of_ble_eq_true rfl) (c_isSt _) ?_
          rw [hb]
          refine r_ifB_ne 9 dX9_trail_4 (by decide) (fun h4 => ?_) (fun h4 => ?_)
          · refine r_aload_n 0 dX9_trail_9 rfl rfl ?_
            refine r_getR dX9_trail_10 fl_RX9_19 rfl (by assumption) (by assumption) ?_
            refine r_getR dX9_trail_13 fl_RX9_71 rfl (by assumption) (by assumption) ?_
            refine r_iload_n 1 dX9_trail_16 rfl rfl ?_
            refine r_aald dX9_trail_17 (by assumption) (by decide) (by intro _; rfl) (by omega) (by omega) (by assumption) ?_
            refine r_astore_n 3 (ls2 := [_, _, _, _]) dX9_trail_18 rfl (by decide) (Nat.le_of_ble_eq_true rfl) rfl ?_
            refine r_aload_n 3 dX9_trail_19 rfl rfl ?_
            refine r_callVp [] dX9_trail_20 ok_RX9_152 ivX6_hasHeard (by assumption) ⟨_, _, rfl⟩ rfl rfl (Nat.le_of_ble_eq_true rfl) (by refine ⟨?_, ?_, ?_, ?_⟩ <;> exact Nat.le_of_ble_eq_true rfl) (c_hasHeard s2 hSt.2.1 htl) ?_
            rw [HLb hHL hl]
            refine r_ifB_ne 29 dX9_trail_23 (by decide) (fun h23 => ?_) (fun h23 => ?_)
            · refine r_iload_n 2 dX9_trail_29 rfl rfl ?_
              refine r_iconst (v := -1) dX9_trail_30 (by decide) ?_
              refine r_icmp_ne 42 dX9_trail_31 (by decide) (fun h31 => ?_) (fun h31 => ?_)
              · refine r_aload_n 3 dX9_trail_42 rfl rfl ?_
                refine r_getR dX9_trail_43 fl_RX9_156 rfl (by assumption) (by assumption) ?_
                refine r_iload_n 2 dX9_trail_46 rfl rfl ?_
                refine r_callVp [_] dX9_trail_47 ok_RX9_180 ivX4_placeOfSpent (by assumption) ⟨_, _, rfl⟩ rfl rfl (Nat.le_of_ble_eq_true rfl) (by refine ⟨?_, ?_, ?_, ?_⟩ <;> exact Nat.le_of_ble_eq_true rfl) (hpl) ?_
                refine r_istore 4 (ls2 := [_, _, _, _, _]) dX9_trail_50 (by decide) (Nat.le_of_ble_eq_true rfl) rfl ?_
                refine r_iload 4 dX9_trail_52 rfl ?_
                refine r_bipush (v := -6) dX9_trail_54 (by decide) ?_
                refine r_icmp_ne 64 dX9_trail_56 (by decide) (fun h56 => ?_) (fun h56 => ?_)
                · exact absurd rfl h56
                · refine r_bipush (v := -6) dX9_trail_59 (by decide) ?_
                  refine r_goto 80 dX9_trail_61 (by decide) ?_
                  refine r_iret dX9_trail_80 rfl (Nat.le_of_ble_eq_true rfl) (Nat.le_of_ble_eq_true rfl) ?_
                  exact ⟨rfl, rfl, hsp _ (by rw [hbase, if_neg hi, hf])⟩
              · exact absurd h31 hi
            · cases h23
          · cases h4
        | some j =>
          rw [hf] at hpl
          have hjl : j < p.2.2.length := by
            have := List.mem_of_find?_eq_some hf
            exact List.mem_range.mp this
          obtain ⟨u, hu2⟩ := gl_ex hjl
          have huk := hpk.2.2.2 u (gl_mem hu2)
          have hvl := wc_lt huk
          refine r_iload_n 1 dX9_trail_0 rfl rfl ?_
          refine r_callSp [_] dX9_trail_1 ok_RX9_63 isX9_isStation rfl rfl (Nat.le_of_ble_eq_true rfl) (by refine ⟨?_, ?_, ?_, ?_⟩ <;> exact Nat.le_of_ble_eq_true rfl) (c_isSt _) ?_
          rw [hb]
          refine r_ifB_ne 9 dX9_trail_4 (by decide) (fun h4 => ?_) (fun h4 => ?_)
          · refine r_aload_n 0 dX9_trail_9 rfl rfl ?_
            refine r_getR dX9_trail_10 fl_RX9_19 rfl (by assumption) (by assumption) ?_
            refine r_getR dX9_trail_13 fl_RX9_71 rfl (by assumption) (by assumption) ?_
            refine r_iload_n 1 dX9_trail_16 rfl rfl ?_
            refine r_aald dX9_trail_17 (by assumption) (by decide) (by intro _; rfl) (by omega) (by omega) (by assumption) ?_
            refine r_astore_n 3 (ls2 := [_, _, _, _]) dX9_trail_18 rfl (by decide) (Nat.le_of_ble_eq_true rfl) rfl ?_
            refine r_aload_n 3 dX9_trail_19 rfl rfl ?_
            refine r_callVp [] dX9_trail_20 ok_RX9_152 ivX6_hasHeard (by assumption) ⟨_, _, rfl⟩ rfl rfl (Nat.le_of_ble_eq_true rfl) (by refine ⟨?_, ?_, ?_, ?_⟩ <;> exact Nat.le_of_ble_eq_true rfl) (c_hasHeard s2 hSt.2.1 htl) ?_
            rw [HLb hHL hl]
            refine r_ifB_ne 29 dX9_trail_23 (by decide) (fun h23 => ?_) (fun h23 => ?_)
            · refine r_iload_n 2 dX9_trail_29 rfl rfl ?_
              refine r_iconst (v := -1) dX9_trail_30 (by decide) ?_
              refine r_icmp_ne 42 dX9_trail_31 (by decide) (fun h31 => ?_) (fun h31 => ?_)
              · refine r_aload_n 3 dX9_trail_42 rfl rfl ?_
                refine r_getR dX9_trail_43 fl_RX9_156 rfl (by assumption) (by assumption) ?_
                refine r_iload_n 2 dX9_trail_46 rfl rfl ?_
                refine r_callVp [_] dX9_trail_47 ok_RX9_180 ivX4_placeOfSpent (by assumption) ⟨_, _, rfl⟩ rfl rfl (Nat.le_of_ble_eq_true rfl) (by refine ⟨?_, ?_, ?_, ?_⟩ <;> exact Nat.le_of_ble_eq_true rfl) (hpl) ?_
                refine r_istore 4 (ls2 := [_, _, _, _, _]) dX9_trail_50 (by decide) (Nat.le_of_ble_eq_true rfl) rfl ?_
                refine r_iload 4 dX9_trail_52 rfl ?_
                refine r_bipush (v := -6) dX9_trail_54 (by decide) ?_
                refine r_icmp_ne 64 dX9_trail_56 (by decide) (fun h56 => ?_) (fun h56 => ?_)
                · refine r_aload_n 0 dX9_trail_64 rfl rfl ?_
                  refine r_getR dX9_trail_65 fl_RX9_19 rfl (by assumption) (by assumption) ?_
                  refine r_aload_n 3 dX9_trail_68 rfl rfl ?_
                  refine r_getR dX9_trail_69 fl_RX9_156 rfl (by assumption) (by assumption) ?_
                  refine r_iload 4 dX9_trail_72 rfl ?_
                  refine r_callVp [_] dX9_trail_74 ok_RX9_183 ivX4_nameAt (by assumption) ⟨_, _, rfl⟩ rfl rfl (Nat.le_of_ble_eq_true rfl) (by refine ⟨?_, ?_, ?_, ?_⟩ <;> exact Nat.le_of_ble_eq_true rfl) (c_nameAt t12 hp1 h8 hjl (hP.2.2.2 _ u hu2) (by omega)) ?_
                  rw [wc_div16 huk.2]
                  refine r_callVp [_] dX9_trail_77 ok_RX9_75 ivX3_stationCalled (by assumption) ⟨_, _, rfl⟩ rfl rfl (Nat.le_of_ble_eq_true rfl) (by refine ⟨?_, ?_, ?_, ?_⟩ <;> exact Nat.le_of_ble_eq_true rfl) (c_called l4 c3 (fun s hs => (hok.2.1.1.1 s hs).1.1) huk.1) ?_
                  refine r_iret dX9_trail_80 rfl (Nat.le_of_ble_eq_true rfl) (Nat.le_of_ble_eq_true rfl) ?_
                  refine ⟨rfl, rfl, hsp _ ?_⟩
                  rw [hbase, if_neg hi, hf]
                  simp only
                  rw [hu2]
                  rfl
                · exact absurd h56 (nI_ne6 (by omega))
              · exact absurd h31 hi
            · cases h23
          · cases h4
theorem neg1 {i : Int32} (h : ¬ i < -1) (h2 : ¬ i = -1) : ¬ i < 0 := fun q => h2 (by
  have q2 := Int32.not_lt.mp h
  rw [Int32.lt_iff_toInt_lt] at q
  rw [Int32.le_iff_toInt_le] at q2
  have e1 : (-1 : Int32).toInt = -1 := by decide
  have e0 : (0 : Int32).toInt = 0 := by decide
  apply Int32.toInt_inj.mp
  omega)
theorem k_written {σ : Al} {N : Nat} (hC : CR z sh mi mr x σ) (hok : okA σ N) (hN : N < 2 ^ 27) (s i : Int32) : Mm mX9_written 4 [.ref x, .int s, .int i] z sh mi mr (PC z sh mi mr x (sp_written σ s i)) := by
  obtain ⟨hLL, c2, c3, c4, c5, c6⟩ := id hC
  obtain ⟨l0, ⟨l1, l2⟩, ⟨l3, l4⟩, ⟨l5, l6⟩, ⟨l7, l8⟩, ⟨l9, l10⟩, ⟨l11, l12⟩⟩ := id hLL
  have pd0 := l2.1
  have pd1 := c2.1
  have h40 := hok.1.1
  have hnt := okNt_len hok.2.1.1
  obtain ⟨n0, n1, n2, n3, n4, n5⟩ := id l4
  refine Mv.of pnX9_written (Nat.le_of_ble_eq_true rfl) rfl ?_
  cases hb : stB s with
  | false =>
    refine r_iload_n 1 dX9_written_0 rfl rfl ?_
    refine r_callSp [_] dX9_written_1 ok_RX9_63 isX9_isStation rfl rfl (Nat.le_of_ble_eq_true rfl) (by refine ⟨?_, ?_, ?_, ?_⟩ <;> exact Nat.le_of_ble_eq_true rfl) (c_isSt _) ?_
    rw [hb]
    refine r_ifB_ne 9 dX9_written_4 (by decide) (fun h4 => ?_) (fun h4 => ?_)
    · cases h4
    · refine r_iconst (v := -1) dX9_written_7 (by decide) ?_
      refine r_iret dX9_written_8 rfl (Nat.le_of_ble_eq_true rfl) (Nat.le_of_ble_eq_true rfl) ?_
      refine ⟨rfl, rfl, ?_⟩
      have e : sp_written σ s i = (-1, σ) := by unfold sp_written; rw [if_pos hb]
      rw [e]
      exact PC.same hC
  | true =>
    obtain ⟨k, hk, rfl⟩ := st_ex hb
    have hkk : sk (nI k) = k := sk_nI (by omega)
    obtain ⟨s1, s2⟩ := n5 k hk
    obtain ⟨t0, ⟨t1, t2⟩, ⟨t3, t4⟩, ⟨t5, t6⟩, ⟨t7, t8⟩, ⟨t9, t10⟩, ⟨t11, t12⟩, ⟨t13, t14⟩, ⟨t15, t16⟩⟩ := id s2
    have hSt := (c3.2 k hk).2
    have hOk := hok.2.1.1.1 k hk
    have hHL := hok.2.1.2.1 k hk
    have htl : (σ.2.1.1 k).2.1 1 < 2 ^ 31 := by have := hOk.2.1 1 (by omega); have := hok.2.1.2.2; omega
    by_cases hi : i < -1
    · have e : sp_written σ (nI k) i = (-2, σ) := by unfold sp_written; rw [if_neg (by rw [hb]; decide), if_pos hi]
      rw [e]
      refine r_iload_n 1 dX9_written_0 rfl rfl ?_
      refine r_callSp [_] dX9_written_1 ok_RX9_63 isX9_isStation rfl rfl (Nat.le_of_ble_eq_true rfl) (by refine ⟨?_, ?_, ?_, ?_⟩ <;> exact Nat.le_of_ble_eq_true rfl) (c_isSt _) ?_
      rw [hb]
      refine r_ifB_ne 9 dX9_written_4 (by decide) (fun h4 => ?_) (fun h4 => ?_)
      · refine r_iload_n 2 dX9_written_9 rfl rfl ?_
        refine r_iconst (v := -1) dX9_written_10 (by decide) ?_
        refine r_icmp_ge 17 dX9_written_11 (by decide) (fun h11 => ?_) (fun h11 => ?_)
        · exact absurd h11 (Int32.not_le.mpr hi)
        · refine r_bipush (v := -2) dX9_written_14 (by decide) ?_
          refine r_iret dX9_written_16 rfl (Nat.le_of_ble_eq_true rfl) (Nat.le_of_ble_eq_true rfl) ?_
          exact ⟨rfl, rfl, PC.same hC⟩
      · cases h4
    · skip
      cases hl : (stA σ k).2.2.2.2 with
      | none =>
        have e : sp_written σ (nI k) i = (-3, σ) := by unfold sp_written; rw [if_neg (by rw [hb]; decide), if_neg hi, hkk, hl]
        rw [e]
        refine r_iload_n 1 dX9_written_0 rfl rfl ?_
        refine r_callSp [_] dX9_written_1 ok_RX9_63 isX9_isStation rfl rfl (Nat.le_of_ble_eq_true rfl) (by refine ⟨?_, ?_, ?_, ?_⟩ <;> exact Nat.le_of_ble_eq_true rfl) (c_isSt _) ?_
        rw [hb]
        refine r_ifB_ne 9 dX9_written_4 (by decide) (fun h4 => ?_) (fun h4 => ?_)
        · refine r_iload_n 2 dX9_written_9 rfl rfl ?_
          refine r_iconst (v := -1) dX9_written_10 (by decide) ?_
          refine r_icmp_ge 17 dX9_written_11 (by decide) (fun h11 => ?_) (fun h11 => ?_)
          · refine r_aload_n 0 dX9_written_17 rfl rfl ?_
            refine r_getR dX9_written_18 fl_RX9_19 rfl (by assumption) (by assumption) ?_
            refine r_getR dX9_written_21 fl_RX9_71 rfl (by assumption) (by assumption) ?_
            refine r_iload_n 1 dX9_written_24 rfl rfl ?_
            refine r_aald dX9_written_25 (by assumption) (by decide) (by intro _; rfl) (by omega) (by omega) (by assumption) ?_
            refine r_astore_n 3 (ls2 := [_, _, _, _]) dX9_written_26 rfl (by decide) (Nat.le_of_ble_eq_true rfl) rfl ?_
            refine r_aload_n 3 dX9_written_27 rfl rfl ?_
            refine r_callVp [] dX9_written_28 ok_RX9_152 ivX6_hasHeard (by assumption) ⟨_, _, rfl⟩ rfl rfl (Nat.le_of_ble_eq_true rfl) (by refine ⟨?_, ?_, ?_, ?_⟩ <;> exact Nat.le_of_ble_eq_true rfl) (c_hasHeard s2 hSt.2.1 htl) ?_
            rw [HLn hHL hl]
            refine r_ifB_ne 37 dX9_written_31 (by decide) (fun h31 => ?_) (fun h31 => ?_)
            · cases h31
            · refine r_bipush (v := -3) dX9_written_34 (by decide) ?_
              refine r_iret dX9_written_36 rfl (Nat.le_of_ble_eq_true rfl) (Nat.le_of_ble_eq_true rfl) ?_
              exact ⟨rfl, rfl, PC.same hC⟩
          · exact absurd (Int32.not_lt.mp hi) h11
        · cases h4
      | some q =>
        obtain ⟨p, t⟩ := q
        obtain ⟨hP, hT⟩ := hSt.2.2.2.2.2 p t hl
        obtain ⟨hpk, htn⟩ := hOk.2.2.2.2 p t hl
        have u0 := l12.1
        have h64 := wrP_len hpk
        have hbase : sp_written σ (nI k) i = (if i = -1 then nI (wrP p).length else match (wrP p)[sk i]? with | some x => nI x | none => -6, σ) := by unfold sp_written; rw [if_neg (by rw [hb]; decide), if_neg hi, hkk, hl]; rfl
        refine r_iload_n 1 dX9_written_0 rfl rfl ?_
        refine r_callSp [_] dX9_written_1 ok_RX9_63 isX9_isStation rfl rfl (Nat.le_of_ble_eq_true rfl) (by refine ⟨?_, ?_, ?_, ?_⟩ <;> exact Nat.le_of_ble_eq_true rfl) (c_isSt _) ?_
        rw [hb]
        refine r_ifB_ne 9 dX9_written_4 (by decide) (fun h4 => ?_) (fun h4 => ?_)
        · refine r_iload_n 2 dX9_written_9 rfl rfl ?_
          refine r_iconst (v := -1) dX9_written_10 (by decide) ?_
          refine r_icmp_ge 17 dX9_written_11 (by decide) (fun h11 => ?_) (fun h11 => ?_)
          · refine r_aload_n 0 dX9_written_17 rfl rfl ?_
            refine r_getR dX9_written_18 fl_RX9_19 rfl (by assumption) (by assumption) ?_
            refine r_getR dX9_written_21 fl_RX9_71 rfl (by assumption) (by assumption) ?_
            refine r_iload_n 1 dX9_written_24 rfl rfl ?_
            refine r_aald dX9_written_25 (by assumption) (by decide) (by intro _; rfl) (by omega) (by omega) (by assumption) ?_
            refine r_astore_n 3 (ls2 := [_, _, _, _]) dX9_written_26 rfl (by decide) (Nat.le_of_ble_eq_true rfl) rfl ?_
            refine r_aload_n 3 dX9_written_27 rfl rfl ?_
            refine r_callVp [] dX9_written_28 ok_RX9_152 ivX6_hasHeard (by assumption) ⟨_, _, rfl⟩ rfl rfl (Nat.le_of_ble_eq_true rfl) (by refine ⟨?_, ?_, ?_, ?_⟩ <;> exact Nat.le_of_ble_eq_true rfl) (c_hasHeard s2 hSt.2.1 htl) ?_
            rw [HLb hHL hl]
            refine r_ifB_ne 37 dX9_written_31 (by decide) (fun h31 => ?_) (fun h31 => ?_)
            · refine r_aload_n 0 dX9_written_37 rfl rfl ?_
              refine r_getR dX9_written_38 fl_RX9_44 rfl (by assumption) (by assumption) ?_
              refine r_aload_n 3 dX9_written_41 rfl rfl ?_
              refine r_getR dX9_written_42 fl_RX9_156 rfl (by assumption) (by assumption) ?_
              refine r_callVw [_] dX9_written_45 ok_RX9_159 ivX8_write (by assumption) ⟨_, _, rfl⟩ rfl rfl (Nat.le_of_ble_eq_true rfl) (by refine ⟨?_, ?_, ?_, ?_⟩ <;> exact Nat.le_of_ble_eq_true rfl) (c_write l12 t12 (by omega) hP hpk) ?_
              intro m ⟨g1, g2⟩
              have hw1 := g1.1
              have hCm : CR z sh m mr x σ := hC.keep hok MrOk.rf (fun q hq => Or.inl ⟨g2 q (by omega), rfl⟩) (by rw [g2 (x + 1) (by omega)])
              have hsp : ∀ r, sp_written σ (nI k) i = (r, σ) → PC z sh mi mr x (sp_written σ (nI k) i) (some (.int r)) m mr := fun r e => by rw [e]; exact ⟨rfl, hCm, fun q q1 q2 => ⟨g2 q (by omega), rfl⟩⟩
              refine r_iload_n 2 dX9_written_48 rfl rfl ?_
              refine r_iconst (v := -1) dX9_written_49 (by decide) ?_
              refine r_icmp_ne 63 dX9_written_50 (by decide) (fun h50 => ?_) (fun h50 => ?_)
              · refine r_aload_n 0 dX9_written_63 rfl rfl ?_
                refine r_getR dX9_written_64 fl_RX9_44 rfl (by assumption) (by assumption) ?_
                refine r_iload_n 2 dX9_written_67 rfl rfl ?_
                refine r_callVp [_] dX9_written_68 ok_RX9_164 ivX8_signAt (by assumption) ⟨_, _, rfl⟩ rfl rfl (Nat.le_of_ble_eq_true rfl) (by refine ⟨?_, ?_, ?_, ?_⟩ <;> exact Nat.le_of_ble_eq_true rfl) (c_signAt l12 g1 h64 i) ?_
                refine r_iret dX9_written_71 rfl (Nat.le_of_ble_eq_true rfl) (Nat.le_of_ble_eq_true rfl) ?_
                first | exact ⟨rfl, rfl, hsp _ (by rw [hbase, if_pos h50])⟩ | (refine ⟨rfl, rfl, hsp _ ?_⟩; rw [hbase, if_neg h50, if_neg (neg1 hi h50)]; rfl)
              · refine r_aload_n 0 dX9_written_53 rfl rfl ?_
                refine r_getR dX9_written_54 fl_RX9_44 rfl (by assumption) (by assumption) ?_
                refine r_getV dX9_written_57 fl_RX9_163 rfl (by assumption) (by first | assumption | exact up2_same _ _ _ _ | exact (Eq.trans (up2_ne _ _ (by omega)) (by first | assumption | exact up2_same _ _ _ _)) | exact (Eq.trans (up2_ne _ _ (by omega)) (Eq.trans (up2_ne _ _ (by omega)) (by first | assumption | exact up2_same _ _ _ _))) | exact (Eq.trans (up2_ne _ _ (by omega)) (Eq.trans (up2_ne _ _ (by omega)) (Eq.trans (up2_ne _ _ (by omega)) (by first | assumption | exact up2_same _ _ _ _)))) | exact (Eq.trans (up2_ne _ _ (by omega)) (Eq.trans (up2_ne _ _ (by omega)) (Eq.trans (up2_ne _ _ (by omega)) (Eq.trans (up2_ne _ _ (by omega)) (by first | assumption | exact up2_same _ _ _ _))))) | rfl) ?_
                refine r_goto 71 dX9_written_60 (by decide) ?_
                refine r_iret dX9_written_71 rfl (Nat.le_of_ble_eq_true rfl) (Nat.le_of_ble_eq_true rfl) ?_
                first | exact ⟨rfl, rfl, hsp _ (by rw [hbase, if_pos h50])⟩ | (refine ⟨rfl, rfl, hsp _ ?_⟩; rw [hbase, if_neg h50, if_neg (neg1 hi h50)]; rfl)
            · cases h31
          · exact absurd (Int32.not_lt.mp hi) h11
        · cases h4
theorem r_aaldN {y : MethodName} {cc : ByteArray} {nL : Nat} {ret : Option FieldType} {E : ET} {kc ks pc : Nat} {ls st : List Value} {a κ n j : Nat} {Cn : String} (d : decode cc pc = .ok (.aaload, 1)) (hs : sh a = (κ, n)) (hκ : 13 ≤ κ) (ht : ∀ AC : Nat → ClassId, (tyL AC)[κ - 11]? = some (AC (κ - 11), .object Cn)) (hj : j < n) (hn : n < 2 ^ 31) (hv : mr a j = none) (kk : Wp y cc nL ret E kc ks (pc + 1) ls (.null :: st) z sh mi mr) : Wp y cc nL ret E kc ks pc ls (.int (nI j) :: .ref a :: st) z sh mi mr := by
  refine r_aaldQ d hs hκ ht hj hn ?_
  rw [hv]; exact kk
theorem two_le {k : Int32} (h : nI 1 < k) : nI 2 ≤ k := by
  rw [Int32.le_iff_toInt_le, nI_toInt (by omega)]
  rw [Int32.lt_iff_toInt_lt, nI_toInt (by omega)] at h
  omega
theorem le_two {k : Int32} (h : nI 2 ≤ k) : nI 1 < k := by
  rw [Int32.lt_iff_toInt_lt, nI_toInt (by omega)]
  rw [Int32.le_iff_toInt_le, nI_toInt (by omega)] at h
  omega
theorem k_imk {σ : Al} {N : Nat} (hC : CR z sh mi mr x σ) (hok : okA σ N) : Mp mX9_imagesKept 0 [.ref x] z sh mi mr (nI (bn (σ.2.2 0).isSome + 2 * bn (σ.2.2 1).isSome)) := by
  obtain ⟨hLL, c2, c3, c4, c5, c6⟩ := id hC
  obtain ⟨l0, ⟨l1, l2⟩, ⟨l3, l4⟩, ⟨l5, l6⟩, ⟨l7, l8⟩, ⟨l9, l10⟩, ⟨l11, l12⟩⟩ := id hLL
  have pd0 := l2.1
  have pd1 := c2.1
  have h40 := hok.1.1
  have hnt := okNt_len hok.2.1.1
  obtain ⟨n0, n1, n2, n3, n4, n5⟩ := id l4
  have S : ∀ k v v' : Nat, k < 2 → v' = (if (σ.2.2 k).isSome = true then v ||| 1 * 2 ^ k else v) → (Wp yX9_imagesKept cX9_imagesKept 3 (some .int) (EP 0 z sh mr mi (nI (bn (σ.2.2 0).isSome + 2 * bn (σ.2.2 1).isSome))) 0 0 24 [.ref x, .int (nI v'), .int (nI k)] [] z sh mi mr) → Wp yX9_imagesKept cX9_imagesKept 3 (some .int) (EP 0 z sh mr mi (nI (bn (σ.2.2 0).isSome + 2 * bn (σ.2.2 1).isSome))) 0 0 4 [.ref x, .int (nI v), .int (nI k)] [] z sh mi mr := by
    intro k v v' hk hv' hW
    subst hv'
    have h2 : 1 * 2 ^ k < 2 ^ 32 := by have := Nat.pow_lt_pow_right (a := 2) (by omega) (show k < 32 by omega); omega
    have hI := c5 k hk
    unfold ImC at hI
    cases ho : σ.2.2 k with
    | none =>
      rw [ho] at hI hW
      simp only at hI
      refine r_iload_n 2 dX9_imagesKept_4 rfl rfl ?_
      refine r_iconst (v := nI 2) dX9_imagesKept_5 (by decide) ?_
      refine r_icmpN_ge 30 dX9_imagesKept_6 (by decide) (by omega) (by omega) (fun h6 => ?_) (fun h6 => ?_)
      · omega
      · refine r_aload_n 0 dX9_imagesKept_9 rfl rfl ?_
        refine r_getR dX9_imagesKept_10 fl_RX9_30 rfl (by assumption) (by assumption) ?_
        refine r_iload_n 2 dX9_imagesKept_13 rfl rfl ?_
        refine r_aaldN dX9_imagesKept_14 (by assumption) (by decide) (by intro _; rfl) (by omega) (by omega) hI ?_
        refine r_ifnullN 24 dX9_imagesKept_15 (by decide) ?_
        exact hW
    | some n =>
      rw [ho] at hI hW
      obtain ⟨y, y1, -⟩ := hI
      have K18 : Wp yX9_imagesKept cX9_imagesKept 3 (some .int) (EP 0 z sh mr mi (nI (bn (σ.2.2 0).isSome + 2 * bn (σ.2.2 1).isSome))) 0 0 18 [.ref x, .int (nI v), .int (nI k)] [] z sh mi mr := by
        refine r_iload_n 1 dX9_imagesKept_18 rfl rfl ?_
        refine r_iconst (v := nI 1) dX9_imagesKept_19 (by decide) ?_
        refine r_iload_n 2 dX9_imagesKept_20 rfl rfl ?_
        refine r_ishlN dX9_imagesKept_21 (by omega) (by omega) ?_
        refine r_iorN dX9_imagesKept_22 ?_
        refine r_istore_n 1 (ls2 := [_, _, _]) dX9_imagesKept_23 rfl (by decide) (Nat.le_of_ble_eq_true rfl) rfl ?_
        exact hW
      refine r_iload_n 2 dX9_imagesKept_4 rfl rfl ?_
      refine r_iconst (v := nI 2) dX9_imagesKept_5 (by decide) ?_
      refine r_icmpN_ge 30 dX9_imagesKept_6 (by decide) (by omega) (by omega) (fun h6 => ?_) (fun h6 => ?_)
      · omega
      · refine r_aload_n 0 dX9_imagesKept_9 rfl rfl ?_
        refine r_getR dX9_imagesKept_10 fl_RX9_30 rfl (by assumption) (by assumption) ?_
        refine r_iload_n 2 dX9_imagesKept_13 rfl rfl ?_
        refine r_aald dX9_imagesKept_14 (by assumption) (by decide) (by intro _; rfl) (by omega) (by omega) y1 ?_
        refine r_ifnullR dX9_imagesKept_15 ?_
        exact K18
  refine Mv.of pnX9_imagesKept (Nat.le_of_ble_eq_true rfl) rfl ?_
  refine r_iconst (v := nI 0) dX9_imagesKept_0 (by decide) ?_
  refine r_istore_n 1 (ls2 := [_, _]) dX9_imagesKept_1 rfl (by decide) (Nat.le_of_ble_eq_true rfl) rfl ?_
  refine r_iconst (v := nI 0) dX9_imagesKept_2 (by decide) ?_
  refine r_istore_n 2 (ls2 := [_, _, _]) dX9_imagesKept_3 rfl (by decide) (Nat.le_of_ble_eq_true rfl) rfl ?_
  refine S 0 0 _ (by omega) rfl ?_
  have K2 : ∀ v', v' = bn (σ.2.2 0).isSome + 2 * bn (σ.2.2 1).isSome → Wp yX9_imagesKept cX9_imagesKept 3 (some .int) (EP 0 z sh mr mi (nI (bn (σ.2.2 0).isSome + 2 * bn (σ.2.2 1).isSome))) 0 0 24 [.ref x, .int (nI v'), .int (nI 1)] [] z sh mi mr := by
    intro v' hv'
    subst hv'
    refine r_iincN 2 (b := 1) (ls2 := [_, _, _]) dX9_imagesKept_24 rfl (by decide) (by decide) rfl ?_
    refine r_goto 4 dX9_imagesKept_27 (by decide) ?_
    refine r_iload_n 2 dX9_imagesKept_4 rfl rfl ?_
    refine r_iconst (v := nI 2) dX9_imagesKept_5 (by decide) ?_
    refine r_icmpN_ge 30 dX9_imagesKept_6 (by decide) (by omega) (by omega) (fun h6 => ?_) (fun h6 => ?_)
    · refine r_iload_n 1 dX9_imagesKept_30 rfl rfl ?_
      refine r_iret dX9_imagesKept_31 rfl (Nat.le_of_ble_eq_true rfl) (Nat.le_of_ble_eq_true rfl) ?_
      exact ⟨rfl, rfl, rfl, rfl, rfl⟩
    · omega
  refine r_iincN 2 (b := 1) (ls2 := [_, _, _]) dX9_imagesKept_24 rfl (by decide) (by decide) rfl ?_
  refine r_goto 4 dX9_imagesKept_27 (by decide) ?_
  refine S 1 _ _ (by omega) rfl ?_
  exact K2 _ (by cases (σ.2.2 0).isSome <;> cases (σ.2.2 1).isSome <;> rfl)
theorem k_count {σ : Al} {N : Nat} (hC : CR z sh mi mr x σ) (hok : okA σ N) (w : Int32) : Mm mX9_count 2 [.ref x, .int w] z sh mi mr (PC z sh mi mr x (sp_count σ w)) := by
  obtain ⟨hLL, c2, c3, c4, c5, c6⟩ := id hC
  obtain ⟨l0, ⟨l1, l2⟩, ⟨l3, l4⟩, ⟨l5, l6⟩, ⟨l7, l8⟩, ⟨l9, l10⟩, ⟨l11, l12⟩⟩ := id hLL
  have pd0 := l2.1
  have pd1 := c2.1
  have h40 := hok.1.1
  have hnt := okNt_len hok.2.1.1
  obtain ⟨n0, n1, n2, n3, n4, n5⟩ := id l4
  have hnw := c3.1
  refine Mv.of pnX9_count (Nat.le_of_ble_eq_true rfl) rfl ?_
  refine r_iload_n 1 dX9_count_0 rfl rfl ?_
  have hsp : ∀ r, sp_count σ w = (r, σ) → PC z sh mi mr x (sp_count σ w) (some (.int r)) mi mr := fun r e => by rw [e]; exact PC.same hC
  by_cases hw : inB w (nI 0) (nI 6) = true
  · obtain ⟨j, j1, j2, rfl⟩ := inB_ex (by omega) hw (by omega)
    rcases (show j = 0 ∨ j = 1 ∨ j = 2 ∨ j = 3 ∨ j = 4 ∨ j = 5 ∨ j = 6 by omega) with rfl | rfl | rfl | rfl | rfl | rfl | rfl
    · refine r_tableIn 44 dX9_count_1 (by decide) (by decide) rfl (by decide) ?_
      refine r_aload_n 0 dX9_count_44 rfl rfl ?_
      refine r_getR dX9_count_45 fl_RX9_19 rfl (by assumption) (by assumption) ?_
      refine r_getV dX9_count_48 fl_RX9_129 rfl (by assumption) (by first | assumption | exact up2_same _ _ _ _ | exact (Eq.trans (up2_ne _ _ (by omega)) (by first | assumption | exact up2_same _ _ _ _)) | exact (Eq.trans (up2_ne _ _ (by omega)) (Eq.trans (up2_ne _ _ (by omega)) (by first | assumption | exact up2_same _ _ _ _))) | exact (Eq.trans (up2_ne _ _ (by omega)) (Eq.trans (up2_ne _ _ (by omega)) (Eq.trans (up2_ne _ _ (by omega)) (by first | assumption | exact up2_same _ _ _ _)))) | exact (Eq.trans (up2_ne _ _ (by omega)) (Eq.trans (up2_ne _ _ (by omega)) (Eq.trans (up2_ne _ _ (by omega)) (Eq.trans (up2_ne _ _ (by omega)) (by first | assumption | exact up2_same _ _ _ _))))) | rfl) ?_
      refine r_iret dX9_count_51 rfl (Nat.le_of_ble_eq_true rfl) (Nat.le_of_ble_eq_true rfl) ?_
      exact ⟨rfl, rfl, hsp _ (by unfold sp_count; rw [if_pos rfl])⟩
    · refine r_tableIn 52 dX9_count_1 (by decide) (by decide) rfl (by decide) ?_
      refine r_aload_n 0 dX9_count_52 rfl rfl ?_
      refine r_getR dX9_count_53 fl_RX9_10 rfl (by assumption) (by assumption) ?_
      refine r_getV dX9_count_56 fl_RX9_48 rfl (by assumption) (by first | assumption | exact up2_same _ _ _ _ | exact (Eq.trans (up2_ne _ _ (by omega)) (by first | assumption | exact up2_same _ _ _ _)) | exact (Eq.trans (up2_ne _ _ (by omega)) (Eq.trans (up2_ne _ _ (by omega)) (by first | assumption | exact up2_same _ _ _ _))) | exact (Eq.trans (up2_ne _ _ (by omega)) (Eq.trans (up2_ne _ _ (by omega)) (Eq.trans (up2_ne _ _ (by omega)) (by first | assumption | exact up2_same _ _ _ _)))) | exact (Eq.trans (up2_ne _ _ (by omega)) (Eq.trans (up2_ne _ _ (by omega)) (Eq.trans (up2_ne _ _ (by omega)) (Eq.trans (up2_ne _ _ (by omega)) (by first | assumption | exact up2_same _ _ _ _))))) | rfl) ?_
      refine r_iret dX9_count_59 rfl (Nat.le_of_ble_eq_true rfl) (Nat.le_of_ble_eq_true rfl) ?_
      exact ⟨rfl, rfl, hsp _ (by unfold sp_count; rw [if_neg (by decide), if_pos rfl])⟩
    · refine r_tableIn 60 dX9_count_1 (by decide) (by decide) rfl (by decide) ?_
      refine r_aload_n 0 dX9_count_60 rfl rfl ?_
      refine r_getR dX9_count_61 fl_RX9_19 rfl (by assumption) (by assumption) ?_
      refine r_callVp [] dX9_count_64 ok_RX9_139 ivX3_keptByAll (by assumption) ⟨_, _, rfl⟩ rfl rfl (Nat.le_of_ble_eq_true rfl) (by refine ⟨?_, ?_, ?_, ?_⟩ <;> exact Nat.le_of_ble_eq_true rfl) (c_keptByAll l4 c3 hnt) ?_
      refine r_iret dX9_count_67 rfl (Nat.le_of_ble_eq_true rfl) (Nat.le_of_ble_eq_true rfl) ?_
      exact ⟨rfl, rfl, hsp _ (by unfold sp_count; rw [if_neg (by decide), if_neg (by decide), if_pos rfl])⟩
    · refine r_tableIn 68 dX9_count_1 (by decide) (by decide) rfl (by decide) ?_
      refine r_aload_n 0 dX9_count_68 rfl rfl ?_
      refine r_getR dX9_count_69 fl_RX9_19 rfl (by assumption) (by assumption) ?_
      refine r_iconst (v := nI 0) dX9_count_72 (by decide) ?_
      refine r_callVp [_] dX9_count_73 ok_RX9_204 ivX3_tallyOfAll (by assumption) ⟨_, _, rfl⟩ rfl rfl (Nat.le_of_ble_eq_true rfl) (by refine ⟨?_, ?_, ?_, ?_⟩ <;> exact Nat.le_of_ble_eq_true rfl) (c_tally l4 c3 (by omega)) ?_
      refine r_iret dX9_count_76 rfl (Nat.le_of_ble_eq_true rfl) (Nat.le_of_ble_eq_true rfl) ?_
      exact ⟨rfl, rfl, hsp _ (by unfold sp_count; rw [if_neg (by decide), if_neg (by decide), if_neg (by decide), if_pos rfl]; rfl)⟩
    · refine r_tableIn 77 dX9_count_1 (by decide) (by decide) rfl (by decide) ?_
      refine r_aload_n 0 dX9_count_77 rfl rfl ?_
      refine r_getR dX9_count_78 fl_RX9_19 rfl (by assumption) (by assumption) ?_
      refine r_bipush (v := nI 7) dX9_count_81 (by decide) ?_
      refine r_callVp [_] dX9_count_83 ok_RX9_204 ivX3_tallyOfAll (by assumption) ⟨_, _, rfl⟩ rfl rfl (Nat.le_of_ble_eq_true rfl) (by refine ⟨?_, ?_, ?_, ?_⟩ <;> exact Nat.le_of_ble_eq_true rfl) (c_tally l4 c3 (by omega)) ?_
      refine r_iret dX9_count_86 rfl (Nat.le_of_ble_eq_true rfl) (Nat.le_of_ble_eq_true rfl) ?_
      exact ⟨rfl, rfl, hsp _ (by unfold sp_count; rw [if_neg (by decide), if_neg (by decide), if_neg (by decide), if_neg (by decide), if_pos rfl]; rfl)⟩
    · refine r_tableIn 87 dX9_count_1 (by decide) (by decide) rfl (by decide) ?_
      refine r_aload_n 0 dX9_count_87 rfl rfl ?_
      refine r_getR dX9_count_88 fl_RX9_19 rfl (by assumption) (by assumption) ?_
      refine r_callVp [] dX9_count_91 ok_RX9_216 ivX3_pairsNear (by assumption) ⟨_, _, rfl⟩ rfl rfl (Nat.le_of_ble_eq_true rfl) (by refine ⟨?_, ?_, ?_, ?_⟩ <;> exact Nat.le_of_ble_eq_true rfl) (c_pairs l4 c3) ?_
      refine r_iret dX9_count_94 rfl (Nat.le_of_ble_eq_true rfl) (Nat.le_of_ble_eq_true rfl) ?_
      exact ⟨rfl, rfl, hsp _ (by unfold sp_count; rw [if_neg (by decide), if_neg (by decide), if_neg (by decide), if_neg (by decide), if_neg (by decide), if_pos rfl])⟩
    · refine r_tableIn 95 dX9_count_1 (by decide) (by decide) rfl (by decide) ?_
      refine r_aload_n 0 dX9_count_95 rfl rfl ?_
      refine r_callVp [] dX9_count_96 ok_RX9_219 ivX9_imagesKept (by assumption) ⟨_, _, rfl⟩ rfl rfl (Nat.le_of_ble_eq_true rfl) (by refine ⟨?_, ?_, ?_, ?_⟩ <;> exact Nat.le_of_ble_eq_true rfl) (k_imk hC hok) ?_
      refine r_iret dX9_count_99 rfl (Nat.le_of_ble_eq_true rfl) (Nat.le_of_ble_eq_true rfl) ?_
      exact ⟨rfl, rfl, hsp _ (by unfold sp_count; rw [if_neg (by decide), if_neg (by decide), if_neg (by decide), if_neg (by decide), if_neg (by decide), if_neg (by decide), if_pos rfl])⟩
  · have hne : ∀ j, j ≤ 6 → w ≠ nI j := fun j hj e => hw (by rw [e]; exact inB_in (Nat.zero_le _) hj (by omega))
    have hto : w.toInt < 0 ∨ 6 < w.toInt := by
      refine Classical.byContradiction (fun h => hw ?_)
      refine inB_ok' (fun q => h (Or.inl ?_)) (fun q => h (Or.inr ?_))
      · rw [Int32.lt_iff_toInt_lt, nI_toInt (by omega)] at q; exact q
      · rw [Int32.lt_iff_toInt_lt, nI_toInt (by omega)] at q; exact q
    refine r_tableOut 100 dX9_count_1 hto (by decide) ?_
    refine r_bipush (v := -2) dX9_count_100 (by decide) ?_
    refine r_iret dX9_count_102 rfl (Nat.le_of_ble_eq_true rfl) (Nat.le_of_ble_eq_true rfl) ?_
    exact ⟨rfl, rfl, hsp _ (by unfold sp_count; rw [if_neg (hne 0 (by omega)), if_neg (hne 1 (by omega)), if_neg (hne 2 (by omega)), if_neg (hne 3 (by omega)), if_neg (hne 4 (by omega)), if_neg (hne 5 (by omega)), if_neg (hne 6 (by omega))])⟩
theorem k_restore {σ : Al} {N : Nat} (hC : CR z sh mi mr x σ) (hok : okA σ N) (k : Int32) : Mm mX9_restore 5 [.ref x, .int k] z sh mi mr (PC z sh mi mr x (sp_restore σ k)) := by
  obtain ⟨hLL, c2, c3, c4, c5, c6⟩ := id hC
  obtain ⟨l0, ⟨l1, l2⟩, ⟨l3, l4⟩, ⟨l5, l6⟩, ⟨l7, l8⟩, ⟨l9, l10⟩, ⟨l11, l12⟩⟩ := id hLL
  have pd0 := l2.1
  have pd1 := c2.1
  have h40 := hok.1.1
  have hnt := okNt_len hok.2.1.1
  obtain ⟨n0, n1, n2, n3, n4, n5⟩ := id l4
  have K12 : inB k (nI 0) (nI 1) = true → Wp yX9_restore cX9_restore 2 (some .int) (EM 5 z sh (PC z sh mi mr x (sp_restore σ k))) 0 0 12 [.ref x, .int k] [] z sh mi mr := by
    intro hin
    obtain ⟨j, j1, j2, rfl⟩ := inB_ex (by omega) hin (by omega)
    have hI := c5 j (by omega)
    unfold ImC at hI
    cases ho : σ.2.2 j with
    | none =>
      rw [ho] at hI
      have e : sp_restore σ (nI j) = (-3, σ) := by unfold sp_restore; rw [if_neg (by rw [hin]; decide), sk_nI (by omega), ho]
      rw [e]
      refine r_aload_n 0 dX9_restore_12 rfl rfl ?_
      refine r_getR dX9_restore_13 fl_RX9_30 rfl (by assumption) (by assumption) ?_
      refine r_iload_n 1 dX9_restore_16 rfl rfl ?_
      refine r_aaldN dX9_restore_17 (by assumption) (by decide) (by intro _; rfl) (by omega) (by omega) hI ?_
      refine r_ifnonnullN dX9_restore_18 ?_
      refine r_bipush (v := -3) dX9_restore_21 (by decide) ?_
      refine r_iret dX9_restore_23 rfl (Nat.le_refl _) (Nat.le_refl _) ?_
      exact ⟨rfl, rfl, PC.same hC⟩
    | some n =>
      rw [ho] at hI
      obtain ⟨y, y1, y2, y3, y4, y5⟩ := hI
      have e : sp_restore σ (nI j) = (nI 1, (σ.1, n, σ.2.2)) := by unfold sp_restore; rw [if_neg (by rw [hin]; decide), sk_nI (by omega), ho]
      rw [e]
      have K24 : Wp yX9_restore cX9_restore 2 (some .int) (EM 5 z sh (PC z sh mi mr x (nI 1, (σ.1, n, σ.2.2)))) 0 0 24 [.ref x, .int (nI j)] [] z sh mi mr := by
        refine r_aload_n 0 dX9_restore_24 rfl rfl ?_
        refine r_getR dX9_restore_25 fl_RX9_19 rfl (by assumption) (by assumption) ?_
        refine r_aload_n 0 dX9_restore_28 rfl rfl ?_
        refine r_getR dX9_restore_29 fl_RX9_30 rfl (by assumption) (by assumption) ?_
        refine r_iload_n 1 dX9_restore_32 rfl rfl ?_
        refine r_aald dX9_restore_33 (by assumption) (by decide) (by intro _; rfl) (by omega) (by omega) (by assumption) ?_
        refine r_callVw [_] dX9_restore_34 ok_RX9_213 ivX3_copyFrom (by assumption) ⟨_, _, rfl⟩ rfl rfl (Nat.le_of_ble_eq_true rfl) (by refine ⟨?_, ?_, ?_, ?_⟩ <;> exact Nat.le_of_ble_eq_true rfl) (c_ntCopy l4 y4 (by omega) y5 (hok.2.2 j (by omega) n ho).1.1 (fun s hs => (c3.2 s hs).2.2.2.2.1)) ?_
        intro m ⟨g1, g2⟩
        refine r_iconst (v := nI 1) dX9_restore_37 (by decide) ?_
        refine r_iret dX9_restore_38 rfl (Nat.le_of_ble_eq_true rfl) (Nat.le_of_ble_eq_true rfl) ?_
        exact ⟨rfl, rfl, rfl, hC.net hok MrOk.rf g1 (fun q hq => ⟨g2 q (by omega), rfl⟩), fun q q1 q2 => ⟨g2 q (by omega), rfl⟩⟩
      refine r_aload_n 0 dX9_restore_12 rfl rfl ?_
      refine r_getR dX9_restore_13 fl_RX9_30 rfl (by assumption) (by assumption) ?_
      refine r_iload_n 1 dX9_restore_16 rfl rfl ?_
      refine r_aald dX9_restore_17 (by assumption) (by decide) (by intro _; rfl) (by omega) (by omega) y1 ?_
      refine r_ifnonnullR 24 dX9_restore_18 (by decide) ?_
      exact K24
  refine Mv.of pnX9_restore (Nat.le_of_ble_eq_true rfl) rfl ?_
  refine r_iload_n 1 dX9_restore_0 rfl rfl ?_
  refine r_if_lt 9 dX9_restore_1 (by decide) (fun h1 => ?_) (fun h1 => ?_)
  · refine r_bipush (v := -2) dX9_restore_9 (by decide) ?_
    refine r_iret dX9_restore_11 rfl (Nat.le_of_ble_eq_true rfl) (Nat.le_of_ble_eq_true rfl) ?_
    refine ⟨rfl, rfl, ?_⟩
    have e : sp_restore σ k = (-2, σ) := by unfold sp_restore; rw [if_pos (by first | (rw [nI_zero] at h1; exact inB_lo h1) | exact inB_hi' (le_two (Int32.not_lt.mp h6)))]
    rw [e]
    exact PC.same hC
  · refine r_iload_n 1 dX9_restore_4 rfl rfl ?_
    refine r_iconst (v := nI 2) dX9_restore_5 (by decide) ?_
    refine r_icmp_lt 12 dX9_restore_6 (by decide) (fun h6 => ?_) (fun h6 => ?_)
    · exact K12 (inB_ok' (by rw [nI_zero] at h1; exact h1) (fun q => by have := Int32.not_lt.mpr (two_le q); exact this h6))
    · refine r_bipush (v := -2) dX9_restore_9 (by decide) ?_
      refine r_iret dX9_restore_11 rfl (Nat.le_of_ble_eq_true rfl) (Nat.le_of_ble_eq_true rfl) ?_
      refine ⟨rfl, rfl, ?_⟩
      have e : sp_restore σ k = (-2, σ) := by unfold sp_restore; rw [if_pos (by first | (rw [nI_zero] at h1; exact inB_lo h1) | exact inB_hi' (le_two (Int32.not_lt.mp h6)))]
      rw [e]
      exact PC.same hC
end CLS4
