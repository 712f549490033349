section CLS3
variable {z : Nat} {sh : SH} {mi : MI} {mr : MR} {x : Nat}
theorem k_send {σ : Al} {N : Nat} (hC : CR z sh mi mr x σ) (hok : okA σ N) (hN : N < 2 ^ 27) (s : Int32) : Mm mX9_send 5 [.ref x, .int s] z sh mi mr (PC z sh mi mr x (sp_send σ s)) := by
  obtain ⟨hLL, c2, c3, c4, c5, c6⟩ := id hC
  obtain ⟨l0, ⟨l1, l2⟩, ⟨l3, l4⟩, ⟨l5, l6⟩, ⟨l7, l8⟩, ⟨l9, l10⟩, ⟨l11, l12⟩⟩ := id hLL
  have pd0 := l2.1
  have pd1 := c2.1
  have h40 := hok.1.1
  have hnt := okNt_len hok.2.1.1
  obtain ⟨n0, n1, n2, n3, n4, n5⟩ := id l4
  refine Mv.of pnX9_send (Nat.le_of_ble_eq_true rfl) rfl ?_
  cases hb : stB s with
  | false =>
    refine r_iload_n 1 dX9_send_0 rfl rfl ?_
    refine r_callSp [_] dX9_send_1 ok_RX9_63 isX9_isStation rfl rfl (Nat.le_of_ble_eq_true rfl) (by refine ⟨?_, ?_, ?_, ?_⟩ <;> exact Nat.le_of_ble_eq_true rfl) (c_isSt _) ?_
    rw [hb]
    refine r_ifB_ne 9 dX9_send_4 (by decide) (fun h4 => ?_) (fun h4 => ?_)
    · cases h4
    · refine r_iconst (v := -1) dX9_send_7 (by decide) ?_
      refine r_iret dX9_send_8 rfl (Nat.le_of_ble_eq_true rfl) (Nat.le_of_ble_eq_true rfl) ?_
      refine ⟨rfl, rfl, ?_⟩
      have e : sp_send σ s = (-1, σ) := by unfold sp_send; rw [if_pos hb]
      rw [e]
      exact PC.same hC
  | true =>
    obtain ⟨k, hk, rfl⟩ := st_ex hb
    have hkk : sk (nI k) = k := sk_nI (by omega)
    obtain ⟨s1, s2⟩ := n5 k hk
    obtain ⟨t0, ⟨t1, t2⟩, ⟨t3, t4⟩, ⟨t5, t6⟩, ⟨t7, t8⟩, ⟨t9, t10⟩, ⟨t11, t12⟩, ⟨t13, t14⟩, ⟨t15, t16⟩⟩ := id s2
    have hSt := (c3.2 k hk).2
    have hOk := hok.2.1.1.1 k hk
    cases hp : prs σ.1 with
    | inl j =>
      have hj : j < 2 ^ 31 := by
        have h := c_readPacket (z := z) l2 l10 (by omega) c2 hok.1
        clear h
        exact Nat.lt_of_le_of_lt (prs_le hok.1 hp) (by omega)
      refine r_iload_n 1 dX9_send_0 rfl rfl ?_
      refine r_callSp [_] dX9_send_1 ok_RX9_63 isX9_isStation rfl rfl (Nat.le_of_ble_eq_true rfl) (by refine ⟨?_, ?_, ?_, ?_⟩ <;> exact Nat.le_of_ble_eq_true rfl) (c_isSt _) ?_
      rw [hb]
      refine r_ifB_ne 9 dX9_send_4 (by decide) (fun h4 => ?_) (fun h4 => ?_)
      · refine r_aload_n 0 dX9_send_9 rfl rfl ?_
        refine r_getR dX9_send_10 fl_RX9_10 rfl (by assumption) (by assumption) ?_
        refine r_aload_n 0 dX9_send_13 rfl rfl ?_
        refine r_getR dX9_send_14 fl_RX9_37 rfl (by assumption) (by assumption) ?_
        refine r_callVi [_] dX9_send_17 ok_RX9_59 ivX5_readPacket (by assumption) ⟨_, _, rfl⟩ rfl rfl (Nat.le_of_ble_eq_true rfl) (by refine ⟨?_, ?_, ?_, ?_⟩ <;> exact Nat.le_of_ble_eq_true rfl) (c_readPacket l2 l10 (by omega) c2 hok.1) ?_
        intro v m ⟨hF, hv⟩
        rw [hp] at hv
        obtain rfl := hv
        refine r_bipush (v := -6) dX9_send_20 (by decide) ?_
        refine r_icmp_eq 28 dX9_send_22 (by decide) (fun h22 => ?_) (fun h22 => ?_)
        · exact absurd h22 (nI_ne6 hj)
        · refine r_bipush (v := -7) dX9_send_25 (by decide) ?_
          refine r_iret dX9_send_27 rfl (Nat.le_of_ble_eq_true rfl) (Nat.le_of_ble_eq_true rfl) ?_
          refine ⟨rfl, rfl, ?_⟩
          have e : sp_send σ (nI k) = (-7, σ) := by unfold sp_send; rw [if_neg (by rw [hb]; decide), hp]
          rw [e]
          exact ⟨rfl, hC.scr hok hF, fun q q1 q2 => ⟨hF.1 q (by omega) (by omega) (by omega), rfl⟩⟩
      · cases h4
    | inr p =>
      refine r_iload_n 1 dX9_send_0 rfl rfl ?_
      refine r_callSp [_] dX9_send_1 ok_RX9_63 isX9_isStation rfl rfl (Nat.le_of_ble_eq_true rfl) (by refine ⟨?_, ?_, ?_, ?_⟩ <;> exact Nat.le_of_ble_eq_true rfl) (c_isSt _) ?_
      rw [hb]
      refine r_ifB_ne 9 dX9_send_4 (by decide) (fun h4 => ?_) (fun h4 => ?_)
      · refine r_aload_n 0 dX9_send_9 rfl rfl ?_
        refine r_getR dX9_send_10 fl_RX9_10 rfl (by assumption) (by assumption) ?_
        refine r_aload_n 0 dX9_send_13 rfl rfl ?_
        refine r_getR dX9_send_14 fl_RX9_37 rfl (by assumption) (by assumption) ?_
        refine r_callVi [_] dX9_send_17 ok_RX9_59 ivX5_readPacket (by assumption) ⟨_, _, rfl⟩ rfl rfl (Nat.le_of_ble_eq_true rfl) (by refine ⟨?_, ?_, ?_, ?_⟩ <;> exact Nat.le_of_ble_eq_true rfl) (c_readPacket l2 l10 (by omega) c2 hok.1) ?_
        intro v m ⟨hF, hv⟩
        rw [hp] at hv
        obtain ⟨rfl, hP, hpk⟩ := hv
        have hC2 := hC.scr hok hF
        have hSt2 := (hC2.2.2.1.2 k hk).2
        have u0 := t8.1
        have hkp : m (x + 3 + 3 + 43 * k + 6) 2 = nI (stA σ k).2.2.1.length := hSt2.2.2.1.1
        have hnw : m (x + 3) 2 = nI σ.2.1.2.2 := hC2.2.2.1.1
        have h12 : (stA σ k).2.2.1.length ≤ 12 := hnt k hk
        refine r_bipush (v := -6) dX9_send_20 (by decide) ?_
        refine r_icmp_eq 28 dX9_send_22 (by decide) (fun h22 => ?_) (fun h22 => ?_)
        · refine r_aload_n 0 dX9_send_28 rfl rfl ?_
          refine r_getR dX9_send_29 fl_RX9_19 rfl (by assumption) (by assumption) ?_
          refine r_getR dX9_send_32 fl_RX9_71 rfl (by assumption) (by assumption) ?_
          refine r_iload_n 1 dX9_send_35 rfl rfl ?_
          refine r_aald dX9_send_36 (by assumption) (by decide) (by intro _; rfl) (by omega) (by omega) (by assumption) ?_
          refine r_astore_n 2 (ls2 := [_, _, _]) dX9_send_37 rfl (by decide) (Nat.le_of_ble_eq_true rfl) rfl ?_
          refine r_aload_n 2 dX9_send_38 rfl rfl ?_
          refine r_getR dX9_send_39 fl_RX9_122 rfl (by assumption) (by assumption) ?_
          refine r_getV dX9_send_42 fl_RX9_126 rfl (by assumption) (by first | assumption | exact up2_same _ _ _ _ | exact (Eq.trans (up2_ne _ _ (by omega)) (by first | assumption | exact up2_same _ _ _ _)) | exact (Eq.trans (up2_ne _ _ (by omega)) (Eq.trans (up2_ne _ _ (by omega)) (by first | assumption | exact up2_same _ _ _ _))) | exact (Eq.trans (up2_ne _ _ (by omega)) (Eq.trans (up2_ne _ _ (by omega)) (Eq.trans (up2_ne _ _ (by omega)) (by first | assumption | exact up2_same _ _ _ _)))) | exact (Eq.trans (up2_ne _ _ (by omega)) (Eq.trans (up2_ne _ _ (by omega)) (Eq.trans (up2_ne _ _ (by omega)) (Eq.trans (up2_ne _ _ (by omega)) (by first | assumption | exact up2_same _ _ _ _))))) | rfl) ?_
          refine r_bipush (v := nI 12) dX9_send_45 (by decide) ?_
          refine r_icmpN_lt 53 dX9_send_47 (by decide) (by omega) (by omega) (fun h47 => ?_) (fun h47 => ?_)
          · refine r_aload_n 2 dX9_send_53 rfl rfl ?_
            refine r_aload_n 0 dX9_send_54 rfl rfl ?_
            refine r_getR dX9_send_55 fl_RX9_37 rfl (by assumption) (by assumption) ?_
            refine r_aload_n 0 dX9_send_58 rfl rfl ?_
            refine r_getR dX9_send_59 fl_RX9_19 rfl (by assumption) (by assumption) ?_
            refine r_getV dX9_send_62 fl_RX9_129 rfl (by assumption) (by first | assumption | exact up2_same _ _ _ _ | exact (Eq.trans (up2_ne _ _ (by omega)) (by first | assumption | exact up2_same _ _ _ _)) | exact (Eq.trans (up2_ne _ _ (by omega)) (Eq.trans (up2_ne _ _ (by omega)) (by first | assumption | exact up2_same _ _ _ _))) | exact (Eq.trans (up2_ne _ _ (by omega)) (Eq.trans (up2_ne _ _ (by omega)) (Eq.trans (up2_ne _ _ (by omega)) (by first | assumption | exact up2_same _ _ _ _)))) | exact (Eq.trans (up2_ne _ _ (by omega)) (Eq.trans (up2_ne _ _ (by omega)) (Eq.trans (up2_ne _ _ (by omega)) (Eq.trans (up2_ne _ _ (by omega)) (by first | assumption | exact up2_same _ _ _ _))))) | rfl) ?_
            refine r_callVw [_, _] dX9_send_65 ok_RX9_132 ivX6_originate (by assumption) ⟨_, _, rfl⟩ rfl rfl (Nat.le_of_ble_eq_true rfl) (by refine ⟨?_, ?_, ?_, ?_⟩ <;> exact Nat.le_of_ble_eq_true rfl) (c_orig s2 l10 (by omega) hSt2 hOk (by show (stA σ k).2.2.1.length < 12; omega) (by have := hok.2.1.2.2; omega) hP hpk) ?_
            intro m2 ⟨g1, g2⟩
            have hC3 := hC2.st hok hk g1 g2
            refine r_aload_n 0 dX9_send_68 rfl rfl ?_
            refine r_getR dX9_send_69 fl_RX9_10 rfl (by assumption) (by assumption) ?_
            refine r_callVw [] dX9_send_72 ok_RX9_56 ivX5_clear (by assumption) ⟨_, _, rfl⟩ rfl rfl (Nat.le_of_ble_eq_true rfl) (by refine ⟨?_, ?_, ?_, ?_⟩ <;> exact Nat.le_of_ble_eq_true rfl) (c_pdClear l2) ?_
            intro m3 hm3
            have hkp3 : m3 (x + 3 + 3 + 43 * k + 6) 2 = nI ((stA σ k).2.2.1.length + 1) := by rw [hm3, up2_row _ _ (by omega)]; have := g1.2.2.1.1; rw [this]; show nI (List.length (_ ++ _)) = _; rw [List.length_append]; rfl
            refine r_aload_n 2 dX9_send_75 rfl rfl ?_
            refine r_getR dX9_send_76 fl_RX9_122 rfl (by assumption) (by assumption) ?_
            refine r_getV dX9_send_79 fl_RX9_126 rfl (by assumption) (by first | assumption | exact up2_same _ _ _ _ | exact (Eq.trans (up2_ne _ _ (by omega)) (by first | assumption | exact up2_same _ _ _ _)) | exact (Eq.trans (up2_ne _ _ (by omega)) (Eq.trans (up2_ne _ _ (by omega)) (by first | assumption | exact up2_same _ _ _ _))) | exact (Eq.trans (up2_ne _ _ (by omega)) (Eq.trans (up2_ne _ _ (by omega)) (Eq.trans (up2_ne _ _ (by omega)) (by first | assumption | exact up2_same _ _ _ _)))) | exact (Eq.trans (up2_ne _ _ (by omega)) (Eq.trans (up2_ne _ _ (by omega)) (Eq.trans (up2_ne _ _ (by omega)) (Eq.trans (up2_ne _ _ (by omega)) (by first | assumption | exact up2_same _ _ _ _))))) | rfl) ?_
            refine r_iret dX9_send_82 rfl (Nat.le_of_ble_eq_true rfl) (Nat.le_of_ble_eq_true rfl) ?_
            have e : sp_send σ (nI k) = (nI ((stA σ k).2.2.1.length + 1), noP (upA σ k (orig (stA σ k) p σ.2.1.2.2))) := by unfold sp_send; rw [if_neg (by rw [hb]; decide), hp]; simp only; rw [if_neg (by rw [hkk]; omega), hkk]
            rw [e]
            have hlo : ∀ s, s < 6 → ((upA σ k (orig (stA σ k) p σ.2.1.2.2)).2.1.1 s).2.2.1.length ≤ 12 := fun s hs => by show (upS _ k _ s).2.2.1.length ≤ 12; unfold upS; split; (show (List.length (_ ++ _)) ≤ 12; rw [List.length_append]; show (stA σ k).2.2.1.length + 1 ≤ 12; omega); exact hnt s hs
            refine ⟨rfl, rfl, rfl, CR.pad0 hC3 hlo (fun k hk n e => okNt_len (hok.2.2 k hk n e).1) ⟨by rw [hm3, up2_same]; rfl, fun i y hy => by simp at hy⟩ (fun q q1 q2 => by rw [hm3, up2_row _ _ q1]), fun q q1 q2 => ⟨?_, rfl⟩⟩
            rw [hm3, up2_row _ _ (by omega), g2 q (by omega), hF.1 q (by omega) (by omega) (by omega)]
          · have e : sp_send σ (nI k) = (-4, σ) := by unfold sp_send; rw [if_neg (by rw [hb]; decide), hp]; simp only; rw [if_pos (by rw [hkk]; exact h47)]
            refine r_bipush (v := -4) dX9_send_50 (by decide) ?_
            refine r_iret dX9_send_52 rfl (Nat.le_refl _) (Nat.le_refl _) ?_
            rw [e]
            exact ⟨rfl, rfl, rfl, hC2, fun q q1 q2 => ⟨hF.1 q (by omega) (by omega) (by omega), rfl⟩⟩
        · exact absurd rfl h22
      · cases h4
theorem k_run {σ : Al} {N : Nat} (hC : CR z sh mi mr x σ) (hok : okA σ N) (hN : N + 50 < 2 ^ 27) (n : Int32) : Mm mX9_run 5 [.ref x, .int n] z sh mi mr (PC z sh mi mr x (sp_run σ n)) := by
  obtain ⟨hLL, c2, c3, c4, c5, c6⟩ := id hC
  obtain ⟨l0, ⟨l1, l2⟩, ⟨l3, l4⟩, ⟨l5, l6⟩, ⟨l7, l8⟩, ⟨l9, l10⟩, ⟨l11, l12⟩⟩ := id hLL
  have pd0 := l2.1
  have pd1 := c2.1
  have h40 := hok.1.1
  have hnt := okNt_len hok.2.1.1
  obtain ⟨n0, n1, n2, n3, n4, n5⟩ := id l4
  have H : ∀ (c : Nat), n = nI c → 1 ≤ c → c ≤ 50 → inB n (nI 1) (nI 50) = true → ∀ (k i : Nat) (σ' : Al) (m : MI) (r : MR), i + k = c → tcks c σ.2.1 = tcks k σ'.2.1 → σ'.1 = σ.1 → σ'.2.2 = σ.2.2 → okA σ' (N + i) → CR z sh m r x σ' → (∀ q, x + 533 ≤ q → q < x + 544 → m q = mi q ∧ r q = mr q) → Wp yX9_run cX9_run 3 (some .int) (EM 5 z sh (PC z sh mi mr x (sp_run σ n))) 0 0 16 [.ref x, .int n, .int (nI i)] [] z sh m r := by
    intro c hn h1 h2 hin k
    induction k with
    | zero =>
      intro i σ' m r hi ht ha hb hok' hC' hO
      obtain ⟨hL', d2, d3, d4, d5, d6⟩ := id hC'
      obtain ⟨l0', -, ⟨l3', l4'⟩, -⟩ := id hL'
      have n0' := l4'.1
      subst hn
      have e : sp_run σ (nI c) = (nI (keptA σ'.2.1), σ') := by
        unfold sp_run
        rw [if_neg (by rw [hin]; decide), sk_nI (by omega), ht]
        show (_, (σ.1, σ'.2.1, σ.2.2)) = _
        rw [← ha, ← hb]
        rfl
      rw [e]
      refine r_iload_n 2 dX9_run_16 rfl rfl ?_
      refine r_iload_n 1 dX9_run_17 rfl rfl ?_
      refine r_icmpN_ge 34 dX9_run_18 (by decide) (by omega) (by omega) (fun h18 => ?_) (fun h18 => ?_)
      · refine r_aload_n 0 dX9_run_34 rfl rfl ?_
        refine r_getR dX9_run_35 fl_RX9_19 rfl (by assumption) (by assumption) ?_
        refine r_callVp [] dX9_run_38 ok_RX9_139 ivX3_keptByAll (by assumption) ⟨_, _, rfl⟩ rfl rfl (Nat.le_of_ble_eq_true rfl) (by refine ⟨?_, ?_, ?_, ?_⟩ <;> exact Nat.le_of_ble_eq_true rfl) (c_keptByAll l4' d3 (okNt_len hok'.2.1.1)) ?_
        refine r_iret dX9_run_41 rfl (Nat.le_of_ble_eq_true rfl) (Nat.le_of_ble_eq_true rfl) ?_
        exact ⟨rfl, rfl, rfl, hC', hO⟩
      · omega
    | succ k ih =>
      intro i σ' m r hi ht ha hb hok' hC' hO
      obtain ⟨hL', d2, d3, d4, d5, d6⟩ := id hC'
      obtain ⟨l0', -, ⟨l3', l4'⟩, -⟩ := id hL'
      have n0' := l4'.1
      subst hn
      have hnw := hok'.2.1.2.2
      refine r_iload_n 2 dX9_run_16 rfl rfl ?_
      refine r_iload_n 1 dX9_run_17 rfl rfl ?_
      refine r_icmpN_ge 34 dX9_run_18 (by decide) (by omega) (by omega) (fun h18 => ?_) (fun h18 => ?_)
      · omega
      · refine r_aload_n 0 dX9_run_21 rfl rfl ?_
        refine r_getR dX9_run_22 fl_RX9_19 rfl (by assumption) (by assumption) ?_
        refine r_callVmw [] dX9_run_25 ok_RX9_136 ivX3_passTick (by assumption) ⟨_, _, rfl⟩ rfl rfl (Nat.le_of_ble_eq_true rfl) (by refine ⟨?_, ?_, ?_, ?_⟩ <;> exact Nat.le_of_ble_eq_true rfl) (c_passTick l4' d3 hok'.2.1.1.1 (fun j hj => (okSt_tckS hok'.2.1.1.1 hj).2.2.1.1) (by omega)) ?_
        intro m2 r2 ⟨g1, g2, g3⟩
        refine r_iincN 2 (b := 1) (ls2 := [_, _, _]) dX9_run_28 rfl (by decide) (by decide) rfl ?_
        refine r_goto 16 dX9_run_31 (by decide) ?_
        refine ih (i + 1) (σ'.1, tck σ'.2.1, σ'.2.2) m2 r2 (by omega) (by rw [ht]; rfl) ha hb ⟨hok'.1, ⟨okNt_tck hok'.2.1.1, fun s hs => HL_tckS (hok'.2.1.2.1 s hs), by show σ'.2.1.2.2 + 1 ≤ _; omega⟩, fun k' hk' n' e' => ?_⟩ (hC'.net hok' g2 g1 (fun q hq => g3 q (by omega))) (fun q q1 q2 => ⟨(g3 q (by omega)).1.trans (hO q q1 q2).1, (g3 q (by omega)).2.trans (hO q q1 q2).2⟩)
        obtain ⟨w1, w2, w3⟩ := hok'.2.2 k' hk' n' e'
        exact ⟨w1, w2, by omega⟩
  refine Mv.of pnX9_run (Nat.le_of_ble_eq_true rfl) rfl ?_
  refine r_iload_n 1 dX9_run_0 rfl rfl ?_
  refine r_iconst (v := nI 1) dX9_run_1 (by decide) ?_
  refine r_icmp_lt 11 dX9_run_2 (by decide) (fun h2 => ?_) (fun h2 => ?_)
  · refine r_bipush (v := -2) dX9_run_11 (by decide) ?_
    refine r_iret dX9_run_13 rfl (Nat.le_of_ble_eq_true rfl) (Nat.le_of_ble_eq_true rfl) ?_
    refine ⟨rfl, rfl, ?_⟩
    have e : sp_run σ n = (-2, σ) := by unfold sp_run; rw [if_pos (by first | exact inB_lo h2 | exact inB_hi h8)]
    rw [e]
    exact PC.same hC
  · refine r_iload_n 1 dX9_run_5 rfl rfl ?_
    refine r_bipush (v := nI 50) dX9_run_6 (by decide) ?_
    refine r_icmp_le 14 dX9_run_8 (by decide) (fun h8 => ?_) (fun h8 => ?_)
    · refine r_iconst (v := nI 0) dX9_run_14 (by decide) ?_
      refine r_istore_n 2 (ls2 := [_, _, _]) dX9_run_15 rfl (by decide) (Nat.le_of_ble_eq_true rfl) rfl ?_
      have hin := inB_ok h2 h8
      obtain ⟨c, q1, q2, hn⟩ := inB_ex (by omega) hin (by omega)
      exact H c hn q1 q2 hin c 0 σ mi mr (by omega) rfl rfl rfl hok hC (fun _ _ _ => ⟨rfl, rfl⟩)
    · refine r_bipush (v := -2) dX9_run_11 (by decide) ?_
      refine r_iret dX9_run_13 rfl (Nat.le_of_ble_eq_true rfl) (Nat.le_of_ble_eq_true rfl) ?_
      refine ⟨rfl, rfl, ?_⟩
      have e : sp_run σ n = (-2, σ) := by unfold sp_run; rw [if_pos (by first | exact inB_lo h2 | exact inB_hi h8)]
      rw [e]
      exact PC.same hC
end CLS3
