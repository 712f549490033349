section RAPI4
variable {z : Nat} {sh : SH} {mi : MI} {mr : MR} {o : Nat}
theorem ow_big {i : Nat} (h : 1386 ≤ i) : ow i = 7 := by
  unfold ow
  rw [if_neg (by omega), if_neg (by omega), if_neg (by omega), if_neg (by omega), if_neg (by omega), if_neg (by omega), if_neg (by omega), if_neg (by omega), if_neg (by omega), if_neg (by omega), if_neg (by omega), if_neg (by omega), if_neg (by omega), if_neg (by omega), if_neg (by omega), if_neg (by omega)]
theorem NtM.ext {f g : Rw} {n : Nt} (h : NtM f n) (hok : okNt n) (hx : ∀ i, i < 1387 → g i = f i) : NtM g n := by
  refine ⟨fun s hs => (h.1 s hs).keepL hs (hok.1 s hs).lk (fun i hi => hx i ?_), h.2.1.keep (fun i _ h2 => hx i (by omega)), by rw [hx _ (by omega)]; exact h.2.2⟩
  rcases Nat.lt_or_ge i 1387 with q | q
  · exact q
  · rw [ow_big (by omega)] at hi; omega
theorem LaM.ext {f g : Rw} {n : Nt} (h : LaM f n) (hx : ∀ i, i < 1387 → g i = f i) : LaM g n := fun s hs hn => by rw [hx _ (by omega)]; exact h s hs hn
theorem RR.near {m : MI} {σ : Al} {N : Nat} {nr : Nat → Nat → Bool} (h : RR mi o σ) (hok : okA σ N) (hx : ∀ i, (i < 60 ∨ 96 ≤ i) → m (o + 1) i = mi (o + 1) i) (hN : NrM (m (o + 1)) nr) (h4 : m o 4 = mi o 4) (ho : ∀ x, x ≠ o + 1 → m x = mi x) : RR m o (σ.1, (σ.2.1.1, nr, σ.2.1.2.2), σ.2.2) := by
  refine h.to (h.1.keep h4 (ho _ (by omega))) ⟨fun s hs => (h.2.1.1.1 s hs).keepL hs (hok.2.1.1.1 s hs).lk (fun i hi => hx i ?_), hN, by rw [hx _ (by omega)]; exact h.2.1.1.2.2⟩ (fun s hs hn => by rw [hx _ (by omega)]; exact h.2.1.2 s hs hn) (ho _ (by omega)) (ho _ (by omega))
  rcases Nat.lt_or_ge i 60 with q | q
  · exact Or.inl q
  · rcases Nat.lt_or_ge i 96 with q2 | q2
    · rw [ow_nr q q2] at hi; omega
    · exact Or.inr q2
theorem n_near (hL : LM sh mr o) {σ : Al} {N : Nat} (hR : RR mi o σ) (hok : okA σ N) (i j v : Int32) : Mi mX10_near 2 [.ref o, .int i, .int j, .int v] z sh mi mr (PM mi o (sp_near σ i j v)) := by
  obtain ⟨l0, ⟨l1, l2⟩, -⟩ := id hL
  by_cases hb : (stB i && stB j) = true
  · have hbi : stB i = true := by simp at hb; exact hb.1
    have hbj : stB j = true := by simp at hb; exact hb.2
    by_cases hc : inB v (nI 0) (nI 1) = false ∨ i = j
    · have hsp : sp_near σ i j v = (-2, σ) := by unfold sp_near; rw [if_neg (by rw [hb]; decide), if_pos hc]
      rw [hsp]
      refine Mv.of pnX10_near (Nat.le_of_ble_eq_true rfl) rfl ?_
      refine r_iload_n 1 dX10_near_0 rfl rfl ?_
      refine r_callSp [_] dX10_near_1 ok_RX10_78 isX10_isStation rfl rfl (Nat.le_of_ble_eq_true rfl) (by refine ⟨?_, ?_, ?_, ?_⟩ <;> exact Nat.le_of_ble_eq_true rfl) (c_isStation _) ?_
      rw [hbi]
      refine r_ifB_eq 14 dX10_near_4 (by decide) (fun h4 => ?_) (fun h4 => ?_)
      · first | exact absurd h4 (by decide) | exact absurd h11 (by decide)
      · refine r_iload_n 2 dX10_near_7 rfl rfl ?_
        refine r_callSp [_] dX10_near_8 ok_RX10_78 isX10_isStation rfl rfl (Nat.le_of_ble_eq_true rfl) (by refine ⟨?_, ?_, ?_, ?_⟩ <;> exact Nat.le_of_ble_eq_true rfl) (c_isStation _) ?_
        rw [hbj]
        refine r_ifB_ne 16 dX10_near_11 (by decide) (fun h11 => ?_) (fun h11 => ?_)
        · refine r_iload_n 3 dX10_near_16 rfl rfl ?_
          refine r_iconst (v := nI 0) dX10_near_17 (by decide) ?_
          refine r_iconst (v := nI 1) dX10_near_18 (by decide) ?_
          refine r_callSp [_, _, _] dX10_near_19 ok_RX10_41 isX10_in rfl rfl (Nat.le_of_ble_eq_true rfl) (by refine ⟨?_, ?_, ?_, ?_⟩ <;> exact Nat.le_of_ble_eq_true rfl) (c_in _ _ _) ?_
          refine r_ifB_eq 30 dX10_near_22 (by decide) (fun h22 => ?_) (fun h22 => ?_)
          · refine r_bipush (v := -2) dX10_near_30 (by decide) ?_
            refine r_iret dX10_near_32 rfl (Nat.le_of_ble_eq_true rfl) (Nat.le_of_ble_eq_true rfl) ?_
            exact ⟨rfl, rfl, rfl, PM.same hR⟩
          · refine r_iload_n 1 dX10_near_25 rfl rfl ?_
            refine r_iload_n 2 dX10_near_26 rfl rfl ?_
            refine r_icmp_ne 33 dX10_near_27 (by decide) (fun h27 => ?_) (fun h27 => ?_)
            · rcases hc with c | c
              · rw [c] at h22; cases h22
              · exact absurd c h27
            · refine r_bipush (v := -2) dX10_near_30 (by decide) ?_
              refine r_iret dX10_near_32 rfl (Nat.le_of_ble_eq_true rfl) (Nat.le_of_ble_eq_true rfl) ?_
              exact ⟨rfl, rfl, rfl, PM.same hR⟩
        · first | exact absurd h4 (by decide) | exact absurd h11 (by decide)
    · have hv : inB v (nI 0) (nI 1) = true := by
        have : ¬ inB v (nI 0) (nI 1) = false := fun e => hc (Or.inl e)
        simpa using this
      have hij : ¬ i = j := fun e => hc (Or.inr e)
      have hsp : sp_near σ i j v = (nI (cn6 (nrU σ.2.1.2.1 (sk i) (sk j) (decide (v = nI 1)) (sk i))), (σ.1, (σ.2.1.1, nrU σ.2.1.2.1 (sk i) (sk j) (decide (v = nI 1)), σ.2.1.2.2), σ.2.2)) := by unfold sp_near; rw [if_neg (by rw [hb]; decide), if_neg hc]
      obtain ⟨a, ha, rfl⟩ := st_ex hbi
      obtain ⟨b, hb6, rfl⟩ := st_ex hbj
      obtain ⟨c, c1, c2, rfl⟩ := inB_ex (by omega) hv (by omega)
      rw [sk_nI (by omega), sk_nI (by omega)] at hsp
      have hab : a ≠ b := fun e => hij (by rw [e])
      have hbn : nI c = nI (bn (decide (nI c = nI 1))) := by
        have : c = 0 ∨ c = 1 := by omega
        rcases this with rfl | rfl <;> decide
      obtain ⟨nr, hnr⟩ : ∃ nr, nr = nrU σ.2.1.2.1 a b (decide (nI c = nI 1)) := ⟨_, rfl⟩
      obtain ⟨m2, hm2⟩ : ∃ m2, m2 = up2 (up2 mi (o + 1) (60 + 6 * a + b) (nI c)) (o + 1) (60 + 6 * b + a) (nI c) := ⟨_, rfl⟩
      have hN2 : NrM (m2 (o + 1)) nr := fun x y hx hy => by
        rw [hnr, hm2]
        unfold nrU
        by_cases e2 : x = b ∧ y = a
        · rw [e2.1, e2.2, up2_same, if_pos (Or.inr ⟨rfl, rfl⟩)]; exact hbn
        · rw [up2_ne _ _ (Or.inr (by omega))]
          by_cases e1 : x = a ∧ y = b
          · rw [e1.1, e1.2, up2_same, if_pos (Or.inl ⟨rfl, rfl⟩)]; exact hbn
          · rw [up2_ne _ _ (Or.inr (by omega)), if_neg (by rintro (h | h); (exact e1 h); (exact e2 h))]
            exact hR.2.1.1.2.1 x y hx hy
      rw [hsp, ← hnr]
      have H : ∀ t k : Nat, k + t = 6 → Wp yX10_near cX10_near 6 (some .int) (EI 2 z sh mr (PM mi o (nI (cn6 (nr a)), (σ.1, (σ.2.1.1, nr, σ.2.1.2.2), σ.2.2)))) 0 0 69 [.ref o, .int (nI a), .int (nI b), .int (nI c), .int (nI (cnF (nr a) k)), .int (nI k)] [] z sh m2 mr := by
        intro t
        induction t with
        | zero =>
          intro k hk
          have hk : k = 6 := hk
          subst hk
          rw [cnF_6]
          refine r_iload 5 dX10_near_69 rfl ?_
          refine r_bipush (v := nI 6) dX10_near_71 (by decide) ?_
          refine r_icmpN_ge 102 dX10_near_73 (by decide) (by omega) (by omega) (fun h73 => ?_) (fun h73 => ?_)
          · refine r_iload 4 dX10_near_102 rfl ?_
            refine r_iret dX10_near_104 rfl (Nat.le_of_ble_eq_true rfl) (Nat.le_of_ble_eq_true rfl) ?_
            refine ⟨rfl, rfl, rfl, rfl, hR.near hok (fun q hq => ?_) hN2 ?_ (fun x hx => ?_), fun q hq => ?_⟩
            · rw [hm2, up2_ne _ _ (Or.inr (by omega)), up2_ne _ _ (Or.inr (by omega))]
            · rw [hm2, up2_row _ _ (by omega), up2_row _ _ (by omega)]
            · rw [hm2, up2_row _ _ hx, up2_row _ _ hx]
            · rw [hm2, up2_row _ _ (by omega), up2_row _ _ (by omega)]
          · omega
        | succ t ih =>
          intro k hk
          have hih := ih (k + 1) (by omega)
          rw [show cnF (nr a) (k + 1) = cnF (nr a) k + bn (nr a k) from rfl] at hih
          refine r_iload 5 dX10_near_69 rfl ?_
          refine r_bipush (v := nI 6) dX10_near_71 (by decide) ?_
          refine r_icmpN_ge 102 dX10_near_73 (by decide) (by omega) (by omega) (fun h73 => ?_) (fun h73 => ?_)
          · omega
          · refine r_iload 4 dX10_near_76 rfl ?_
            refine r_aload_n 0 dX10_near_78 rfl rfl ?_
            refine r_iload_n 1 dX10_near_79 rfl rfl ?_
            refine r_iload 5 dX10_near_80 rfl ?_
            refine r_callVp [_, _] dX10_near_82 ok_RX10_91 ivX10_areNear (by assumption) ⟨_, _, rfl⟩ rfl rfl (Nat.le_of_ble_eq_true rfl) (by refine ⟨?_, ?_, ?_, ?_⟩ <;> exact Nat.le_of_ble_eq_true rfl) (m_areNear hL hN2 ha (by omega)) ?_
            refine r_ifB_eq 92 dX10_near_85 (by decide) (fun h85 => ?_) (fun h85 => ?_)
            · refine r_iconst (v := nI 0) dX10_near_92 (by decide) ?_
              refine r_iaddN dX10_near_93 ?_
              refine r_istore 4 (ls2 := [_, _, _, _, _, _]) dX10_near_94 (by decide) (Nat.le_of_ble_eq_true rfl) rfl ?_
              refine r_iincN 5 (b := 1) (ls2 := [_, _, _, _, _, _]) dX10_near_96 rfl (by decide) (by decide) rfl ?_
              refine r_goto 69 dX10_near_99 (by decide) ?_
              rw [h85] at hih
              exact hih
            · refine r_iconst (v := nI 1) dX10_near_88 (by decide) ?_
              refine r_goto 93 dX10_near_89 (by decide) ?_
              refine r_iaddN dX10_near_93 ?_
              refine r_istore 4 (ls2 := [_, _, _, _, _, _]) dX10_near_94 (by decide) (Nat.le_of_ble_eq_true rfl) rfl ?_
              refine r_iincN 5 (b := 1) (ls2 := [_, _, _, _, _, _]) dX10_near_96 rfl (by decide) (by decide) rfl ?_
              refine r_goto 69 dX10_near_99 (by decide) ?_
              rw [h85] at hih
              exact hih
      refine Mv.of pnX10_near (Nat.le_of_ble_eq_true rfl) rfl ?_
      refine r_iload_n 1 dX10_near_0 rfl rfl ?_
      refine r_callSp [_] dX10_near_1 ok_RX10_78 isX10_isStation rfl rfl (Nat.le_of_ble_eq_true rfl) (by refine ⟨?_, ?_, ?_, ?_⟩ <;> exact Nat.le_of_ble_eq_true rfl) (c_isStation _) ?_
      rw [hbi]
      refine r_ifB_eq 14 dX10_near_4 (by decide) (fun h4 => ?_) (fun h4 => ?_)
      · first | exact absurd h4 (by decide) | exact absurd h11 (by decide)
      · refine r_iload_n 2 dX10_near_7 rfl rfl ?_
        refine r_callSp [_] dX10_near_8 ok_RX10_78 isX10_isStation rfl rfl (Nat.le_of_ble_eq_true rfl) (by refine ⟨?_, ?_, ?_, ?_⟩ <;> exact Nat.le_of_ble_eq_true rfl) (c_isStation _) ?_
        rw [hbj]
        refine r_ifB_ne 16 dX10_near_11 (by decide) (fun h11 => ?_) (fun h11 => ?_)
        · refine r_iload_n 3 dX10_near_16 rfl rfl ?_
          refine r_iconst (v := nI 0) dX10_near_17 (by decide) ?_
          refine r_iconst (v := nI 1) dX10_near_18 (by decide) ?_
          refine r_callSp [_, _, _] dX10_near_19 ok_RX10_41 isX10_in rfl rfl (Nat.le_of_ble_eq_true rfl) (by refine ⟨?_, ?_, ?_, ?_⟩ <;> exact Nat.le_of_ble_eq_true rfl) (c_in _ _ _) ?_
          rw [hv]
          refine r_ifB_eq 30 dX10_near_22 (by decide) (fun h22 => ?_) (fun h22 => ?_)
          · first | exact absurd h22 (by decide) | exact absurd h27 hab
          · refine r_iload_n 1 dX10_near_25 rfl rfl ?_
            refine r_iload_n 2 dX10_near_26 rfl rfl ?_
            refine r_icmpN_ne 33 dX10_near_27 (by decide) (by omega) (by omega) (fun h27 => ?_) (fun h27 => ?_)
            · refine r_aload_n 0 dX10_near_33 rfl rfl ?_
              refine r_getR dX10_near_34 fl_RX10_7 rfl (by assumption) (by assumption) ?_
              refine r_bipush (v := nI 60) dX10_near_37 (by decide) ?_
              refine r_bipush (v := nI 6) dX10_near_39 (by decide) ?_
              refine r_iload_n 1 dX10_near_41 rfl rfl ?_
              refine r_imulN dX10_near_42 ?_
              refine r_iaddN dX10_near_43 ?_
              refine r_iload_n 2 dX10_near_44 rfl rfl ?_
              refine r_iaddN dX10_near_45 ?_
              refine r_iload_n 3 dX10_near_46 rfl rfl ?_
              refine r_iast dX10_near_47 (by assumption) (by omega) (by omega) ?_
              refine r_aload_n 0 dX10_near_48 rfl rfl ?_
              refine r_getR dX10_near_49 fl_RX10_7 rfl (by assumption) (by assumption) ?_
              refine r_bipush (v := nI 60) dX10_near_52 (by decide) ?_
              refine r_bipush (v := nI 6) dX10_near_54 (by decide) ?_
              refine r_iload_n 2 dX10_near_56 rfl rfl ?_
              refine r_imulN dX10_near_57 ?_
              refine r_iaddN dX10_near_58 ?_
              refine r_iload_n 1 dX10_near_59 rfl rfl ?_
              refine r_iaddN dX10_near_60 ?_
              refine r_iload_n 3 dX10_near_61 rfl rfl ?_
              refine r_iast dX10_near_62 (by assumption) (by omega) (by omega) ?_
              refine r_iconst (v := nI 0) dX10_near_63 (by decide) ?_
              refine r_istore 4 (ls2 := [_, _, _, _, _]) dX10_near_64 (by decide) (Nat.le_of_ble_eq_true rfl) rfl ?_
              refine r_iconst (v := nI 0) dX10_near_66 (by decide) ?_
              refine r_istore 5 (ls2 := [_, _, _, _, _, _]) dX10_near_67 (by decide) (Nat.le_of_ble_eq_true rfl) rfl ?_
              rw [← hm2]
              exact H 6 0 rfl
            · first | exact absurd h22 (by decide) | exact absurd h27 hab
        · first | exact absurd h4 (by decide) | exact absurd h11 (by decide)
  · have hb' : (stB i && stB j) = false := by simpa using hb
    have hsp : sp_near σ i j v = (-1, σ) := by unfold sp_near; rw [if_pos hb']
    rw [hsp]
    refine Mv.of pnX10_near (Nat.le_of_ble_eq_true rfl) rfl ?_
    refine r_iload_n 1 dX10_near_0 rfl rfl ?_
    refine r_callSp [_] dX10_near_1 ok_RX10_78 isX10_isStation rfl rfl (Nat.le_of_ble_eq_true rfl) (by refine ⟨?_, ?_, ?_, ?_⟩ <;> exact Nat.le_of_ble_eq_true rfl) (c_isStation _) ?_
    refine r_ifB_eq 14 dX10_near_4 (by decide) (fun h4 => ?_) (fun h4 => ?_)
    · refine r_iconst (v := -1) dX10_near_14 (by decide) ?_
      refine r_iret dX10_near_15 rfl (Nat.le_of_ble_eq_true rfl) (Nat.le_of_ble_eq_true rfl) ?_
      exact ⟨rfl, rfl, rfl, PM.same hR⟩
    · refine r_iload_n 2 dX10_near_7 rfl rfl ?_
      refine r_callSp [_] dX10_near_8 ok_RX10_78 isX10_isStation rfl rfl (Nat.le_of_ble_eq_true rfl) (by refine ⟨?_, ?_, ?_, ?_⟩ <;> exact Nat.le_of_ble_eq_true rfl) (c_isStation _) ?_
      refine r_ifB_ne 16 dX10_near_11 (by decide) (fun h11 => ?_) (fun h11 => ?_)
      · rw [h4, h11] at hb'
        cases hb'
      · refine r_iconst (v := -1) dX10_near_14 (by decide) ?_
        refine r_iret dX10_near_15 rfl (Nat.le_of_ble_eq_true rfl) (Nat.le_of_ble_eq_true rfl) ?_
        exact ⟨rfl, rfl, rfl, PM.same hR⟩
theorem n_send (hL : LM sh mr o) {σ : Al} {N : Nat} (hR : RR mi o σ) (hok : okA σ N) (s : Int32) : Mi mX10_send 5 [.ref o, .int s] z sh mi mr (PM mi o (sp_send σ s)) := by
  obtain ⟨l0, ⟨l1, l2⟩, -⟩ := id hL
  by_cases hb : stB s = true
  · obtain ⟨k, hk, rfl⟩ := st_ex hb
    have hkk : sk (nI k) = k := sk_nI (by omega)
    cases hp : prs σ.1 with
    | inl j =>
      have hsp : sp_send σ (nI k) = (-7, σ) := by unfold sp_send; rw [if_neg (by rw [hb]; decide), hp]
      rw [hsp]
      have hj : j < 2 ^ 31 := by
        have := prs_le hok.1 hp
        have := hok.1.1
        omega
      refine Mv.of pnX10_send (Nat.le_of_ble_eq_true rfl) rfl ?_
      refine r_iload_n 1 dX10_send_0 rfl rfl ?_
      refine r_callSp [_] dX10_send_1 ok_RX10_78 isX10_isStation rfl rfl (Nat.le_of_ble_eq_true rfl) (by refine ⟨?_, ?_, ?_, ?_⟩ <;> exact Nat.le_of_ble_eq_true rfl) (c_isStation _) ?_
      rw [hb]
      refine r_ifB_ne 9 dX10_send_4 (by decide) (fun h4 => ?_) (fun h4 => ?_)
      · refine r_aload_n 0 dX10_send_9 rfl rfl ?_
        refine r_callVi [] dX10_send_10 ok_RX10_74 ivX10_readPacket (by assumption) ⟨_, _, rfl⟩ rfl rfl (Nat.le_of_ble_eq_true rfl) (by refine ⟨?_, ?_, ?_, ?_⟩ <;> exact Nat.le_of_ble_eq_true rfl) (m_readPacket hL hR.1 hok.1) ?_
        intro vA mA uA
        rw [hp] at uA
        obtain ⟨uA, rfl⟩ := uA
        refine r_ifN_lt 19 dX10_send_13 (by decide) (by omega) ?_
        refine r_bipush (v := -7) dX10_send_16 (by decide) ?_
        refine r_iret dX10_send_18 rfl (Nat.le_of_ble_eq_true rfl) (Nat.le_of_ble_eq_true rfl) ?_
        exact ⟨rfl, rfl, rfl, PM.scr hR uA⟩
      · exact absurd h4 (by decide)
    | inr p =>
      have hpk := prs_ok hp
      have hoS := hok.2.1.1.1 k hk
      have hlS := hoS.lk
      by_cases h12 : 12 ≤ (stA σ k).2.2.1.length
      · have hsp : sp_send σ (nI k) = (-4, σ) := by unfold sp_send; rw [if_neg (by rw [hb]; decide), hp, hkk]; exact if_pos h12
        rw [hsp]
        refine Mv.of pnX10_send (Nat.le_of_ble_eq_true rfl) rfl ?_
        refine r_iload_n 1 dX10_send_0 rfl rfl ?_
        refine r_callSp [_] dX10_send_1 ok_RX10_78 isX10_isStation rfl rfl (Nat.le_of_ble_eq_true rfl) (by refine ⟨?_, ?_, ?_, ?_⟩ <;> exact Nat.le_of_ble_eq_true rfl) (c_isStation _) ?_
        rw [hb]
        refine r_ifB_ne 9 dX10_send_4 (by decide) (fun h4 => ?_) (fun h4 => ?_)
        · refine r_aload_n 0 dX10_send_9 rfl rfl ?_
          refine r_callVi [] dX10_send_10 ok_RX10_74 ivX10_readPacket (by assumption) ⟨_, _, rfl⟩ rfl rfl (Nat.le_of_ble_eq_true rfl) (by refine ⟨?_, ?_, ?_, ?_⟩ <;> exact Nat.le_of_ble_eq_true rfl) (m_readPacket hL hR.1 hok.1) ?_
          intro vA mA uA
          rw [hp] at uA
          obtain ⟨uA, rfl, uP⟩ := uA
          have uR := hR.scr uA
          have uN := uR.2.1.1.2.2
          refine r_if_lt 19 dX10_send_13 (by decide) (fun h13 => ?_) (fun h13 => ?_)
          · refine r_aload_n 0 dX10_send_19 rfl rfl ?_
            refine r_iload_n 1 dX10_send_20 rfl rfl ?_
            refine r_aload_n 0 dX10_send_21 rfl rfl ?_
            refine r_getR dX10_send_22 fl_RX10_7 rfl (by assumption) (by assumption) ?_
            refine r_sipush (v := nI 1386) dX10_send_25 (by decide) ?_
            refine r_ialdV dX10_send_28 (by assumption) (by omega) (by omega) (by first | assumption | exact up2_same _ _ _ _ | exact (Eq.trans (up2_ne _ _ (by omega)) (by first | assumption | exact up2_same _ _ _ _)) | exact (Eq.trans (up2_ne _ _ (by omega)) (Eq.trans (up2_ne _ _ (by omega)) (by first | assumption | exact up2_same _ _ _ _))) | exact (Eq.trans (up2_ne _ _ (by omega)) (Eq.trans (up2_ne _ _ (by omega)) (Eq.trans (up2_ne _ _ (by omega)) (by first | assumption | exact up2_same _ _ _ _)))) | exact (Eq.trans (up2_ne _ _ (by omega)) (Eq.trans (up2_ne _ _ (by omega)) (Eq.trans (up2_ne _ _ (by omega)) (Eq.trans (up2_ne _ _ (by omega)) (by first | assumption | exact up2_same _ _ _ _))))) | rfl) ?_
            refine r_callVp [_, _] dX10_send_29 ok_RX10_113 ivX10_keep (by assumption) ⟨_, _, rfl⟩ rfl rfl (Nat.le_of_ble_eq_true rfl) (by refine ⟨?_, ?_, ?_, ?_⟩ <;> exact Nat.le_of_ble_eq_true rfl) (m_keepNo hL hk (uR.2.1.1.1 k hk).2.2.1 (by have := hlS.2.1.1; unfold stA at h12; omega)) ?_
            refine r_ifN_ne 38 dX10_send_32 (by decide) (by omega) (fun h32 => ?_) (fun h32 => ?_)
            · omega
            · refine r_bipush (v := -4) dX10_send_35 (by decide) ?_
              refine r_iret dX10_send_37 rfl (Nat.le_of_ble_eq_true rfl) (Nat.le_of_ble_eq_true rfl) ?_
              exact ⟨rfl, rfl, rfl, PM.scr hR uA⟩
          · exact absurd (by decide) h13
        · exact absurd h4 (by decide)
      · have h12' : (σ.2.1.1 k).2.2.1.length < 12 := by unfold stA at h12; omega
        have hsp : sp_send σ (nI k) = (nI ((stA σ k).2.2.1.length + 1), noP (upA σ k (orig (stA σ k) p σ.2.1.2.2))) := by unfold sp_send; rw [if_neg (by rw [hb]; decide), hp, hkk]; exact if_neg h12
        rw [hsp]
        refine Mv.of pnX10_send (Nat.le_of_ble_eq_true rfl) rfl ?_
        refine r_iload_n 1 dX10_send_0 rfl rfl ?_
        refine r_callSp [_] dX10_send_1 ok_RX10_78 isX10_isStation rfl rfl (Nat.le_of_ble_eq_true rfl) (by refine ⟨?_, ?_, ?_, ?_⟩ <;> exact Nat.le_of_ble_eq_true rfl) (c_isStation _) ?_
        rw [hb]
        refine r_ifB_ne 9 dX10_send_4 (by decide) (fun h4 => ?_) (fun h4 => ?_)
        · refine r_aload_n 0 dX10_send_9 rfl rfl ?_
          refine r_callVi [] dX10_send_10 ok_RX10_74 ivX10_readPacket (by assumption) ⟨_, _, rfl⟩ rfl rfl (Nat.le_of_ble_eq_true rfl) (by refine ⟨?_, ?_, ?_, ?_⟩ <;> exact Nat.le_of_ble_eq_true rfl) (m_readPacket hL hR.1 hok.1) ?_
          intro vA mA uA
          rw [hp] at uA
          obtain ⟨uA, rfl, uP⟩ := uA
          have uR := hR.scr uA
          have uN := uR.2.1.1.2.2
          refine r_if_lt 19 dX10_send_13 (by decide) (fun h13 => ?_) (fun h13 => ?_)
          · refine r_aload_n 0 dX10_send_19 rfl rfl ?_
            refine r_iload_n 1 dX10_send_20 rfl rfl ?_
            refine r_aload_n 0 dX10_send_21 rfl rfl ?_
            refine r_getR dX10_send_22 fl_RX10_7 rfl (by assumption) (by assumption) ?_
            refine r_sipush (v := nI 1386) dX10_send_25 (by decide) ?_
            refine r_ialdV dX10_send_28 (by assumption) (by omega) (by omega) (by first | assumption | exact up2_same _ _ _ _ | exact (Eq.trans (up2_ne _ _ (by omega)) (by first | assumption | exact up2_same _ _ _ _)) | exact (Eq.trans (up2_ne _ _ (by omega)) (Eq.trans (up2_ne _ _ (by omega)) (by first | assumption | exact up2_same _ _ _ _))) | exact (Eq.trans (up2_ne _ _ (by omega)) (Eq.trans (up2_ne _ _ (by omega)) (Eq.trans (up2_ne _ _ (by omega)) (by first | assumption | exact up2_same _ _ _ _)))) | exact (Eq.trans (up2_ne _ _ (by omega)) (Eq.trans (up2_ne _ _ (by omega)) (Eq.trans (up2_ne _ _ (by omega)) (Eq.trans (up2_ne _ _ (by omega)) (by first | assumption | exact up2_same _ _ _ _))))) | rfl) ?_
            refine r_callVx [_, _] dX10_send_29 ok_RX10_113 ivX10_keep (by assumption) ⟨_, _, rfl⟩ rfl rfl (Nat.le_of_ble_eq_true rfl) (by refine ⟨?_, ?_, ?_, ?_⟩ <;> exact Nat.le_of_ble_eq_true rfl) (m_keepOk hL hk (uR.2.1.1.1 k hk).2.2.1 h12' hlS.2.1.2 uP hpk.2.2.1) ?_
            intro mB ⟨uK, uF, uO⟩
            have uS1 := (uR.2.1.1.1 k hk).kp hk hlS uF uK
            have uN1 : mB (o + 1) 1386 = nI σ.2.1.2.2 := by rw [uF.out (by omega)]; exact uN
            have uP1 : PkM (mB (o + 5)) 0 p := by rw [uO _ (by omega)]; exact uP
            have ulk : lk ((σ.2.1.1 k).1, (σ.2.1.1 k).2.1, (σ.2.1.1 k).2.2.1 ++ [(p, σ.2.1.2.2)], (σ.2.1.1 k).2.2.2) := ⟨hlS.1, ⟨by show (_ ++ [_]).length ≤ 12; rw [List.length_append]; show _ + 1 ≤ 12; omega, fun q hq => by rcases List.mem_append.mp hq with e | e; (exact hlS.2.1.2 q e); (rw [List.mem_singleton.mp e]; exact hpk.2.2.1)⟩, hlS.2.2⟩
            refine r_ifN_ne 38 dX10_send_32 (by decide) (by omega) (fun h32 => ?_) (fun h32 => ?_)
            · refine r_aload_n 0 dX10_send_38 rfl rfl ?_
              refine r_iload_n 1 dX10_send_39 rfl rfl ?_
              refine r_callVw [_] dX10_send_40 ok_RX10_116 ivX10_begin (by assumption) ⟨_, _, rfl⟩ rfl rfl (Nat.le_of_ble_eq_true rfl) (by refine ⟨?_, ?_, ?_, ?_⟩ <;> exact Nat.le_of_ble_eq_true rfl) (m_begin hL hk uS1.2.2.2.1 hoS.2.2.2.1 uP1 hpk uN1) ?_
              intro mC ⟨vK, vF, vO⟩
              have uS2 := uS1.kn hk ulk vF vK
              have uk2 : mC (o + 1) (150 + k) = nI ((σ.2.1.1 k).2.2.1.length + 1) := by (have := uS2.2.2.1.1; rw [this]; show nI (_ ++ [_]).length = _; rw [List.length_append]; rfl)
              have uk3 : up2 mC o 4 (nI 0) (o + 1) (150 + k) = nI ((σ.2.1.1 k).2.2.1.length + 1) := by rw [up2_row _ _ (by omega)]; exact uk2
              refine r_aload_n 0 dX10_send_43 rfl rfl ?_
              refine r_iconst (v := nI 0) dX10_send_44 (by decide) ?_
              refine r_putI dX10_send_45 fl_RX10_45 rfl rfl rfl (by assumption) ?_
              refine r_aload_n 0 dX10_send_48 rfl rfl ?_
              refine r_getR dX10_send_49 fl_RX10_7 rfl (by assumption) (by assumption) ?_
              refine r_sipush (v := nI 150) dX10_send_52 (by decide) ?_
              refine r_iload_n 1 dX10_send_55 rfl rfl ?_
              refine r_iaddN dX10_send_56 ?_
              refine r_ialdV dX10_send_57 (by assumption) (by omega) (by omega) (by first | assumption | exact up2_same _ _ _ _ | exact (Eq.trans (up2_ne _ _ (by omega)) (by first | assumption | exact up2_same _ _ _ _)) | exact (Eq.trans (up2_ne _ _ (by omega)) (Eq.trans (up2_ne _ _ (by omega)) (by first | assumption | exact up2_same _ _ _ _))) | exact (Eq.trans (up2_ne _ _ (by omega)) (Eq.trans (up2_ne _ _ (by omega)) (Eq.trans (up2_ne _ _ (by omega)) (by first | assumption | exact up2_same _ _ _ _)))) | exact (Eq.trans (up2_ne _ _ (by omega)) (Eq.trans (up2_ne _ _ (by omega)) (Eq.trans (up2_ne _ _ (by omega)) (Eq.trans (up2_ne _ _ (by omega)) (by first | assumption | exact up2_same _ _ _ _))))) | rfl) ?_
              refine r_iret dX10_send_58 rfl (Nat.le_of_ble_eq_true rfl) (Nat.le_of_ble_eq_true rfl) ?_
              have e1 : up2 mC o 4 (nI 0) (o + 1) = mC (o + 1) := up2_row _ _ (by omega)
              have eF : Fr k 0 1386 (mA (o + 1)) (mC (o + 1)) := (uF.lft (by omega)).tr (vF.lft (by omega))
              refine ⟨rfl, rfl, rfl, rfl, uR.st (st' := orig (stA σ k) p σ.2.1.2.2) hok hk (by rw [e1]; exact eF) (by rw [e1]; exact uS2) (fun hn => ?_) ⟨up2_same _ _ _ _, fun i y hy => by simp at hy⟩ (by rw [up2_row _ _ (by omega), vO _ (by omega), uO _ (by omega)]) (by rw [up2_row _ _ (by omega), vO _ (by omega), uO _ (by omega)]), fun q hq => ?_⟩
              · rw [e1, vF.out (by omega), uF.out (by omega)]; exact uR.2.1.2 k hk hn
              · rw [up2_row _ _ (by omega), vO _ (by omega), uO _ (by omega)]; exact uA.oth q hq
            · omega
          · exact absurd (by decide) h13
        · exact absurd h4 (by decide)
  · have hb' : stB s = false := by simpa using hb
    have hsp : sp_send σ s = (-1, σ) := by unfold sp_send; rw [if_pos hb']
    rw [hsp]
    refine Mv.of pnX10_send (Nat.le_of_ble_eq_true rfl) rfl ?_
    refine r_iload_n 1 dX10_send_0 rfl rfl ?_
    refine r_callSp [_] dX10_send_1 ok_RX10_78 isX10_isStation rfl rfl (Nat.le_of_ble_eq_true rfl) (by refine ⟨?_, ?_, ?_, ?_⟩ <;> exact Nat.le_of_ble_eq_true rfl) (c_isStation _) ?_
    rw [hb']
    refine r_ifB_ne 9 dX10_send_4 (by decide) (fun h4 => ?_) (fun h4 => ?_)
    · exact absurd h4 (by decide)
    · refine r_iconst (v := -1) dX10_send_7 (by decide) ?_
      refine r_iret dX10_send_8 rfl (Nat.le_of_ble_eq_true rfl) (Nat.le_of_ble_eq_true rfl) ?_
      exact ⟨rfl, rfl, rfl, PM.same hR⟩
end RAPI4
