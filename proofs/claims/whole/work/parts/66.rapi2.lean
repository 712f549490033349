section RAPI2
variable {z : Nat} {sh : SH} {mi : MI} {mr : MR} {o : Nat}
theorem se_calls {σ : Al} {N : Nat} (hR : RR mi o σ) (hok : okA σ N) : ∀ t, t < 6 → mi (o + 1) (0 + t) = nI (en 27 (stA σ t).1.1) ∧ en 27 (stA σ t).1.1 < 2 ^ 20 := fun t ht => ⟨by rw [Nat.zero_add]; exact (hR.2.1.1.1 t ht).1.1, by have := okL_27 (hok.2.1.1.1 t ht).1.1; unfold stA; omega⟩
theorem rn_none (hL : LM sh mr o) {P : List Nat} (hP : PdM mi o P) (hok : okD P) (hp : prsN P = none) : Mi mX10_readName 3 [.ref o] z sh mi mr (fun v m => v = some (.int (-6)) ∧ PG mi m o) := by
  have h := m_readName (z := z) hL hP hok
  rw [hp] at h; exact h
theorem rn_some (hL : LM sh mr o) {P : List Nat} (hP : PdM mi o P) (hok : okD P) {f : Nm} (hp : prsN P = some f) : Mi mX10_readName 3 [.ref o] z sh mi mr (fun v m => v = some (.int (nI (en 27 f))) ∧ PG mi m o) := by
  have h := m_readName (z := z) hL hP hok
  rw [hp] at h; exact h
theorem n_name (hL : LM sh mr o) {σ : Al} {N : Nat} (hR : RR mi o σ) (hok : okA σ N) (s w : Int32) : Mi mX10_name 4 [.ref o, .int s, .int w] z sh mi mr (PM mi o (sp_name σ s w)) := by
  obtain ⟨l0, -⟩ := id hL
  by_cases hb : stB s = true
  · by_cases hw : inB w (nI 0) (nI 2) = true
    · cases hp : prsN σ.1 with
      | none =>
        refine Mv.of pnX10_name (Nat.le_of_ble_eq_true rfl) rfl ?_
        refine r_iload_n 1 dX10_name_0 rfl rfl ?_
        refine r_callSp [_] dX10_name_1 ok_RX10_78 isX10_isStation rfl rfl (Nat.le_of_ble_eq_true rfl) (by refine ⟨?_, ?_, ?_, ?_⟩ <;> exact Nat.le_of_ble_eq_true rfl) (c_isStation _) ?_
        rw [hb]
        refine r_ifB_ne 9 dX10_name_4 (by decide) (fun h4 => ?_) (fun h4 => ?_)
        · refine r_iload_n 2 dX10_name_9 rfl rfl ?_
          refine r_iconst (v := nI 0) dX10_name_10 (by decide) ?_
          refine r_iconst (v := nI 2) dX10_name_11 (by decide) ?_
          refine r_callSp [_, _, _] dX10_name_12 ok_RX10_41 isX10_in rfl rfl (Nat.le_of_ble_eq_true rfl) (by refine ⟨?_, ?_, ?_, ?_⟩ <;> exact Nat.le_of_ble_eq_true rfl) (c_in _ _ _) ?_
          rw [hw]
          refine r_ifB_ne 21 dX10_name_15 (by decide) (fun h15 => ?_) (fun h15 => ?_)
          · refine r_aload_n 0 dX10_name_21 rfl rfl ?_
            refine r_callVx [] dX10_name_22 ok_RX10_81 ivX10_readName (by assumption) ⟨_, _, rfl⟩ rfl rfl (Nat.le_of_ble_eq_true rfl) (by refine ⟨?_, ?_, ?_, ?_⟩ <;> exact Nat.le_of_ble_eq_true rfl) (rn_none hL hR.1 hok.1 hp) ?_
            intro mA uA
            refine r_istore_n 3 (ls2 := [_, _, _, _]) dX10_name_25 rfl (by decide) (Nat.le_of_ble_eq_true rfl) rfl ?_
            refine r_iload_n 3 dX10_name_26 rfl rfl ?_
            refine r_if_ge 33 dX10_name_27 (by decide) (fun h27 => ?_) (fun h27 => ?_)
            · exact absurd h27 (by decide)
            · refine r_bipush (v := -7) dX10_name_30 (by decide) ?_
              refine r_iret dX10_name_32 rfl (Nat.le_of_ble_eq_true rfl) (Nat.le_of_ble_eq_true rfl) ?_
              refine ⟨rfl, rfl, rfl, ?_⟩
              unfold sp_name
              rw [if_neg (by rw [hb]; decide), if_neg (by rw [hw]; decide), hp]
              exact PM.scr hR uA
          · exact absurd h15 (by decide)
        · exact absurd h4 (by decide)
      | some nm =>
        have hnm := prsN_ok hp
        have hlt := okL_27 hnm
        obtain ⟨k, hk, rfl⟩ := st_ex hb
        have hkk : sk (nI k) = k := sk_nI (by omega)
        obtain ⟨j, j1, j2, rfl⟩ := inB_ex (by omega) hw (by omega)
        have hse := (hok.2.1.1.1 k hk).1
        have hseM := (hR.2.1.1.1 k hk).1
        have hsp : sp_name σ (nI k) (nI j) = if nI j = nI 0 then (if ∃ t, t < 6 ∧ t ≠ k ∧ (stA σ t).1.1 = nm then (-3, σ) else (nI 1, noP (upA σ k ((nm, (stA σ k).1.2), (stA σ k).2)))) else if nI j = nI 1 then (if 2 ≤ (stA σ k).1.2.1.length then (-4, σ) else (nI ((stA σ k).1.2.1.length + 1), noP (upA σ k (((stA σ k).1.1, (stA σ k).1.2.1 ++ [nm], (stA σ k).1.2.2), (stA σ k).2)))) else (if 2 ≤ (stA σ k).1.2.2.1.length then (-4, σ) else (nI ((stA σ k).1.2.2.1.length + 1), noP (upA σ k (((stA σ k).1.1, (stA σ k).1.2.1, (stA σ k).1.2.2.1 ++ [nm], (stA σ k).1.2.2.2), (stA σ k).2)))) := by
          unfold sp_name
          rw [if_neg (by rw [hb]; decide), if_neg (by rw [hw]; decide), hp, hkk]
        have hj : j = 0 ∨ j = 1 ∨ j = 2 := by omega
        rcases hj with rfl | rfl | rfl
        · rw [if_pos rfl] at hsp
          by_cases he : ∃ t, t < 6 ∧ t ≠ k ∧ (stA σ t).1.1 = nm
          · rw [if_pos he] at hsp
            refine Mv.of pnX10_name (Nat.le_of_ble_eq_true rfl) rfl ?_
            refine r_iload_n 1 dX10_name_0 rfl rfl ?_
            refine r_callSp [_] dX10_name_1 ok_RX10_78 isX10_isStation rfl rfl (Nat.le_of_ble_eq_true rfl) (by refine ⟨?_, ?_, ?_, ?_⟩ <;> exact Nat.le_of_ble_eq_true rfl) (c_isStation _) ?_
            rw [hb]
            refine r_ifB_ne 9 dX10_name_4 (by decide) (fun h4 => ?_) (fun h4 => ?_)
            · refine r_iload_n 2 dX10_name_9 rfl rfl ?_
              refine r_iconst (v := nI 0) dX10_name_10 (by decide) ?_
              refine r_iconst (v := nI 2) dX10_name_11 (by decide) ?_
              refine r_callSp [_, _, _] dX10_name_12 ok_RX10_41 isX10_in rfl rfl (Nat.le_of_ble_eq_true rfl) (by refine ⟨?_, ?_, ?_, ?_⟩ <;> exact Nat.le_of_ble_eq_true rfl) (c_in _ _ _) ?_
              rw [hw]
              refine r_ifB_ne 21 dX10_name_15 (by decide) (fun h15 => ?_) (fun h15 => ?_)
              · refine r_aload_n 0 dX10_name_21 rfl rfl ?_
                refine r_callVx [] dX10_name_22 ok_RX10_81 ivX10_readName (by assumption) ⟨_, _, rfl⟩ rfl rfl (Nat.le_of_ble_eq_true rfl) (by refine ⟨?_, ?_, ?_, ?_⟩ <;> exact Nat.le_of_ble_eq_true rfl) (rn_some hL hR.1 hok.1 hp) ?_
                intro mA uA
                have uR := hR.scr uA
                refine r_istore_n 3 (ls2 := [_, _, _, _]) dX10_name_25 rfl (by decide) (Nat.le_of_ble_eq_true rfl) rfl ?_
                refine r_iload_n 3 dX10_name_26 rfl rfl ?_
                refine r_ifN_ge 33 dX10_name_27 (by decide) (by omega) ?_
                refine r_iload_n 2 dX10_name_33 rfl rfl ?_
                refine r_ifN_ne 46 dX10_name_34 (by decide) (by omega) (fun h34 => ?_) (fun h34 => ?_)
                · omega
                · refine r_aload_n 0 dX10_name_37 rfl rfl ?_
                  refine r_iload_n 1 dX10_name_38 rfl rfl ?_
                  refine r_iload_n 3 dX10_name_39 rfl rfl ?_
                  refine r_callVp [_, _] dX10_name_40 ok_RX10_84 ivX10_call (by assumption) ⟨_, _, rfl⟩ rfl rfl (Nat.le_of_ble_eq_true rfl) (by refine ⟨?_, ?_, ?_, ?_⟩ <;> exact Nat.le_of_ble_eq_true rfl) (m_callNo hL (se_calls uR hok) hk (by omega) (by obtain ⟨t, t1, t2, t3⟩ := he; exact ⟨t, t1, t2, by rw [t3]⟩)) ?_
                  refine r_goto 76 dX10_name_43 (by decide) ?_
                  refine r_iret dX10_name_76 rfl (Nat.le_of_ble_eq_true rfl) (Nat.le_of_ble_eq_true rfl) ?_
                  refine ⟨rfl, rfl, rfl, ?_⟩
                  rw [hsp]
                  exact PM.scr hR uA
              · exact absurd h15 (by decide)
            · exact absurd h4 (by decide)
          · rw [if_neg he] at hsp
            refine Mv.of pnX10_name (Nat.le_of_ble_eq_true rfl) rfl ?_
            refine r_iload_n 1 dX10_name_0 rfl rfl ?_
            refine r_callSp [_] dX10_name_1 ok_RX10_78 isX10_isStation rfl rfl (Nat.le_of_ble_eq_true rfl) (by refine ⟨?_, ?_, ?_, ?_⟩ <;> exact Nat.le_of_ble_eq_true rfl) (c_isStation _) ?_
            rw [hb]
            refine r_ifB_ne 9 dX10_name_4 (by decide) (fun h4 => ?_) (fun h4 => ?_)
            · refine r_iload_n 2 dX10_name_9 rfl rfl ?_
              refine r_iconst (v := nI 0) dX10_name_10 (by decide) ?_
              refine r_iconst (v := nI 2) dX10_name_11 (by decide) ?_
              refine r_callSp [_, _, _] dX10_name_12 ok_RX10_41 isX10_in rfl rfl (Nat.le_of_ble_eq_true rfl) (by refine ⟨?_, ?_, ?_, ?_⟩ <;> exact Nat.le_of_ble_eq_true rfl) (c_in _ _ _) ?_
              rw [hw]
              refine r_ifB_ne 21 dX10_name_15 (by decide) (fun h15 => ?_) (fun h15 => ?_)
              · refine r_aload_n 0 dX10_name_21 rfl rfl ?_
                refine r_callVx [] dX10_name_22 ok_RX10_81 ivX10_readName (by assumption) ⟨_, _, rfl⟩ rfl rfl (Nat.le_of_ble_eq_true rfl) (by refine ⟨?_, ?_, ?_, ?_⟩ <;> exact Nat.le_of_ble_eq_true rfl) (rn_some hL hR.1 hok.1 hp) ?_
                intro mA uA
                have uR := hR.scr uA
                refine r_istore_n 3 (ls2 := [_, _, _, _]) dX10_name_25 rfl (by decide) (Nat.le_of_ble_eq_true rfl) rfl ?_
                refine r_iload_n 3 dX10_name_26 rfl rfl ?_
                refine r_ifN_ge 33 dX10_name_27 (by decide) (by omega) ?_
                refine r_iload_n 2 dX10_name_33 rfl rfl ?_
                refine r_ifN_ne 46 dX10_name_34 (by decide) (by omega) (fun h34 => ?_) (fun h34 => ?_)
                · omega
                · refine r_aload_n 0 dX10_name_37 rfl rfl ?_
                  refine r_iload_n 1 dX10_name_38 rfl rfl ?_
                  refine r_iload_n 3 dX10_name_39 rfl rfl ?_
                  refine r_callVx [_, _] dX10_name_40 ok_RX10_84 ivX10_call (by assumption) ⟨_, _, rfl⟩ rfl rfl (Nat.le_of_ble_eq_true rfl) (by refine ⟨?_, ?_, ?_, ?_⟩ <;> exact Nat.le_of_ble_eq_true rfl) (m_callYes hL (se_calls uR hok) hk (by omega) (fun t t1 t2 e => he ⟨t, t1, t2, (okL_inj (hok.2.1.1.1 t t1).1.1 hnm (by omega)).mp e⟩)) ?_
                  intro mB uB
                  subst uB
                  refine r_goto 76 dX10_name_43 (by decide) ?_
                  refine r_iret dX10_name_76 rfl (Nat.le_of_ble_eq_true rfl) (Nat.le_of_ble_eq_true rfl) ?_
                  refine ⟨rfl, rfl, rfl, ?_⟩
                  rw [hsp, Nat.zero_add]
                  have er : up2 (up2 mA (o + 1) k (nI (en 27 nm))) o 4 (nI 0) (o + 1) = up2 mA (o + 1) k (nI (en 27 nm)) (o + 1) := up2_row _ _ (by omega)
                  refine ⟨rfl, uR.se (se' := (nm, (stA σ k).1.2)) hok hk ?_ ?_ ⟨up2_same _ _ _ _, fun i y hy => by simp at hy⟩ (by rw [up2_row _ _ (by omega), up2_row _ _ (by omega)]) (by rw [up2_row _ _ (by omega), up2_row _ _ (by omega)]), fun q hq => by rw [up2_row _ _ (by omega), up2_row _ _ (by omega)]; exact uA.oth q hq⟩
                  · rw [er]; exact Fr.up (ow_se hk (Or.inl rfl)).1 (Nat.zero_le _) (by omega)
                  · rw [er]; exact ((uR.2.1.1.1 k hk).1).call hk (up2_same _ _ _ _) (fun i hi => up2_ne _ _ (Or.inr hi))
              · exact absurd h15 (by decide)
            · exact absurd h4 (by decide)
        · rw [if_neg (by decide), if_pos rfl] at hsp
          have hlen := hseM.2.1.1
          by_cases h2 : 2 ≤ (stA σ k).1.2.1.length
          · rw [if_pos h2] at hsp
            refine Mv.of pnX10_name (Nat.le_of_ble_eq_true rfl) rfl ?_
            refine r_iload_n 1 dX10_name_0 rfl rfl ?_
            refine r_callSp [_] dX10_name_1 ok_RX10_78 isX10_isStation rfl rfl (Nat.le_of_ble_eq_true rfl) (by refine ⟨?_, ?_, ?_, ?_⟩ <;> exact Nat.le_of_ble_eq_true rfl) (c_isStation _) ?_
            rw [hb]
            refine r_ifB_ne 9 dX10_name_4 (by decide) (fun h4 => ?_) (fun h4 => ?_)
            · refine r_iload_n 2 dX10_name_9 rfl rfl ?_
              refine r_iconst (v := nI 0) dX10_name_10 (by decide) ?_
              refine r_iconst (v := nI 2) dX10_name_11 (by decide) ?_
              refine r_callSp [_, _, _] dX10_name_12 ok_RX10_41 isX10_in rfl rfl (Nat.le_of_ble_eq_true rfl) (by refine ⟨?_, ?_, ?_, ?_⟩ <;> exact Nat.le_of_ble_eq_true rfl) (c_in _ _ _) ?_
              rw [hw]
              refine r_ifB_ne 21 dX10_name_15 (by decide) (fun h15 => ?_) (fun h15 => ?_)
              · refine r_aload_n 0 dX10_name_21 rfl rfl ?_
                refine r_callVx [] dX10_name_22 ok_RX10_81 ivX10_readName (by assumption) ⟨_, _, rfl⟩ rfl rfl (Nat.le_of_ble_eq_true rfl) (by refine ⟨?_, ?_, ?_, ?_⟩ <;> exact Nat.le_of_ble_eq_true rfl) (rn_some hL hR.1 hok.1 hp) ?_
                intro mA uA
                have uR := hR.scr uA
                have ulen := (uR.2.1.1.1 k hk).1.2.1.1
                refine r_istore_n 3 (ls2 := [_, _, _, _]) dX10_name_25 rfl (by decide) (Nat.le_of_ble_eq_true rfl) rfl ?_
                refine r_iload_n 3 dX10_name_26 rfl rfl ?_
                refine r_ifN_ge 33 dX10_name_27 (by decide) (by omega) ?_
                refine r_iload_n 2 dX10_name_33 rfl rfl ?_
                refine r_ifN_ne 46 dX10_name_34 (by decide) (by omega) (fun h34 => ?_) (fun h34 => ?_)
                · refine r_aload_n 0 dX10_name_46 rfl rfl ?_
                  refine r_iload_n 1 dX10_name_47 rfl rfl ?_
                  refine r_iload_n 3 dX10_name_48 rfl rfl ?_
                  refine r_iload_n 2 dX10_name_49 rfl rfl ?_
                  refine r_iconst (v := nI 1) dX10_name_50 (by decide) ?_
                  refine r_icmpN_ne 59 dX10_name_51 (by decide) (by omega) (by omega) (fun h51 => ?_) (fun h51 => ?_)
                  · omega
                  · refine r_bipush (v := nI 6) dX10_name_54 (by decide) ?_
                    refine r_goto 61 dX10_name_56 (by decide) ?_
                    refine r_iload_n 2 dX10_name_61 rfl rfl ?_
                    refine r_iconst (v := nI 1) dX10_name_62 (by decide) ?_
                    refine r_icmpN_ne 71 dX10_name_63 (by decide) (by omega) (by omega) (fun h63 => ?_) (fun h63 => ?_)
                    · omega
                    · refine r_bipush (v := nI 18) dX10_name_66 (by decide) ?_
                      refine r_goto 73 dX10_name_68 (by decide) ?_
                      refine r_callVp [_, _, _, _] dX10_name_73 ok_RX10_87 ivX10_more (by assumption) ⟨_, _, rfl⟩ rfl rfl (Nat.le_of_ble_eq_true rfl) (by refine ⟨?_, ?_, ?_, ?_⟩ <;> exact Nat.le_of_ble_eq_true rfl) (m_moreNo hL (n := (stA σ k).1.2.1.length) (by omega) ulen (by have := hse.2.1.1; unfold stA at h2 ⊢; omega)) ?_
                      refine r_iret dX10_name_76 rfl (Nat.le_of_ble_eq_true rfl) (Nat.le_of_ble_eq_true rfl) ?_
                      refine ⟨rfl, rfl, rfl, ?_⟩
                      rw [hsp]
                      exact PM.scr hR uA
                · omega
              · exact absurd h15 (by decide)
            · exact absurd h4 (by decide)
          · rw [if_neg h2] at hsp
            refine Mv.of pnX10_name (Nat.le_of_ble_eq_true rfl) rfl ?_
            refine r_iload_n 1 dX10_name_0 rfl rfl ?_
            refine r_callSp [_] dX10_name_1 ok_RX10_78 isX10_isStation rfl rfl (Nat.le_of_ble_eq_true rfl) (by refine ⟨?_, ?_, ?_, ?_⟩ <;> exact Nat.le_of_ble_eq_true rfl) (c_isStation _) ?_
            rw [hb]
            refine r_ifB_ne 9 dX10_name_4 (by decide) (fun h4 => ?_) (fun h4 => ?_)
            · refine r_iload_n 2 dX10_name_9 rfl rfl ?_
              refine r_iconst (v := nI 0) dX10_name_10 (by decide) ?_
              refine r_iconst (v := nI 2) dX10_name_11 (by decide) ?_
              refine r_callSp [_, _, _] dX10_name_12 ok_RX10_41 isX10_in rfl rfl (Nat.le_of_ble_eq_true rfl) (by refine ⟨?_, ?_, ?_, ?_⟩ <;> exact Nat.le_of_ble_eq_true rfl) (c_in _ _ _) ?_
              rw [hw]
              refine r_ifB_ne 21 dX10_name_15 (by decide) (fun h15 => ?_) (fun h15 => ?_)
              · refine r_aload_n 0 dX10_name_21 rfl rfl ?_
                refine r_callVx [] dX10_name_22 ok_RX10_81 ivX10_readName (by assumption) ⟨_, _, rfl⟩ rfl rfl (Nat.le_of_ble_eq_true rfl) (by refine ⟨?_, ?_, ?_, ?_⟩ <;> exact Nat.le_of_ble_eq_true rfl) (rn_some hL hR.1 hok.1 hp) ?_
                intro mA uA
                have uR := hR.scr uA
                have ulen := (uR.2.1.1.1 k hk).1.2.1.1
                refine r_istore_n 3 (ls2 := [_, _, _, _]) dX10_name_25 rfl (by decide) (Nat.le_of_ble_eq_true rfl) rfl ?_
                refine r_iload_n 3 dX10_name_26 rfl rfl ?_
                refine r_ifN_ge 33 dX10_name_27 (by decide) (by omega) ?_
                refine r_iload_n 2 dX10_name_33 rfl rfl ?_
                refine r_ifN_ne 46 dX10_name_34 (by decide) (by omega) (fun h34 => ?_) (fun h34 => ?_)
                · refine r_aload_n 0 dX10_name_46 rfl rfl ?_
                  refine r_iload_n 1 dX10_name_47 rfl rfl ?_
                  refine r_iload_n 3 dX10_name_48 rfl rfl ?_
                  refine r_iload_n 2 dX10_name_49 rfl rfl ?_
                  refine r_iconst (v := nI 1) dX10_name_50 (by decide) ?_
                  refine r_icmpN_ne 59 dX10_name_51 (by decide) (by omega) (by omega) (fun h51 => ?_) (fun h51 => ?_)
                  · omega
                  · refine r_bipush (v := nI 6) dX10_name_54 (by decide) ?_
                    refine r_goto 61 dX10_name_56 (by decide) ?_
                    refine r_iload_n 2 dX10_name_61 rfl rfl ?_
                    refine r_iconst (v := nI 1) dX10_name_62 (by decide) ?_
                    refine r_icmpN_ne 71 dX10_name_63 (by decide) (by omega) (by omega) (fun h63 => ?_) (fun h63 => ?_)
                    · omega
                    · refine r_bipush (v := nI 18) dX10_name_66 (by decide) ?_
                      refine r_goto 73 dX10_name_68 (by decide) ?_
                      refine r_callVx [_, _, _, _] dX10_name_73 ok_RX10_87 ivX10_more (by assumption) ⟨_, _, rfl⟩ rfl rfl (Nat.le_of_ble_eq_true rfl) (by refine ⟨?_, ?_, ?_, ?_⟩ <;> exact Nat.le_of_ble_eq_true rfl) (m_more hL (n := (stA σ k).1.2.1.length) (by omega) (by omega) (by omega) ulen (by omega)) ?_
                      intro mB uB
                      subst uB
                      refine r_iret dX10_name_76 rfl (Nat.le_of_ble_eq_true rfl) (Nat.le_of_ble_eq_true rfl) ?_
                      refine ⟨rfl, rfl, rfl, ?_⟩
                      rw [hsp]
                      generalize hln : (stA σ k).1.2.1.length = ln at *
                      have er : up2 (up2 (up2 mA (o + 1) (6 + 2 * k + ln) (nI (en 27 nm))) (o + 1) (18 + k) (nI (ln + 1))) o 4 (nI 0) (o + 1) = up2 (up2 mA (o + 1) (6 + 2 * k + ln) (nI (en 27 nm))) (o + 1) (18 + k) (nI (ln + 1)) (o + 1) := up2_row _ _ (by omega)
                      refine ⟨rfl, uR.se (se' := ((stA σ k).1.1, (stA σ k).1.2.1 ++ [nm], (stA σ k).1.2.2)) hok hk ?_ ?_ ⟨up2_same _ _ _ _, fun i y hy => by simp at hy⟩ (by rw [up2_row _ _ (by omega), up2_row _ _ (by omega), up2_row _ _ (by omega)]) (by rw [up2_row _ _ (by omega), up2_row _ _ (by omega), up2_row _ _ (by omega)]), fun q hq => by rw [up2_row _ _ (by omega), up2_row _ _ (by omega), up2_row _ _ (by omega)]; exact uA.oth q hq⟩
                      · rw [er]; exact Fr.tr (Fr.up (ow_se hk (by omega)).1 (Nat.zero_le _) (by omega)) (Fr.up (ow_se hk (by omega)).1 (Nat.zero_le _) (by omega))
                      · rw [er]; refine ((uR.2.1.1.1 k hk).1).sta hk (by show (stA σ k).1.2.1.length < 2; omega) hse.2.2.1.1 (by rw [up2_same]; show nI (ln + 1) = nI ((stA σ k).1.2.1.length + 1); rw [hln]) ?_ (fun i hi hi2 => ?_)
                        · rw [hln, up2_ne _ _ (Or.inr (by omega)), up2_same]
                        · have hi2 : i ≠ 6 + 2 * k + (stA σ k).1.2.1.length := hi2
                          rw [up2_ne _ _ (Or.inr hi), up2_ne _ _ (Or.inr (by omega))]
                · omega
              · exact absurd h15 (by decide)
            · exact absurd h4 (by decide)
        · rw [if_neg (by decide), if_neg (by decide)] at hsp
          have hlen := hseM.2.2.1.1
          by_cases h2 : 2 ≤ (stA σ k).1.2.2.1.length
          · rw [if_pos h2] at hsp
            refine Mv.of pnX10_name (Nat.le_of_ble_eq_true rfl) rfl ?_
            refine r_iload_n 1 dX10_name_0 rfl rfl ?_
            refine r_callSp [_] dX10_name_1 ok_RX10_78 isX10_isStation rfl rfl (Nat.le_of_ble_eq_true rfl) (by refine ⟨?_, ?_, ?_, ?_⟩ <;> exact Nat.le_of_ble_eq_true rfl) (c_isStation _) ?_
            rw [hb]
            refine r_ifB_ne 9 dX10_name_4 (by decide) (fun h4 => ?_) (fun h4 => ?_)
            · refine r_iload_n 2 dX10_name_9 rfl rfl ?_
              refine r_iconst (v := nI 0) dX10_name_10 (by decide) ?_
              refine r_iconst (v := nI 2) dX10_name_11 (by decide) ?_
              refine r_callSp [_, _, _] dX10_name_12 ok_RX10_41 isX10_in rfl rfl (Nat.le_of_ble_eq_true rfl) (by refine ⟨?_, ?_, ?_, ?_⟩ <;> exact Nat.le_of_ble_eq_true rfl) (c_in _ _ _) ?_
              rw [hw]
              refine r_ifB_ne 21 dX10_name_15 (by decide) (fun h15 => ?_) (fun h15 => ?_)
              · refine r_aload_n 0 dX10_name_21 rfl rfl ?_
                refine r_callVx [] dX10_name_22 ok_RX10_81 ivX10_readName (by assumption) ⟨_, _, rfl⟩ rfl rfl (Nat.le_of_ble_eq_true rfl) (by refine ⟨?_, ?_, ?_, ?_⟩ <;> exact Nat.le_of_ble_eq_true rfl) (rn_some hL hR.1 hok.1 hp) ?_
                intro mA uA
                have uR := hR.scr uA
                have ulen := (uR.2.1.1.1 k hk).1.2.2.1.1
                refine r_istore_n 3 (ls2 := [_, _, _, _]) dX10_name_25 rfl (by decide) (Nat.le_of_ble_eq_true rfl) rfl ?_
                refine r_iload_n 3 dX10_name_26 rfl rfl ?_
                refine r_ifN_ge 33 dX10_name_27 (by decide) (by omega) ?_
                refine r_iload_n 2 dX10_name_33 rfl rfl ?_
                refine r_ifN_ne 46 dX10_name_34 (by decide) (by omega) (fun h34 => ?_) (fun h34 => ?_)
                · refine r_aload_n 0 dX10_name_46 rfl rfl ?_
                  refine r_iload_n 1 dX10_name_47 rfl rfl ?_
                  refine r_iload_n 3 dX10_name_48 rfl rfl ?_
                  refine r_iload_n 2 dX10_name_49 rfl rfl ?_
                  refine r_iconst (v := nI 1) dX10_name_50 (by decide) ?_
                  refine r_icmpN_ne 59 dX10_name_51 (by decide) (by omega) (by omega) (fun h51 => ?_) (fun h51 => ?_)
                  · refine r_bipush (v := nI 24) dX10_name_59 (by decide) ?_
                    refine r_iload_n 2 dX10_name_61 rfl rfl ?_
                    refine r_iconst (v := nI 1) dX10_name_62 (by decide) ?_
                    refine r_icmpN_ne 71 dX10_name_63 (by decide) (by omega) (by omega) (fun h63 => ?_) (fun h63 => ?_)
                    · refine r_bipush (v := nI 36) dX10_name_71 (by decide) ?_
                      refine r_callVp [_, _, _, _] dX10_name_73 ok_RX10_87 ivX10_more (by assumption) ⟨_, _, rfl⟩ rfl rfl (Nat.le_of_ble_eq_true rfl) (by refine ⟨?_, ?_, ?_, ?_⟩ <;> exact Nat.le_of_ble_eq_true rfl) (m_moreNo hL (n := (stA σ k).1.2.2.1.length) (by omega) ulen (by have := hse.2.2.1.1; unfold stA at h2 ⊢; omega)) ?_
                      refine r_iret dX10_name_76 rfl (Nat.le_of_ble_eq_true rfl) (Nat.le_of_ble_eq_true rfl) ?_
                      refine ⟨rfl, rfl, rfl, ?_⟩
                      rw [hsp]
                      exact PM.scr hR uA
                    · omega
                  · omega
                · omega
              · exact absurd h15 (by decide)
            · exact absurd h4 (by decide)
          · rw [if_neg h2] at hsp
            refine Mv.of pnX10_name (Nat.le_of_ble_eq_true rfl) rfl ?_
            refine r_iload_n 1 dX10_name_0 rfl rfl ?_
            refine r_callSp [_] dX10_name_1 ok_RX10_78 isX10_isStation rfl rfl (Nat.le_of_ble_eq_true rfl) (by refine ⟨?_, ?_, ?_, ?_⟩ <;> exact Nat.le_of_ble_eq_true rfl) (c_isStation _) ?_
            rw [hb]
            refine r_ifB_ne 9 dX10_name_4 (by decide) (fun h4 => ?_) (fun h4 => ?_)
            · refine r_iload_n 2 dX10_name_9 rfl rfl ?_
              refine r_iconst (v := nI 0) dX10_name_10 (by decide) ?_
              refine r_iconst (v := nI 2) dX10_name_11 (by decide) ?_
              refine r_callSp [_, _, _] dX10_name_12 ok_RX10_41 isX10_in rfl rfl (Nat.le_of_ble_eq_true rfl) (by refine ⟨?_, ?_, ?_, ?_⟩ <;> exact Nat.le_of_ble_eq_true rfl) (c_in _ _ _) ?_
              rw [hw]
              refine r_ifB_ne 21 dX10_name_15 (by decide) (fun h15 => ?_) (fun h15 => ?_)
              · refine r_aload_n 0 dX10_name_21 rfl rfl ?_
                refine r_callVx [] dX10_name_22 ok_RX10_81 ivX10_readName (by assumption) ⟨_, _, rfl⟩ rfl rfl (Nat.le_of_ble_eq_true rfl) (by refine ⟨?_, ?_, ?_, ?_⟩ <;> exact Nat.le_of_ble_eq_true rfl) (rn_some hL hR.1 hok.1 hp) ?_
                intro mA uA
                have uR := hR.scr uA
                have ulen := (uR.2.1.1.1 k hk).1.2.2.1.1
                refine r_istore_n 3 (ls2 := [_, _, _, _]) dX10_name_25 rfl (by decide) (Nat.le_of_ble_eq_true rfl) rfl ?_
                refine r_iload_n 3 dX10_name_26 rfl rfl ?_
                refine r_ifN_ge 33 dX10_name_27 (by decide) (by omega) ?_
                refine r_iload_n 2 dX10_name_33 rfl rfl ?_
                refine r_ifN_ne 46 dX10_name_34 (by decide) (by omega) (fun h34 => ?_) (fun h34 => ?_)
                · refine r_aload_n 0 dX10_name_46 rfl rfl ?_
                  refine r_iload_n 1 dX10_name_47 rfl rfl ?_
                  refine r_iload_n 3 dX10_name_48 rfl rfl ?_
                  refine r_iload_n 2 dX10_name_49 rfl rfl ?_
                  refine r_iconst (v := nI 1) dX10_name_50 (by decide) ?_
                  refine r_icmpN_ne 59 dX10_name_51 (by decide) (by omega) (by omega) (fun h51 => ?_) (fun h51 => ?_)
                  · refine r_bipush (v := nI 24) dX10_name_59 (by decide) ?_
                    refine r_iload_n 2 dX10_name_61 rfl rfl ?_
                    refine r_iconst (v := nI 1) dX10_name_62 (by decide) ?_
                    refine r_icmpN_ne 71 dX10_name_63 (by decide) (by omega) (by omega) (fun h63 => ?_) (fun h63 => ?_)
                    · refine r_bipush (v := nI 36) dX10_name_71 (by decide) ?_
                      refine r_callVx [_, _, _, _] dX10_name_73 ok_RX10_87 ivX10_more (by assumption) ⟨_, _, rfl⟩ rfl rfl (Nat.le_of_ble_eq_true rfl) (by refine ⟨?_, ?_, ?_, ?_⟩ <;> exact Nat.le_of_ble_eq_true rfl) (m_more hL (n := (stA σ k).1.2.2.1.length) (by omega) (by omega) (by omega) ulen (by omega)) ?_
                      intro mB uB
                      subst uB
                      refine r_iret dX10_name_76 rfl (Nat.le_of_ble_eq_true rfl) (Nat.le_of_ble_eq_true rfl) ?_
                      refine ⟨rfl, rfl, rfl, ?_⟩
                      rw [hsp]
                      generalize hln : (stA σ k).1.2.2.1.length = ln at *
                      have er : up2 (up2 (up2 mA (o + 1) (24 + 2 * k + ln) (nI (en 27 nm))) (o + 1) (36 + k) (nI (ln + 1))) o 4 (nI 0) (o + 1) = up2 (up2 mA (o + 1) (24 + 2 * k + ln) (nI (en 27 nm))) (o + 1) (36 + k) (nI (ln + 1)) (o + 1) := up2_row _ _ (by omega)
                      refine ⟨rfl, uR.se (se' := ((stA σ k).1.1, (stA σ k).1.2.1, (stA σ k).1.2.2.1 ++ [nm], (stA σ k).1.2.2.2)) hok hk ?_ ?_ ⟨up2_same _ _ _ _, fun i y hy => by simp at hy⟩ (by rw [up2_row _ _ (by omega), up2_row _ _ (by omega), up2_row _ _ (by omega)]) (by rw [up2_row _ _ (by omega), up2_row _ _ (by omega), up2_row _ _ (by omega)]), fun q hq => by rw [up2_row _ _ (by omega), up2_row _ _ (by omega), up2_row _ _ (by omega)]; exact uA.oth q hq⟩
                      · rw [er]; exact Fr.tr (Fr.up (ow_se hk (by omega)).1 (Nat.zero_le _) (by omega)) (Fr.up (ow_se hk (by omega)).1 (Nat.zero_le _) (by omega))
                      · rw [er]; refine ((uR.2.1.1.1 k hk).1).flo hk (by show (stA σ k).1.2.2.1.length < 2; omega) hse.2.1.1 (by rw [up2_same]; show nI (ln + 1) = nI ((stA σ k).1.2.2.1.length + 1); rw [hln]) ?_ (fun i hi hi2 => ?_)
                        · rw [hln, up2_ne _ _ (Or.inr (by omega)), up2_same]
                        · have hi2 : i ≠ 24 + 2 * k + (stA σ k).1.2.2.1.length := hi2
                          rw [up2_ne _ _ (Or.inr hi), up2_ne _ _ (Or.inr (by omega))]
                    · omega
                  · omega
                · omega
              · exact absurd h15 (by decide)
            · exact absurd h4 (by decide)
    · have hw' : inB w (nI 0) (nI 2) = false := by simpa using hw
      refine Mv.of pnX10_name (Nat.le_of_ble_eq_true rfl) rfl ?_
      refine r_iload_n 1 dX10_name_0 rfl rfl ?_
      refine r_callSp [_] dX10_name_1 ok_RX10_78 isX10_isStation rfl rfl (Nat.le_of_ble_eq_true rfl) (by refine ⟨?_, ?_, ?_, ?_⟩ <;> exact Nat.le_of_ble_eq_true rfl) (c_isStation _) ?_
      rw [hb]
      refine r_ifB_ne 9 dX10_name_4 (by decide) (fun h4 => ?_) (fun h4 => ?_)
      · refine r_iload_n 2 dX10_name_9 rfl rfl ?_
        refine r_iconst (v := nI 0) dX10_name_10 (by decide) ?_
        refine r_iconst (v := nI 2) dX10_name_11 (by decide) ?_
        refine r_callSp [_, _, _] dX10_name_12 ok_RX10_41 isX10_in rfl rfl (Nat.le_of_ble_eq_true rfl) (by refine ⟨?_, ?_, ?_, ?_⟩ <;> exact Nat.le_of_ble_eq_true rfl) (c_in _ _ _) ?_
        rw [hw']
        refine r_ifB_ne 21 dX10_name_15 (by decide) (fun h15 => ?_) (fun h15 => ?_)
        · exact absurd h15 (by decide)
        · refine r_bipush (v := -2) dX10_name_18 (by decide) ?_
          refine r_iret dX10_name_20 rfl (Nat.le_of_ble_eq_true rfl) (Nat.le_of_ble_eq_true rfl) ?_
          refine ⟨rfl, rfl, rfl, ?_⟩
          unfold sp_name
          rw [if_neg (by rw [hb]; decide), if_pos hw']
          exact PM.same hR
      · exact absurd h4 (by decide)
  · have hb' : stB s = false := by simpa using hb
    refine Mv.of pnX10_name (Nat.le_of_ble_eq_true rfl) rfl ?_
    refine r_iload_n 1 dX10_name_0 rfl rfl ?_
    refine r_callSp [_] dX10_name_1 ok_RX10_78 isX10_isStation rfl rfl (Nat.le_of_ble_eq_true rfl) (by refine ⟨?_, ?_, ?_, ?_⟩ <;> exact Nat.le_of_ble_eq_true rfl) (c_isStation _) ?_
    rw [hb']
    refine r_ifB_ne 9 dX10_name_4 (by decide) (fun h4 => ?_) (fun h4 => ?_)
    · exact absurd h4 (by decide)
    · refine r_iconst (v := -1) dX10_name_7 (by decide) ?_
      refine r_iret dX10_name_8 rfl (Nat.le_of_ble_eq_true rfl) (Nat.le_of_ble_eq_true rfl) ?_
      refine ⟨rfl, rfl, rfl, ?_⟩
      unfold sp_name
      rw [if_pos hb']
      exact PM.same hR
end RAPI2
