section PAD2
variable {z : Nat} {sh : SH} {mi : MI} {mr : MR} {a : Nat}
theorem rdW_le {P : List Nat} {q : Nat} (h : q ≤ P.length) : (rdW P q).2 ≤ P.length := by
  unfold rdW
  by_cases he : lets 65 3 P q = []
  · simp [he]; exact h
  · have hin := lets_in (by omega : 0 < 65) 3 P q he
    simp only [he, if_false]
    generalize q + (lets 65 3 P q).length = j at hin
    split
    · rename_i h1
      have := sg_pos (P := P) (i := j) (by omega)
      split
      · rename_i h2
        have h3 := sg_pos (P := P) (i := j + 1) (by omega)
        show j + 2 + bn _ ≤ _
        by_cases h4 : sg P (j + 2) = 42
        · have h5 := sg_pos (P := P) (i := j + 2) (by omega)
          simp [h4, bn]; omega
        · simp [h4, bn]; omega
      · show j + 1 ≤ _; omega
    · show j + bn _ ≤ _
      by_cases h4 : sg P j = 42
      · have h5 := sg_pos (P := P) (i := j) (by omega)
        simp [h4, bn]; omega
      · simp [h4, bn]; omega
theorem rdW_ok {P : List Nat} {q j : Nat} {w : Wd} (h : rdW P q = (some w, j)) : okW w := by
  unfold rdW at h
  by_cases he : lets 65 3 P q = []
  · simp [he] at h
  · simp only [he, if_false] at h
    split at h
    · split at h
      · rename_i h2
        cases h
        exact ⟨lets_okL he, by show _ - 48 ≤ 7; omega⟩
      · cases h
    · cases h
      exact ⟨lets_okL he, by show 0 ≤ 7; omega⟩
def rdX (P : List Nat) (i : Nat) : Option (List Wd) × Nat := if sg P i = 58 then (some [], i) else rdWs 5 P i
def FrP (m m' : MI) (a b : Nat) : Prop := (∀ x, x ≠ a → x ≠ b → x ≠ b + 1 → m' x = m x) ∧ (∀ k, k ≠ 2 → m' a k = m a k) ∧ (∀ k, k ≠ 1 → m' b k = m b k)
def RXp (mi : MI) (a b : Nat) (r : Option (List Wd) × Nat) (v : Option Value) (m : MI) : Prop := FrP mi m a b ∧ m a 2 = nI r.2 ∧ match r.1 with
  | none => v = some (.int (nI 0))
  | some ws => v = some (.int (nI 1)) ∧ m b 1 = nI ws.length ∧ (∀ w ∈ ws, okW w) ∧ ws.length ≤ 5 ∧ ∀ i w, ws[i]? = some w → m (b + 1) i = nI (wc 32 w)
theorem c_readWords (hL : LPd sh mr a) {b : Nat} (hB : LPk sh mr b) (hab : b + 1 < a ∨ a + 1 < b) {P : List Nat} (hC : PdC mi a P) (hok : okD P) {i : Nat} (hi : mi a 2 = nI i) (hi2 : i ≤ P.length) (hn : mi b 1 = nI 0) : Mi mX5_readWords 3 [.ref a, .ref b] z sh mi mr (fun v m => RXp mi a b (rdX P i) v m ∧ (rdX P i).2 ≤ P.length) := by
  obtain ⟨l0, l1, l2⟩ := id hL
  obtain ⟨k0, k1, k2⟩ := id hB
  have h40 := hok.1
  have hsi := sg_lt hok i
  have hCm : ∀ m, FrP mi m a b → PdC m a P := fun m h => hC.keep (h.2.1 1 (by omega)) (h.1 (a + 1) (by omega) (by omega) (by omega))
  have K33 : ∀ (t c q : Nat) (ws0 : List Wd) (m : MI), c + (t + 1) = 5 → ws0.length = c → q ≤ P.length → FrP mi m a b → m a 2 = nI q → m b 1 = nI c → (∀ w ∈ ws0, okW w) → (∀ i w, ws0[i]? = some w → m (b + 1) i = nI (wc 32 w)) → rdX P i = ((rdWs (t + 1) P q).1.map (fun ws => ws0 ++ ws), (rdWs (t + 1) P q).2) → Wp yX5_readWords cX5_readWords 3 (some .boolean) (EI 3 z sh mr (fun v m => RXp mi a b (rdX P i) v m ∧ (rdX P i).2 ≤ P.length)) 0 0 33 [.ref a, .ref b, .int (nI c)] [] z sh m mr := by
    intro t
    induction t with
    | zero =>
      intro c q ws0 m hc hl hq hF hm hb hokw hw hX
      have hle := rdW_le (P := P) hq
      cases hr : rdW P q with
      | mk r j =>
        rw [hr] at hle
        have hle : j ≤ P.length := hle
        cases r with
        | none =>
          have hX2 : rdX P i = (none, j) := by rw [hX]; simp [rdWs, hr]
          refine r_aload_n 0 dX5_readWords_33 rfl rfl ?_
          refine r_aload_n 1 dX5_readWords_34 rfl rfl ?_
          refine r_callVi [_] dX5_readWords_35 ok_RX5_49 ivX5_readWord (by assumption) ⟨_, _, rfl⟩ rfl rfl (Nat.le_of_ble_eq_true rfl) (by refine ⟨?_, ?_, ?_, ?_⟩ <;> exact Nat.le_of_ble_eq_true rfl) (c_readWord hL hB hab (hCm m hF) hok hm (by omega) hb (by omega)) ?_
          intro v m2 h
          rw [hr] at h
          obtain ⟨rfl, rfl⟩ := h
          refine r_ifN_ne 43 dX5_readWords_38 (by decide) (by omega) (fun h38 => ?_) (fun h38 => ?_)
          · exact absurd rfl h38
          · refine r_iconst (v := nI 0) dX5_readWords_41 (by decide) ?_
            refine r_zret dX5_readWords_42 rfl (by first | exact b2_nar _ | decide) (Nat.le_of_ble_eq_true rfl) (Nat.le_of_ble_eq_true rfl) ?_
            refine ⟨rfl, rfl, rfl, ?_⟩
            rw [hX2]
            exact ⟨⟨⟨fun x h1 h2 h3 => by rw [up2_row _ _ h1]; exact hF.1 x h1 h2 h3, fun k hk => by rw [up2_ne _ _ (Or.inr hk)]; exact hF.2.1 k hk, fun k hk => by rw [up2_row _ _ (by omega)]; exact hF.2.2 k hk⟩, up2_same _ _ _ _, rfl⟩, hle⟩
        | some w =>
          have hwk := rdW_ok hr
          have hsj := sg_lt hok j
          obtain ⟨m2, hm2⟩ : ∃ m2, m2 = up2 (up2 (up2 m a 2 (nI j)) (b + 1) c (nI (wc 32 w))) b 1 (nI (c + 1)) := ⟨_, rfl⟩
          have hF2 : FrP mi m2 a b := by
            subst hm2
            exact ⟨fun x h1 h2 h3 => by rw [up2_row _ _ h2, up2_row _ _ h3, up2_row _ _ h1]; exact hF.1 x h1 h2 h3, fun k hk => by rw [up2_row _ _ (by omega), up2_row _ _ (by omega), up2_ne _ _ (Or.inr hk)]; exact hF.2.1 k hk, fun k hk => by rw [up2_ne _ _ (Or.inr hk), up2_row _ _ (by omega), up2_row _ _ (by omega)]; exact hF.2.2 k hk⟩
          have hat : m2 a 2 = nI j := by subst hm2; rw [up2_row _ _ (by omega), up2_row _ _ (by omega), up2_same]
          have hb2 : m2 b 1 = nI (c + 1) := by subst hm2; rw [up2_same]
          have hokw2 : ∀ w' ∈ ws0 ++ [w], okW w' := fun w' hw' => by
            rcases List.mem_append.mp hw' with h | h
            · exact hokw w' h
            · rw [List.mem_singleton.mp h]; exact hwk
          have hw2 : ∀ i' w', (ws0 ++ [w])[i']? = some w' → m2 (b + 1) i' = nI (wc 32 w') := fun i' w' hw' => by
            subst hm2
            by_cases hi' : i' = c
            · subst hi'
              rw [List.getElem?_append_right (by omega), hl, Nat.sub_self] at hw'
              cases hw'
              rw [up2_row _ _ (by omega), up2_same]
            · have hil := gl_lt hw'
              simp at hil
              rw [List.getElem?_append_left (by omega)] at hw'
              rw [up2_row _ _ (by omega), up2_ne _ _ (Or.inr hi'), up2_row _ _ (by omega)]
              exact hw i' w' hw'
          have hX2 : rdX P i = (some (ws0 ++ [w]), j) := by rw [hX]; simp [rdWs, hr]
          have hfin : RXp mi a b (rdX P i) (some (.int (nI 1))) m2 ∧ (rdX P i).2 ≤ P.length := by
            rw [hX2]
            exact ⟨⟨hF2, hat, rfl, by rw [hb2]; simp [hl], hokw2, by simp; omega, hw2⟩, hle⟩
          refine r_aload_n 0 dX5_readWords_33 rfl rfl ?_
          refine r_aload_n 1 dX5_readWords_34 rfl rfl ?_
          refine r_callVi [_] dX5_readWords_35 ok_RX5_49 ivX5_readWord (by assumption) ⟨_, _, rfl⟩ rfl rfl (Nat.le_of_ble_eq_true rfl) (by refine ⟨?_, ?_, ?_, ?_⟩ <;> exact Nat.le_of_ble_eq_true rfl) (c_readWord hL hB hab (hCm m hF) hok hm (by omega) hb (by omega)) ?_
          intro v m3 h
          rw [hr] at h
          obtain ⟨rfl, h⟩ := h
          rw [← hm2] at h
          subst h
          refine r_ifN_ne 43 dX5_readWords_38 (by decide) (by omega) (fun h38 => ?_) (fun h38 => ?_)
          · refine r_iincN 2 (b := 1) (ls2 := [_, _, _]) dX5_readWords_43 rfl (by decide) (by decide) rfl ?_
            refine r_goto 13 dX5_readWords_46 (by decide) ?_
            refine r_iload_n 2 dX5_readWords_13 rfl rfl ?_
            refine r_iconst (v := nI 5) dX5_readWords_14 (by decide) ?_
            refine r_icmpN_ge 49 dX5_readWords_15 (by decide) (by omega) (by omega) (fun h15 => ?_) (fun h15 => ?_)
            · refine r_iconst (v := nI 1) dX5_readWords_49 (by decide) ?_
              refine r_zret dX5_readWords_50 rfl (by first | exact b2_nar _ | decide) (Nat.le_of_ble_eq_true rfl) (Nat.le_of_ble_eq_true rfl) ?_
              exact ⟨rfl, rfl, rfl, hfin⟩
            · omega
          · omega
    | succ t ih =>
      intro c q ws0 m hc hl hq hF hm hb hokw hw hX
      have hle := rdW_le (P := P) hq
      cases hr : rdW P q with
      | mk r j =>
        rw [hr] at hle
        have hle : j ≤ P.length := hle
        cases r with
        | none =>
          have hX2 : rdX P i = (none, j) := by rw [hX]; simp [rdWs, hr]
          refine r_aload_n 0 dX5_readWords_33 rfl rfl ?_
          refine r_aload_n 1 dX5_readWords_34 rfl rfl ?_
          refine r_callVi [_] dX5_readWords_35 ok_RX5_49 ivX5_readWord (by assumption) ⟨_, _, rfl⟩ rfl rfl (Nat.le_of_ble_eq_true rfl) (by refine ⟨?_, ?_, ?_, ?_⟩ <;> exact Nat.le_of_ble_eq_true rfl) (c_readWord hL hB hab (hCm m hF) hok hm (by omega) hb (by omega)) ?_
          intro v m2 h
          rw [hr] at h
          obtain ⟨rfl, rfl⟩ := h
          refine r_ifN_ne 43 dX5_readWords_38 (by decide) (by omega) (fun h38 => ?_) (fun h38 => ?_)
          · exact absurd rfl h38
          · refine r_iconst (v := nI 0) dX5_readWords_41 (by decide) ?_
            refine r_zret dX5_readWords_42 rfl (by first | exact b2_nar _ | decide) (Nat.le_of_ble_eq_true rfl) (Nat.le_of_ble_eq_true rfl) ?_
            refine ⟨rfl, rfl, rfl, ?_⟩
            rw [hX2]
            exact ⟨⟨⟨fun x h1 h2 h3 => by rw [up2_row _ _ h1]; exact hF.1 x h1 h2 h3, fun k hk => by rw [up2_ne _ _ (Or.inr hk)]; exact hF.2.1 k hk, fun k hk => by rw [up2_row _ _ (by omega)]; exact hF.2.2 k hk⟩, up2_same _ _ _ _, rfl⟩, hle⟩
        | some w =>
          have hwk := rdW_ok hr
          have hsj := sg_lt hok j
          obtain ⟨m2, hm2⟩ : ∃ m2, m2 = up2 (up2 (up2 m a 2 (nI j)) (b + 1) c (nI (wc 32 w))) b 1 (nI (c + 1)) := ⟨_, rfl⟩
          have hF2 : FrP mi m2 a b := by
            subst hm2
            exact ⟨fun x h1 h2 h3 => by rw [up2_row _ _ h2, up2_row _ _ h3, up2_row _ _ h1]; exact hF.1 x h1 h2 h3, fun k hk => by rw [up2_row _ _ (by omega), up2_row _ _ (by omega), up2_ne _ _ (Or.inr hk)]; exact hF.2.1 k hk, fun k hk => by rw [up2_ne _ _ (Or.inr hk), up2_row _ _ (by omega), up2_row _ _ (by omega)]; exact hF.2.2 k hk⟩
          have hat : m2 a 2 = nI j := by subst hm2; rw [up2_row _ _ (by omega), up2_row _ _ (by omega), up2_same]
          have hb2 : m2 b 1 = nI (c + 1) := by subst hm2; rw [up2_same]
          have hokw2 : ∀ w' ∈ ws0 ++ [w], okW w' := fun w' hw' => by
            rcases List.mem_append.mp hw' with h | h
            · exact hokw w' h
            · rw [List.mem_singleton.mp h]; exact hwk
          have hw2 : ∀ i' w', (ws0 ++ [w])[i']? = some w' → m2 (b + 1) i' = nI (wc 32 w') := fun i' w' hw' => by
            subst hm2
            by_cases hi' : i' = c
            · subst hi'
              rw [List.getElem?_append_right (by omega), hl, Nat.sub_self] at hw'
              cases hw'
              rw [up2_row _ _ (by omega), up2_same]
            · have hil := gl_lt hw'
              simp at hil
              rw [List.getElem?_append_left (by omega)] at hw'
              rw [up2_row _ _ (by omega), up2_ne _ _ (Or.inr hi'), up2_row _ _ (by omega)]
              exact hw i' w' hw'
          have K28a : sg P j = 44 → ∀ m3, m3 = up2 m2 a 2 (nI (j + 1)) → Wp yX5_readWords cX5_readWords 3 (some .boolean) (EI 3 z sh mr (fun v m => RXp mi a b (rdX P i) v m ∧ (rdX P i).2 ≤ P.length)) 0 0 33 [.ref a, .ref b, .int (nI (c + 1))] [] z sh m3 mr := by
            intro hs m3 hm3
            have hjl := sg_pos (P := P) (i := j) (by omega)
            refine ih (c + 1) (j + 1) (ws0 ++ [w]) m3 (by omega) (by simp [hl]) (by omega) ?_ ?_ ?_ hokw2 ?_ ?_
            · subst hm3
              exact ⟨fun x h1 h2 h3 => by rw [up2_row _ _ h1]; exact hF2.1 x h1 h2 h3, fun k hk => by rw [up2_ne _ _ (Or.inr hk)]; exact hF2.2.1 k hk, fun k hk => by rw [up2_row _ _ (by omega)]; exact hF2.2.2 k hk⟩
            · rw [hm3, up2_same]
            · rw [hm3, up2_row _ _ (by omega)]; exact hb2
            · intro i' w' hw'
              rw [hm3, up2_row _ _ (by omega)]; exact hw2 i' w' hw'
            · rw [hX]
              conv => lhs; unfold rdWs
              rw [hr]
              simp only [hs]
              rw [if_pos ⟨by omega, trivial⟩]
              cases hz : (rdWs (t + 1) P (j + 1)).1 <;> simp
          have K28b : sg P j ≠ 44 → RXp mi a b (rdX P i) (some (.int (nI 1))) m2 ∧ (rdX P i).2 ≤ P.length := by
            intro hs
            have hX2 : rdX P i = (some (ws0 ++ [w]), j) := by
              rw [hX]; unfold rdWs; rw [hr]; simp [hs]
            rw [hX2]
            exact ⟨⟨hF2, hat, rfl, by rw [hb2]; simp [hl], hokw2, by simp; omega, hw2⟩, hle⟩
          refine r_aload_n 0 dX5_readWords_33 rfl rfl ?_
          refine r_aload_n 1 dX5_readWords_34 rfl rfl ?_
          refine r_callVi [_] dX5_readWords_35 ok_RX5_49 ivX5_readWord (by assumption) ⟨_, _, rfl⟩ rfl rfl (Nat.le_of_ble_eq_true rfl) (by refine ⟨?_, ?_, ?_, ?_⟩ <;> exact Nat.le_of_ble_eq_true rfl) (c_readWord hL hB hab (hCm m hF) hok hm (by omega) hb (by omega)) ?_
          intro v m3 h
          rw [hr] at h
          obtain ⟨rfl, h⟩ := h
          rw [← hm2] at h
          subst h
          refine r_ifN_ne 43 dX5_readWords_38 (by decide) (by omega) (fun h38 => ?_) (fun h38 => ?_)
          · refine r_iincN 2 (b := 1) (ls2 := [_, _, _]) dX5_readWords_43 rfl (by decide) (by decide) rfl ?_
            refine r_goto 13 dX5_readWords_46 (by decide) ?_
            refine r_iload_n 2 dX5_readWords_13 rfl rfl ?_
            refine r_iconst (v := nI 5) dX5_readWords_14 (by decide) ?_
            refine r_icmpN_ge 49 dX5_readWords_15 (by decide) (by omega) (by omega) (fun h15 => ?_) (fun h15 => ?_)
            · omega
            · refine r_iload_n 2 dX5_readWords_18 rfl rfl ?_
              refine r_ifN_le 33 dX5_readWords_19 (by decide) (by omega) (fun h19 => ?_) (fun h19 => ?_)
              · first | omega | exact K28a (by simpa using h28) m4 (by rw [hm4, h28]; rfl)
              · refine r_aload_n 0 dX5_readWords_22 rfl rfl ?_
                refine r_bipush (v := nI 44) dX5_readWords_23 (by decide) ?_
                refine r_callVx [_] dX5_readWords_25 ok_RX5_34 ivX5_take (by assumption) ⟨_, _, rfl⟩ rfl rfl (Nat.le_of_ble_eq_true rfl) (by refine ⟨?_, ?_, ?_, ?_⟩ <;> exact Nat.le_of_ble_eq_true rfl) (c_take hL (hCm _ hF2) hok hat (by omega) (by omega)) ?_
                intro m4 hm4
                refine r_ifB_ne 33 dX5_readWords_28 (by decide) (fun h28 => ?_) (fun h28 => ?_)
                · first | omega | exact K28a (by simpa using h28) m4 (by rw [hm4, h28]; rfl)
                · have hs : sg P j ≠ 44 := by simpa using h28
                  rw [h28] at hm4
                  rw [hm4.trans (up2_id hat)]
                  refine r_iconst (v := nI 1) dX5_readWords_31 (by decide) ?_
                  refine r_zret dX5_readWords_32 rfl (by decide) (Nat.le_refl _) (Nat.le_refl _) ?_
                  exact ⟨rfl, rfl, rfl, K28b hs⟩
          · omega
  refine Mv.of pnX5_readWords (Nat.le_of_ble_eq_true rfl) rfl ?_
  refine r_aload_n 0 dX5_readWords_0 rfl rfl ?_
  refine r_callVp [] dX5_readWords_1 ok_RX5_45 ivX5_peek (by assumption) ⟨_, _, rfl⟩ rfl rfl (Nat.le_of_ble_eq_true rfl) (by refine ⟨?_, ?_, ?_, ?_⟩ <;> exact Nat.le_of_ble_eq_true rfl) (c_peek hL hC hok hi (by omega)) ?_
  refine r_bipush (v := nI 58) dX5_readWords_4 (by decide) ?_
  refine r_icmpN_ne 11 dX5_readWords_6 (by decide) (by omega) (by omega) (fun h6 => ?_) (fun h6 => ?_)
  · refine r_iconst (v := nI 0) dX5_readWords_11 (by decide) ?_
    refine r_istore_n 2 (ls2 := [_, _, _]) dX5_readWords_12 rfl (by decide) (Nat.le_of_ble_eq_true rfl) rfl ?_
    refine r_iload_n 2 dX5_readWords_13 rfl rfl ?_
    refine r_iconst (v := nI 5) dX5_readWords_14 (by decide) ?_
    refine r_icmpN_ge 49 dX5_readWords_15 (by decide) (by omega) (by omega) (fun h15 => ?_) (fun h15 => ?_)
    · omega
    · refine r_iload_n 2 dX5_readWords_18 rfl rfl ?_
      refine r_ifN_le 33 dX5_readWords_19 (by decide) (by omega) (fun h19 => ?_) (fun h19 => ?_)
      · exact K33 4 0 i [] mi rfl rfl hi2 ⟨fun _ _ _ _ => rfl, fun _ _ => rfl, fun _ _ => rfl⟩ hi hn (fun w hw => by simp at hw) (fun i w hw => by simp at hw) (by unfold rdX; rw [if_neg h6]; cases hz : (rdWs (4 + 1) P i) with | mk u v => cases u <;> simp)
      · omega
  · refine r_iconst (v := nI 1) dX5_readWords_9 (by decide) ?_
    refine r_zret dX5_readWords_10 rfl (by first | exact b2_nar _ | decide) (Nat.le_of_ble_eq_true rfl) (Nat.le_of_ble_eq_true rfl) ?_
    refine ⟨rfl, rfl, rfl, ?_⟩
    have hX : rdX P i = (some [], i) := by unfold rdX; rw [if_pos h6]
    rw [hX]
    exact ⟨⟨⟨fun _ _ _ _ => rfl, fun _ _ => rfl, fun _ _ => rfl⟩, hi, rfl, hn, fun w hw => by simp at hw, by simp, fun i w hw => by simp at hw⟩, hi2⟩
end PAD2
