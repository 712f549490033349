section NET3
variable {z : Nat} {sh : SH} {mi : MI} {mr : MR} {a : Nat}
def MrOk (sh : SH) (mr r : MR) : Prop := ∀ x, sh x ≠ (14, 12) → r x = mr x
theorem MrOk.rf : MrOk sh mr mr := fun _ _ => rfl
theorem MrOk.tr {r r' : MR} (h : MrOk sh mr r) (h' : MrOk sh r r') : MrOk sh mr r' := fun x hx => (h' x hx).trans (h x hx)
theorem LPk.mv {r : MR} {x : Nat} (h : MrOk sh mr r) (hL : LPk sh mr x) : LPk sh r x := ⟨hL.1, by rw [h x (by rw [hL.1]; decide)]; exact hL.2.1, hL.2.2⟩
theorem LNm.mv {r : MR} {x : Nat} (h : MrOk sh mr r) (hL : LNm sh mr x) : LNm sh r x := ⟨hL.1, by rw [h x (by rw [hL.1]; decide)]; exact hL.2.1, hL.2.2⟩
theorem LKn.mv {r : MR} {x : Nat} (h : MrOk sh mr r) (hL : LKn sh mr x) : LKn sh r x := by
  unfold LKn at *
  rw [h x (by rw [hL.1]; decide)]; exact hL
theorem LKp.mv {r : MR} {x : Nat} (h : MrOk sh mr r) (hL : LKp sh mr x) : LKp sh r x := by
  obtain ⟨h1, h2, h3, h4, h5, h6⟩ := hL
  have e := h x (by rw [h1]; decide)
  exact ⟨h1, by rw [e]; exact h2, h3, by rw [e]; exact h4, h5, fun j hj => (h6 j hj).mv h⟩
theorem LSt.mv {r : MR} {x : Nat} (h : MrOk sh mr r) (hL : LSt sh mr x) : LSt sh r x := by
  obtain ⟨l0, ⟨l1, l2⟩, ⟨l3, l4⟩, ⟨l5, l6⟩, ⟨l7, l8⟩, ⟨l9, l10⟩, ⟨l11, l12⟩, ⟨l13, l14⟩, ⟨l15, l16⟩⟩ := hL
  have e := h x (by rw [l0]; decide)
  exact ⟨l0, ⟨by rw [e]; exact l1, l2.mv h⟩, ⟨by rw [e]; exact l3, l4.mv h⟩, ⟨by rw [e]; exact l5, l6⟩, ⟨by rw [e]; exact l7, l8.mv h⟩, ⟨by rw [e]; exact l9, l10.mv h⟩, ⟨by rw [e]; exact l11, l12.mv h⟩, ⟨by rw [e]; exact l13, l14.mv h⟩, ⟨by rw [e]; exact l15, l16.mv h⟩⟩
theorem LNt.mv {r : MR} {x : Nat} (h : MrOk sh mr r) (hL : LNt sh mr x) : LNt sh r x := by
  obtain ⟨l0, l1, l2, l3, l4, l5⟩ := hL
  have e := h x (by rw [l0]; decide)
  exact ⟨l0, by rw [e]; exact l1, l2, by rw [e]; exact l3, l4, fun s hs => ⟨by rw [h (x + 1) (by rw [l2]; decide)]; exact (l5 s hs).1, (l5 s hs).2.mv h⟩⟩
theorem StC.keep2 {m m' : MI} {r r' : MR} {x : Nat} {st : St} (h : StC m r x st) (hl : st.2.2.1.length ≤ 12) (hx : ∀ y, x ≤ y → y < x + 43 → m' y = m y) (hr : r' (x + 7) = r (x + 7)) : StC m' r' x st := by
  have h2 := h.keep hl hx
  obtain ⟨h1, h2, h3, h4, h5, h6⟩ := h2
  refine ⟨h1, h2, ⟨h3.1, fun i q hq => ?_⟩, ?_, h5, h6⟩
  · rw [show x + 6 + 1 = x + 7 by omega, hr]; exact h3.2 i q hq
  · unfold KpR at *
    rw [show x + 6 + 1 = x + 7 by omega] at *
    rw [hr]; exact h4
theorem cn6_le (g : Nat → Bool) : cn6 g ≤ 6 := by
  unfold cn6 sum6
  have := bn_le (g 0); have := bn_le (g 1); have := bn_le (g 2); have := bn_le (g 3); have := bn_le (g 4); have := bn_le (g 5)
  dsimp only; omega
theorem snt_iff (st : St) (now : Nat) : (sentP st now).isSome = true ↔ duIx st.2.2.1 now < st.2.2.1.length := by
  unfold sentP
  rw [Option.isSome_map]
  constructor
  · intro h
    obtain ⟨q, hq⟩ := Option.isSome_iff_exists.mp h
    exact gl_lt hq
  · intro h
    obtain ⟨q, hq⟩ := gl_ex h
    rw [hq]; rfl
theorem aftS_no {st : St} {now : Nat} (h : ¬ (sentP st now).isSome = true) : aftS st now = st := by
  unfold aftS; rw [if_neg (fun e => h ((snt_iff st now).mpr e))]
theorem aftS_len (st : St) (now : Nat) : (aftS st now).2.2.1.length ≤ st.2.2.1.length := by
  unfold aftS; split
  · exact List.length_eraseIdx_le _ _
  · exact Nat.le_refl _
theorem c_passTick (hL : LNt sh mr a) {n : Nt} (hN : NtC mi mr a n) (hok : ∀ s, s < 6 → okSt (n.1 s) n.2.2) (hokt : ∀ s, s < 6 → (tckS n s).2.2.1.length ≤ 12) (hnow : n.2.2 < 2 ^ 27) : Mm mX3_passTick 4 [.ref a] z sh mi mr (fun v m r => v = none ∧ NtC m r a (tck n) ∧ MrOk sh mr r ∧ ∀ x, (x < a ∨ a + 261 ≤ x) → m x = mi x ∧ r x = mr x) := by
  obtain ⟨l0, l1, l2, l3, l4, l5⟩ := id hL
  have n0 := hN.1
  obtain ⟨now, hnw⟩ : ∃ now, now = n.2.2 := ⟨_, rfl⟩
  obtain ⟨snt, hsn⟩ : ∃ snt : Nat → Bool, snt = fun s => (sentP (n.1 s) now).isSome := ⟨_, rfl⟩
  rw [← hnw] at n0 hok hnow
  have hln : ∀ s, s < 6 → (n.1 s).2.2.1.length ≤ 12 := fun s hs => (hok s hs).2.2.1.1
  have hla : ∀ s, s < 6 → (aftS (n.1 s) now).2.2.1.length ≤ 12 := fun s hs => Nat.le_trans (aftS_len _ _) (hln s hs)
  have hlo : ∀ (r : MR), MrOk sh mr r → LNt sh r a := fun r h => hL.mv h
  have K140 : ∀ (m : MI) (r : MR) (ls : List Value), MrOk sh mr r → (∀ x, (x < a ∨ a + 261 ≤ x) → m x = mi x ∧ r x = mr x) → m a = mi a → m (a + 2) = mi (a + 2) → (∀ j, j < 6 → StC m r (a + 3 + 43 * j) (tckS n j)) → Wp yX3_passTick cX3_passTick 5 none (EM 4 z sh (fun v m r => v = none ∧ NtC m r a (tck n) ∧ MrOk sh mr r ∧ ∀ x, (x < a ∨ a + 261 ≤ x) → m x = mi x ∧ r x = mr x)) 0 0 140 ([.ref a] ++ ls) [] z sh m r := by
    intro m r ls hr hO ha ha2 hSt
    refine r_drop ?_
    have hna : m a 2 = nI now := by rw [ha]; exact n0
    refine r_aload_n 0 dX3_passTick_140 rfl rfl ?_
    refine r_dup dX3_passTick_141 rfl ?_
    refine r_getV dX3_passTick_142 fl_RX3_28 rfl (by assumption) (by first | assumption | exact up2_same _ _ _ _ | exact (Eq.trans (up2_ne _ _ (by omega)) (by first | assumption | exact up2_same _ _ _ _)) | exact (Eq.trans (up2_ne _ _ (by omega)) (Eq.trans (up2_ne _ _ (by omega)) (by first | assumption | exact up2_same _ _ _ _))) | exact (Eq.trans (up2_ne _ _ (by omega)) (Eq.trans (up2_ne _ _ (by omega)) (Eq.trans (up2_ne _ _ (by omega)) (by first | assumption | exact up2_same _ _ _ _)))) | exact (Eq.trans (up2_ne _ _ (by omega)) (Eq.trans (up2_ne _ _ (by omega)) (Eq.trans (up2_ne _ _ (by omega)) (Eq.trans (up2_ne _ _ (by omega)) (by first | assumption | exact up2_same _ _ _ _))))) | rfl) ?_
    refine r_iconst (v := nI 1) dX3_passTick_145 (by decide) ?_
    refine r_iaddN dX3_passTick_146 ?_
    refine r_putI dX3_passTick_147 fl_RX3_28 rfl rfl rfl (by assumption) ?_
    refine r_vret dX3_passTick_150 rfl (Nat.le_of_ble_eq_true rfl) (Nat.le_of_ble_eq_true rfl) ?_
    refine ⟨rfl, rfl, rfl, ⟨?_, fun s hs => ⟨?_, ?_⟩⟩, hr, fun x hx => ⟨?_, (hO x hx).2⟩⟩
    · rw [up2_same, hnw]; rfl
    · rw [up2_row _ _ (by omega), ha2]; exact (hN.2 s hs).1
    · exact (hSt s hs).keep (hokt s hs) (fun y y1 y2 => up2_row _ _ (by omega))
    · rw [up2_row _ _ (by omega)]; exact (hO x hx).1
  have hz0 : bs snt = 0 → ∀ s, s < 6 → snt s = false := fun h s hs => by
    have := bs_bit snt hs
    rw [h, Nat.zero_div] at this
    exact (bn_eq _).mp (by omega)
  have hau : ∀ s, audi n s = (List.range 6).filter (fun q => snt q && n.2.1 s q) := fun s => by rw [hsn, hnw]; rfl
  have htS : ∀ s, snt s = true → tckS n s = aftS (n.1 s) now := fun s h => by
    unfold tckS; rw [hsn, hnw] at h; rw [if_pos h, ← hnw]
  have htN : ∀ s, snt s = false → cn6 (fun q => snt q && n.2.1 s q) = 0 → tckS n s = aftS (n.1 s) now := fun s h h2 => by
    have h' : ¬ (sentP (n.1 s) n.2.2).isSome = true := by rw [hsn, hnw] at h; simp only at h; rw [h]; decide
    rw [aftS_no (by rw [hnw]; exact h')]
    unfold tckS; rw [if_neg h', hau s, (fs6_0 h2).2]
  have htC : ∀ s, snt s = false → 1 < cn6 (fun q => snt q && n.2.1 s q) → tckS n s = ((n.1 s).1, bump (n.1 s).2.1 7, (n.1 s).2.2) := fun s h h2 => by
    have h' : ¬ (sentP (n.1 s) n.2.2).isSome = true := by rw [hsn, hnw] at h; simp only at h; rw [h]; decide
    obtain ⟨x, y, t, e⟩ := fs6_2 h2
    unfold tckS; rw [if_neg h', hau s, e]
  have htH : ∀ s q p, snt s = false → (List.range 6).filter (fun q => snt q && n.2.1 s q) = [q] → sentP (n.1 q) now = some p → tckS n s = hears (n.1 s) p now := fun s q p h e hp => by
    have h' : ¬ (sentP (n.1 s) n.2.2).isSome = true := by rw [hsn, hnw] at h; simp only at h; rw [h]; decide
    unfold tckS; rw [if_neg h', hau s, e]
    rw [hnw] at hp ⊢
    simp only [hp]
  have H2 : ∀ (k i : Nat) (m : MI) (r : MR) (ls : List Value), i + k = 6 → MrOk sh mr r → (∀ x, (x < a ∨ a + 261 ≤ x) → m x = mi x ∧ r x = mr x) → m a = mi a → m (a + 2) = mi (a + 2) → (∀ j, j < 6 → StC m r (a + 3 + 43 * j) (if j < i then tckS n j else aftS (n.1 j) now)) → (∀ j, j < 6 → ∀ p, sentP (n.1 j) now = some p → PkC m (a + 3 + 43 * j + 39) p) → Wp yX3_passTick cX3_passTick 5 none (EM 4 z sh (fun v m r => v = none ∧ NtC m r a (tck n) ∧ MrOk sh mr r ∧ ∀ x, (x < a ∨ a + 261 ≤ x) → m x = mi x ∧ r x = mr x)) 0 0 40 ([.ref a, .int (nI (bs snt)), .int (nI i)] ++ ls) [] z sh m r := by
    intro k
    induction k with
    | zero =>
      intro i m r ls hi hr hO ha ha2 hSt hPk
      refine r_drop ?_
      refine r_iload_n 2 dX3_passTick_40 rfl rfl ?_
      refine r_bipush (v := nI 6) dX3_passTick_41 (by decide) ?_
      refine r_icmpN_ge 140 dX3_passTick_43 (by decide) (by omega) (by omega) (fun h43 => ?_) (fun h43 => ?_)
      · exact K140 m r [_, _] hr hO ha ha2 (fun j hj => by have := hSt j hj; rw [if_pos (by omega)] at this; exact this)
      · omega
    | succ k ih =>
      intro i m r ls hi hr hO ha ha2 hSt hPk
      refine r_drop ?_
      have hbl := bs_lt snt
      obtain ⟨r1, r2, r3, r4, r5, r6⟩ := hlo r hr
      obtain ⟨q1, q2⟩ := r6 i (by omega)
      obtain ⟨q0, -, -, ⟨q5, q6⟩, -⟩ := id q2
      have hna : m a 2 = nI now := by rw [ha]; exact n0
      have hni : m (a + 2) i = nI (bs (n.2.1 i)) := by rw [ha2]; exact (hN.2 i (by omega)).1
      have hSi := hSt i (by omega)
      rw [if_neg (Nat.lt_irrefl i)] at hSi
      have step : ∀ (m' : MI) (ls' : List Value), (∀ x, (x < a + 3 + 43 * i ∨ a + 3 + 43 * i + 43 ≤ x) → m' x = m x) → StC m' r (a + 3 + 43 * i) (tckS n i) → (∀ p, sentP (n.1 i) now = some p → m' = m) → Wp yX3_passTick cX3_passTick 5 none (EM 4 z sh (fun v m r => v = none ∧ NtC m r a (tck n) ∧ MrOk sh mr r ∧ ∀ x, (x < a ∨ a + 261 ≤ x) → m x = mi x ∧ r x = mr x)) 0 0 40 ([.ref a, .int (nI (bs snt)), .int (nI (i + 1))] ++ ls') [] z sh m' r := by
        intro m' ls' ho hS' hp
        refine ih (i + 1) m' r ls' (by omega) hr (fun x hx => ⟨by rw [ho x (by omega)]; exact (hO x hx).1, (hO x hx).2⟩) (by rw [ho a (by omega)]; exact ha) (by rw [ho (a + 2) (by omega)]; exact ha2) (fun j hj => ?_) (fun j hj p hjp => ?_)
        · by_cases e : j = i
          · subst e; rw [if_pos (by omega)]; exact hS'
          · have h1 := hSt j hj
            by_cases e2 : j < i
            · rw [if_pos e2] at h1; rw [if_pos (by omega)]
              exact h1.keep (hokt j hj) (fun y y1 y2 => ho y (by omega))
            · rw [if_neg e2] at h1; rw [if_neg (by omega)]
              exact h1.keep (hla j hj) (fun y y1 y2 => ho y (by omega))
        · by_cases e : j = i
          · subst e; rw [hp p hjp]; exact hPk j hj p hjp
          · exact (hPk j hj p hjp).keep (ho _ (by omega)) (ho _ (by omega))
      have hsame : snt i = true ∨ cn6 (fun q => snt q && n.2.1 i q) = 0 → ∀ ls' : List Value, Wp yX3_passTick cX3_passTick 5 none (EM 4 z sh (fun v m r => v = none ∧ NtC m r a (tck n) ∧ MrOk sh mr r ∧ ∀ x, (x < a ∨ a + 261 ≤ x) → m x = mi x ∧ r x = mr x)) 0 0 40 ([.ref a, .int (nI (bs snt)), .int (nI (i + 1))] ++ ls') [] z sh m r := by
        intro h ls'
        refine step m ls' (fun _ _ => rfl) ?_ (fun _ _ => rfl)
        cases hsi : snt i with
        | true => rw [htS i hsi]; exact hSi
        | false =>
          rcases h with h | h
          · rw [hsi] at h; cases h
          · rw [htN i hsi h]; exact hSi
      have hcf : cn6 (fun _ => false) = 0 := rfl
      cases hsi : snt i with
      | true =>
        have e0 : nI 0 = nI (bs (fun _ => false)) := rfl
        refine r_iload_n 2 dX3_passTick_40 rfl rfl ?_
        refine r_bipush (v := nI 6) dX3_passTick_41 (by decide) ?_
        refine r_icmpN_ge 140 dX3_passTick_43 (by decide) (by omega) (by omega) (fun h43 => ?_) (fun h43 => ?_)
        · first | omega | (exfalso; have := hz0 h47 i (by omega); rw [hsi] at this; cases this)
        · refine r_iload_n 1 dX3_passTick_46 rfl rfl ?_
          refine r_ifN_eq 140 dX3_passTick_47 (by decide) (by omega) (fun h47 => ?_) (fun h47 => ?_)
          · first | omega | (exfalso; have := hz0 h47 i (by omega); rw [hsi] at this; cases this)
          · refine r_iload_n 1 dX3_passTick_50 rfl rfl ?_
            refine r_iload_n 2 dX3_passTick_51 rfl rfl ?_
            refine r_callSNp [_, _] dX3_passTick_52 ok_RX3_42 isX9_isIn rfl rfl (Nat.le_of_ble_eq_true rfl) (by refine ⟨?_, ?_, ?_, ?_⟩ <;> exact Nat.le_of_ble_eq_true rfl) (c_isInB snt (by omega)) ?_
            rw [hsi]
            refine r_ifB_eq 62 dX3_passTick_55 (by decide) (fun h55 => ?_) (fun h55 => ?_)
            · cases h55
            · refine r_iconst (v := nI 0) dX3_passTick_58 (by decide) ?_
              refine r_goto 70 dX3_passTick_59 (by decide) ?_
              refine r_istore_n 3 (ls2 := [_, _, _, _]) dX3_passTick_70 rfl (by decide) (Nat.le_of_ble_eq_true rfl) rfl ?_
              rw [e0]
              refine r_iload_n 3 dX3_passTick_71 rfl rfl ?_
              refine r_callSp [_] dX3_passTick_72 ok_RX3_46 isX3_firstIn rfl rfl (Nat.le_of_ble_eq_true rfl) (by refine ⟨?_, ?_, ?_, ?_⟩ <;> exact Nat.le_of_ble_eq_true rfl) (c_firstIn _) ?_
              refine r_istore 4 (ls2 := [_, _, _, _, _]) dX3_passTick_75 (by decide) (Nat.le_of_ble_eq_true rfl) rfl ?_
              refine r_iload_n 3 dX3_passTick_77 rfl rfl ?_
              refine r_callSp [_] dX3_passTick_78 ok_RX3_50 isJ6_bitCount_0f7a4 rfl rfl (Nat.le_of_ble_eq_true rfl) (by refine ⟨?_, ?_, ?_, ?_⟩ <;> exact Nat.le_of_ble_eq_true rfl) (c_bitCount _) ?_
              refine r_iconst (v := nI 1) dX3_passTick_81 (by decide) ?_
              rw [hcf]
              refine r_icmpN_le 104 dX3_passTick_82 (by decide) (by omega) (by omega) (fun h82 => ?_) (fun h82 => ?_)
              · refine r_iload 4 dX3_passTick_104 rfl ?_
                rw [show fs6 (fun _ => false) = none from rfl]
                refine r_bipush (v := -6) dX3_passTick_106 (by decide) ?_
                refine r_icmp_eq 134 dX3_passTick_108 (by decide) (fun h108 => ?_) (fun h108 => ?_)
                · refine r_iincN 2 (b := 1) (ls2 := [_, _, _, _, _]) dX3_passTick_134 rfl (by decide) (by decide) rfl ?_
                  refine r_goto 40 dX3_passTick_137 (by decide) ?_
                  exact hsame (Or.inl hsi) [_, _]
                · exact absurd rfl h108
              · omega
      | false =>
        have hand : nI (bs snt &&& bs (n.2.1 i)) = nI (bs (fun q => snt q && n.2.1 i q)) := by rw [bs_and]
        have haft : aftS (n.1 i) now = n.1 i := aftS_no (by rw [hsn] at hsi; simp only at hsi; rw [hsi]; decide)
        rw [haft] at hSi
        rcases (show cn6 (fun q => snt q && n.2.1 i q) = 0 ∨ cn6 (fun q => snt q && n.2.1 i q) = 1 ∨ 1 < cn6 (fun q => snt q && n.2.1 i q) by omega) with hc | hc | hc
        · have hf := (fs6_0 hc).1
          refine r_iload_n 2 dX3_passTick_40 rfl rfl ?_
          refine r_bipush (v := nI 6) dX3_passTick_41 (by decide) ?_
          refine r_icmpN_ge 140 dX3_passTick_43 (by decide) (by omega) (by omega) (fun h43 => ?_) (fun h43 => ?_)
          · first | omega | exact K140 m r [_, _] hr hO ha ha2 (fun j hj => by have := hSt j hj; have hj0 := hz0 h47 j hj; by_cases e2 : j < i; (rw [if_pos e2] at this; exact this); (rw [if_neg e2] at this; rw [htN j hj0 (by rw [cn6_eq (g := fun _ => false) (fun q hq => by rw [hz0 h47 q hq]; rfl)]; rfl)]; exact this))
          · refine r_iload_n 1 dX3_passTick_46 rfl rfl ?_
            refine r_ifN_eq 140 dX3_passTick_47 (by decide) (by omega) (fun h47 => ?_) (fun h47 => ?_)
            · first | omega | exact K140 m r [_, _] hr hO ha ha2 (fun j hj => by have := hSt j hj; have hj0 := hz0 h47 j hj; by_cases e2 : j < i; (rw [if_pos e2] at this; exact this); (rw [if_neg e2] at this; rw [htN j hj0 (by rw [cn6_eq (g := fun _ => false) (fun q hq => by rw [hz0 h47 q hq]; rfl)]; rfl)]; exact this))
            · refine r_iload_n 1 dX3_passTick_50 rfl rfl ?_
              refine r_iload_n 2 dX3_passTick_51 rfl rfl ?_
              refine r_callSNp [_, _] dX3_passTick_52 ok_RX3_42 isX9_isIn rfl rfl (Nat.le_of_ble_eq_true rfl) (by refine ⟨?_, ?_, ?_, ?_⟩ <;> exact Nat.le_of_ble_eq_true rfl) (c_isInB snt (by omega)) ?_
              rw [hsi]
              refine r_ifB_eq 62 dX3_passTick_55 (by decide) (fun h55 => ?_) (fun h55 => ?_)
              · refine r_iload_n 1 dX3_passTick_62 rfl rfl ?_
                refine r_aload_n 0 dX3_passTick_63 rfl rfl ?_
                refine r_getR dX3_passTick_64 fl_RX3_17 rfl (by assumption) (by assumption) ?_
                refine r_iload_n 2 dX3_passTick_67 rfl rfl ?_
                refine r_ialdV dX3_passTick_68 (by assumption) (by omega) (by omega) (by first | assumption | exact up2_same _ _ _ _ | exact (Eq.trans (up2_ne _ _ (by omega)) (by first | assumption | exact up2_same _ _ _ _)) | exact (Eq.trans (up2_ne _ _ (by omega)) (Eq.trans (up2_ne _ _ (by omega)) (by first | assumption | exact up2_same _ _ _ _))) | exact (Eq.trans (up2_ne _ _ (by omega)) (Eq.trans (up2_ne _ _ (by omega)) (Eq.trans (up2_ne _ _ (by omega)) (by first | assumption | exact up2_same _ _ _ _)))) | exact (Eq.trans (up2_ne _ _ (by omega)) (Eq.trans (up2_ne _ _ (by omega)) (Eq.trans (up2_ne _ _ (by omega)) (Eq.trans (up2_ne _ _ (by omega)) (by first | assumption | exact up2_same _ _ _ _))))) | rfl) ?_
                refine r_iandN dX3_passTick_69 ?_
                refine r_istore_n 3 (ls2 := [_, _, _, _]) dX3_passTick_70 rfl (by decide) (Nat.le_of_ble_eq_true rfl) rfl ?_
                rw [hand]
                refine r_iload_n 3 dX3_passTick_71 rfl rfl ?_
                refine r_callSp [_] dX3_passTick_72 ok_RX3_46 isX3_firstIn rfl rfl (Nat.le_of_ble_eq_true rfl) (by refine ⟨?_, ?_, ?_, ?_⟩ <;> exact Nat.le_of_ble_eq_true rfl) (c_firstIn _) ?_
                refine r_istore 4 (ls2 := [_, _, _, _, _]) dX3_passTick_75 (by decide) (Nat.le_of_ble_eq_true rfl) rfl ?_
                rw [hf]
                refine r_iload_n 3 dX3_passTick_77 rfl rfl ?_
                refine r_callSp [_] dX3_passTick_78 ok_RX3_50 isJ6_bitCount_0f7a4 rfl rfl (Nat.le_of_ble_eq_true rfl) (by refine ⟨?_, ?_, ?_, ?_⟩ <;> exact Nat.le_of_ble_eq_true rfl) (c_bitCount _) ?_
                refine r_iconst (v := nI 1) dX3_passTick_81 (by decide) ?_
                skip
                refine r_icmpN_le 104 dX3_passTick_82 (by decide) (by omega) (by omega) (fun h82 => ?_) (fun h82 => ?_)
                · refine r_iload 4 dX3_passTick_104 rfl ?_
                  skip
                  refine r_bipush (v := -6) dX3_passTick_106 (by decide) ?_
                  refine r_icmp_eq 134 dX3_passTick_108 (by decide) (fun h108 => ?_) (fun h108 => ?_)
                  · refine r_iincN 2 (b := 1) (ls2 := [_, _, _, _, _]) dX3_passTick_134 rfl (by decide) (by decide) rfl ?_
                    refine r_goto 40 dX3_passTick_137 (by decide) ?_
                    exact hsame (Or.inr hc) [_, _]
                  · exact absurd rfl h108
                · omega
              · cases h55
        · obtain ⟨q, hq6, hqg, hf, hfl⟩ := fs6_1 hc
          have hqs : snt q = true := by cases h : snt q; (rw [h] at hqg; cases hqg); rfl
          have hqi : q ≠ i := fun e => by rw [e, hsi] at hqs; cases hqs
          obtain ⟨p, hp⟩ : ∃ p, sentP (n.1 q) now = some p := by rw [hsn] at hqs; exact Option.isSome_iff_exists.mp hqs
          obtain ⟨w1, w2⟩ := r6 q hq6
          obtain ⟨w0, -, -, -, -, -, -, ⟨w13, w14⟩, -⟩ := id w2
          have hPq := hPk q hq6 p hp
          have hpok : okP p := by
            unfold sentP at hp
            cases hx : (n.1 q).2.2.1[duIx (n.1 q).2.2.1 now]? with
            | none => rw [hx] at hp; cases hp
            | some u => rw [hx] at hp; cases hp; exact ((hok q hq6).2.2.1.2 u (gl_mem hx)).1
          refine r_iload_n 2 dX3_passTick_40 rfl rfl ?_
          refine r_bipush (v := nI 6) dX3_passTick_41 (by decide) ?_
          refine r_icmpN_ge 140 dX3_passTick_43 (by decide) (by omega) (by omega) (fun h43 => ?_) (fun h43 => ?_)
          · first | omega | exact K140 m r [_, _] hr hO ha ha2 (fun j hj => by have := hSt j hj; have hj0 := hz0 h47 j hj; by_cases e2 : j < i; (rw [if_pos e2] at this; exact this); (rw [if_neg e2] at this; rw [htN j hj0 (by rw [cn6_eq (g := fun _ => false) (fun q hq => by rw [hz0 h47 q hq]; rfl)]; rfl)]; exact this))
          · refine r_iload_n 1 dX3_passTick_46 rfl rfl ?_
            refine r_ifN_eq 140 dX3_passTick_47 (by decide) (by omega) (fun h47 => ?_) (fun h47 => ?_)
            · first | omega | exact K140 m r [_, _] hr hO ha ha2 (fun j hj => by have := hSt j hj; have hj0 := hz0 h47 j hj; by_cases e2 : j < i; (rw [if_pos e2] at this; exact this); (rw [if_neg e2] at this; rw [htN j hj0 (by rw [cn6_eq (g := fun _ => false) (fun q hq => by rw [hz0 h47 q hq]; rfl)]; rfl)]; exact this))
            · refine r_iload_n 1 dX3_passTick_50 rfl rfl ?_
              refine r_iload_n 2 dX3_passTick_51 rfl rfl ?_
              refine r_callSNp [_, _] dX3_passTick_52 ok_RX3_42 isX9_isIn rfl rfl (Nat.le_of_ble_eq_true rfl) (by refine ⟨?_, ?_, ?_, ?_⟩ <;> exact Nat.le_of_ble_eq_true rfl) (c_isInB snt (by omega)) ?_
              rw [hsi]
              refine r_ifB_eq 62 dX3_passTick_55 (by decide) (fun h55 => ?_) (fun h55 => ?_)
              · refine r_iload_n 1 dX3_passTick_62 rfl rfl ?_
                refine r_aload_n 0 dX3_passTick_63 rfl rfl ?_
                refine r_getR dX3_passTick_64 fl_RX3_17 rfl (by assumption) (by assumption) ?_
                refine r_iload_n 2 dX3_passTick_67 rfl rfl ?_
                refine r_ialdV dX3_passTick_68 (by assumption) (by omega) (by omega) (by first | assumption | exact up2_same _ _ _ _ | exact (Eq.trans (up2_ne _ _ (by omega)) (by first | assumption | exact up2_same _ _ _ _)) | exact (Eq.trans (up2_ne _ _ (by omega)) (Eq.trans (up2_ne _ _ (by omega)) (by first | assumption | exact up2_same _ _ _ _))) | exact (Eq.trans (up2_ne _ _ (by omega)) (Eq.trans (up2_ne _ _ (by omega)) (Eq.trans (up2_ne _ _ (by omega)) (by first | assumption | exact up2_same _ _ _ _)))) | exact (Eq.trans (up2_ne _ _ (by omega)) (Eq.trans (up2_ne _ _ (by omega)) (Eq.trans (up2_ne _ _ (by omega)) (Eq.trans (up2_ne _ _ (by omega)) (by first | assumption | exact up2_same _ _ _ _))))) | rfl) ?_
                refine r_iandN dX3_passTick_69 ?_
                refine r_istore_n 3 (ls2 := [_, _, _, _]) dX3_passTick_70 rfl (by decide) (Nat.le_of_ble_eq_true rfl) rfl ?_
                rw [hand]
                refine r_iload_n 3 dX3_passTick_71 rfl rfl ?_
                refine r_callSp [_] dX3_passTick_72 ok_RX3_46 isX3_firstIn rfl rfl (Nat.le_of_ble_eq_true rfl) (by refine ⟨?_, ?_, ?_, ?_⟩ <;> exact Nat.le_of_ble_eq_true rfl) (c_firstIn _) ?_
                refine r_istore 4 (ls2 := [_, _, _, _, _]) dX3_passTick_75 (by decide) (Nat.le_of_ble_eq_true rfl) rfl ?_
                rw [hf]
                refine r_iload_n 3 dX3_passTick_77 rfl rfl ?_
                refine r_callSp [_] dX3_passTick_78 ok_RX3_50 isJ6_bitCount_0f7a4 rfl rfl (Nat.le_of_ble_eq_true rfl) (by refine ⟨?_, ?_, ?_, ?_⟩ <;> exact Nat.le_of_ble_eq_true rfl) (c_bitCount _) ?_
                refine r_iconst (v := nI 1) dX3_passTick_81 (by decide) ?_
                skip
                refine r_icmpN_le 104 dX3_passTick_82 (by decide) (by omega) (by omega) (fun h82 => ?_) (fun h82 => ?_)
                · refine r_iload 4 dX3_passTick_104 rfl ?_
                  skip
                  refine r_bipush (v := -6) dX3_passTick_106 (by decide) ?_
                  refine r_icmp_eq 134 dX3_passTick_108 (by decide) (fun h108 => ?_) (fun h108 => ?_)
                  · first | exact absurd h108 (nI_ne6 (by omega)) | (refine r_iincN 2 (b := 1) (ls2 := [_, _, _, _, _]) dX3_passTick_134 rfl (by decide) (by decide) rfl ?_; refine r_goto 40 dX3_passTick_137 (by decide) ?_; refine step m' [_, _] g2 (by rw [htH i q p hsi hfl hp]; exact g1) (fun p' hp' => ?_); exfalso; rw [hsn] at hsi; simp only at hsi; rw [hp'] at hsi; cases hsi)
                  · refine r_aload_n 0 dX3_passTick_111 rfl rfl ?_
                    refine r_getR dX3_passTick_112 fl_RX3_11 rfl (by assumption) (by assumption) ?_
                    refine r_iload_n 2 dX3_passTick_115 rfl rfl ?_
                    refine r_aald dX3_passTick_116 (by assumption) (by decide) (by intro _; rfl) (by omega) (by omega) (by assumption) ?_
                    refine r_aload_n 0 dX3_passTick_117 rfl rfl ?_
                    refine r_getR dX3_passTick_118 fl_RX3_11 rfl (by assumption) (by assumption) ?_
                    refine r_iload 4 dX3_passTick_121 rfl ?_
                    refine r_aald dX3_passTick_123 (by assumption) (by decide) (by intro _; rfl) (by omega) (by omega) (by assumption) ?_
                    refine r_getR dX3_passTick_124 fl_RX3_58 rfl (by assumption) (by assumption) ?_
                    refine r_aload_n 0 dX3_passTick_127 rfl rfl ?_
                    refine r_getV dX3_passTick_128 fl_RX3_28 rfl (by assumption) (by first | assumption | exact up2_same _ _ _ _ | exact (Eq.trans (up2_ne _ _ (by omega)) (by first | assumption | exact up2_same _ _ _ _)) | exact (Eq.trans (up2_ne _ _ (by omega)) (Eq.trans (up2_ne _ _ (by omega)) (by first | assumption | exact up2_same _ _ _ _))) | exact (Eq.trans (up2_ne _ _ (by omega)) (Eq.trans (up2_ne _ _ (by omega)) (Eq.trans (up2_ne _ _ (by omega)) (by first | assumption | exact up2_same _ _ _ _)))) | exact (Eq.trans (up2_ne _ _ (by omega)) (Eq.trans (up2_ne _ _ (by omega)) (Eq.trans (up2_ne _ _ (by omega)) (Eq.trans (up2_ne _ _ (by omega)) (by first | assumption | exact up2_same _ _ _ _))))) | rfl) ?_
                    refine r_callVw [_, _] dX3_passTick_131 ok_RX3_62 ivX6_hear (by assumption) ⟨_, _, rfl⟩ rfl rfl (Nat.le_of_ble_eq_true rfl) (by refine ⟨?_, ?_, ?_, ?_⟩ <;> exact Nat.le_of_ble_eq_true rfl) (c_hear q2 w14 (by omega) hSi (hok i (by omega)) (by omega) hPq hpok) ?_
                    intro m' ⟨g1, g2⟩
                    first | exact absurd h108 (nI_ne6 (by omega)) | (refine r_iincN 2 (b := 1) (ls2 := [_, _, _, _, _]) dX3_passTick_134 rfl (by decide) (by decide) rfl ?_; refine r_goto 40 dX3_passTick_137 (by decide) ?_; refine step m' [_, _] g2 (by rw [htH i q p hsi hfl hp]; exact g1) (fun p' hp' => ?_); exfalso; rw [hsn] at hsi; simp only at hsi; rw [hp'] at hsi; cases hsi)
                · omega
              · cases h55
        · have t7 := hSi.2.1 7 (by omega)
          have hc6 := cn6_le (fun q => snt q && n.2.1 i q)
          refine r_iload_n 2 dX3_passTick_40 rfl rfl ?_
          refine r_bipush (v := nI 6) dX3_passTick_41 (by decide) ?_
          refine r_icmpN_ge 140 dX3_passTick_43 (by decide) (by omega) (by omega) (fun h43 => ?_) (fun h43 => ?_)
          · first | omega | exact K140 m r [_, _] hr hO ha ha2 (fun j hj => by have := hSt j hj; have hj0 := hz0 h47 j hj; by_cases e2 : j < i; (rw [if_pos e2] at this; exact this); (rw [if_neg e2] at this; rw [htN j hj0 (by rw [cn6_eq (g := fun _ => false) (fun q hq => by rw [hz0 h47 q hq]; rfl)]; rfl)]; exact this))
          · refine r_iload_n 1 dX3_passTick_46 rfl rfl ?_
            refine r_ifN_eq 140 dX3_passTick_47 (by decide) (by omega) (fun h47 => ?_) (fun h47 => ?_)
            · first | omega | exact K140 m r [_, _] hr hO ha ha2 (fun j hj => by have := hSt j hj; have hj0 := hz0 h47 j hj; by_cases e2 : j < i; (rw [if_pos e2] at this; exact this); (rw [if_neg e2] at this; rw [htN j hj0 (by rw [cn6_eq (g := fun _ => false) (fun q hq => by rw [hz0 h47 q hq]; rfl)]; rfl)]; exact this))
            · refine r_iload_n 1 dX3_passTick_50 rfl rfl ?_
              refine r_iload_n 2 dX3_passTick_51 rfl rfl ?_
              refine r_callSNp [_, _] dX3_passTick_52 ok_RX3_42 isX9_isIn rfl rfl (Nat.le_of_ble_eq_true rfl) (by refine ⟨?_, ?_, ?_, ?_⟩ <;> exact Nat.le_of_ble_eq_true rfl) (c_isInB snt (by omega)) ?_
              rw [hsi]
              refine r_ifB_eq 62 dX3_passTick_55 (by decide) (fun h55 => ?_) (fun h55 => ?_)
              · refine r_iload_n 1 dX3_passTick_62 rfl rfl ?_
                refine r_aload_n 0 dX3_passTick_63 rfl rfl ?_
                refine r_getR dX3_passTick_64 fl_RX3_17 rfl (by assumption) (by assumption) ?_
                refine r_iload_n 2 dX3_passTick_67 rfl rfl ?_
                refine r_ialdV dX3_passTick_68 (by assumption) (by omega) (by omega) (by first | assumption | exact up2_same _ _ _ _ | exact (Eq.trans (up2_ne _ _ (by omega)) (by first | assumption | exact up2_same _ _ _ _)) | exact (Eq.trans (up2_ne _ _ (by omega)) (Eq.trans (up2_ne _ _ (by omega)) (by first | assumption | exact up2_same _ _ _ _))) | exact (Eq.trans (up2_ne _ _ (by omega)) (Eq.trans (up2_ne _ _ (by omega)) (Eq.trans (up2_ne _ _ (by omega)) (by first | assumption | exact up2_same _ _ _ _)))) | exact (Eq.trans (up2_ne _ _ (by omega)) (Eq.trans (up2_ne _ _ (by omega)) (Eq.trans (up2_ne _ _ (by omega)) (Eq.trans (up2_ne _ _ (by omega)) (by first | assumption | exact up2_same _ _ _ _))))) | rfl) ?_
                refine r_iandN dX3_passTick_69 ?_
                refine r_istore_n 3 (ls2 := [_, _, _, _]) dX3_passTick_70 rfl (by decide) (Nat.le_of_ble_eq_true rfl) rfl ?_
                rw [hand]
                refine r_iload_n 3 dX3_passTick_71 rfl rfl ?_
                refine r_callSp [_] dX3_passTick_72 ok_RX3_46 isX3_firstIn rfl rfl (Nat.le_of_ble_eq_true rfl) (by refine ⟨?_, ?_, ?_, ?_⟩ <;> exact Nat.le_of_ble_eq_true rfl) (c_firstIn _) ?_
                refine r_istore 4 (ls2 := [_, _, _, _, _]) dX3_passTick_75 (by decide) (Nat.le_of_ble_eq_true rfl) rfl ?_
                skip
                refine r_iload_n 3 dX3_passTick_77 rfl rfl ?_
                refine r_callSp [_] dX3_passTick_78 ok_RX3_50 isJ6_bitCount_0f7a4 rfl rfl (Nat.le_of_ble_eq_true rfl) (by refine ⟨?_, ?_, ?_, ?_⟩ <;> exact Nat.le_of_ble_eq_true rfl) (c_bitCount _) ?_
                refine r_iconst (v := nI 1) dX3_passTick_81 (by decide) ?_
                skip
                refine r_icmpN_le 104 dX3_passTick_82 (by decide) (by omega) (by omega) (fun h82 => ?_) (fun h82 => ?_)
                · omega
                · refine r_aload_n 0 dX3_passTick_85 rfl rfl ?_
                  refine r_getR dX3_passTick_86 fl_RX3_11 rfl (by assumption) (by assumption) ?_
                  refine r_iload_n 2 dX3_passTick_89 rfl rfl ?_
                  refine r_aald dX3_passTick_90 (by assumption) (by decide) (by intro _; rfl) (by omega) (by omega) (by assumption) ?_
                  refine r_getR dX3_passTick_91 fl_RX3_55 rfl (by assumption) (by assumption) ?_
                  refine r_bipush (v := nI 7) dX3_passTick_94 (by decide) ?_
                  refine r_dup2 dX3_passTick_96 rfl rfl ?_
                  refine r_ialdV dX3_passTick_97 (by assumption) (by omega) (by omega) (by first | assumption | exact up2_same _ _ _ _ | exact (Eq.trans (up2_ne _ _ (by omega)) (by first | assumption | exact up2_same _ _ _ _)) | exact (Eq.trans (up2_ne _ _ (by omega)) (Eq.trans (up2_ne _ _ (by omega)) (by first | assumption | exact up2_same _ _ _ _))) | exact (Eq.trans (up2_ne _ _ (by omega)) (Eq.trans (up2_ne _ _ (by omega)) (Eq.trans (up2_ne _ _ (by omega)) (by first | assumption | exact up2_same _ _ _ _)))) | exact (Eq.trans (up2_ne _ _ (by omega)) (Eq.trans (up2_ne _ _ (by omega)) (Eq.trans (up2_ne _ _ (by omega)) (Eq.trans (up2_ne _ _ (by omega)) (by first | assumption | exact up2_same _ _ _ _))))) | rfl) ?_
                  refine r_iconst (v := nI 1) dX3_passTick_98 (by decide) ?_
                  refine r_iaddN dX3_passTick_99 ?_
                  refine r_iast dX3_passTick_100 (by assumption) (by omega) (by omega) ?_
                  refine r_goto 134 dX3_passTick_101 (by decide) ?_
                  refine r_iincN 2 (b := 1) (ls2 := [_, _, _, _, _]) dX3_passTick_134 rfl (by decide) (by decide) rfl ?_
                  refine r_goto 40 dX3_passTick_137 (by decide) ?_
                  refine step _ [_, _] (fun x hx => up2_row _ _ (by omega)) (by rw [htC i hsi hc]; exact hSi.tal (w := 7) (hln i (by omega))) (fun p' hp' => ?_)
                  exfalso
                  rw [hsn] at hsi
                  simp only at hsi
                  rw [hp'] at hsi
                  cases hsi
              · cases h55
  have H1 : ∀ (k i v : Nat) (m : MI) (r : MR), i + k = 6 → v = bs (fun s => decide (s < i) && snt s) → MrOk sh mr r → (∀ x, (x < a ∨ a + 261 ≤ x) → m x = mi x ∧ r x = mr x) → m a = mi a → m (a + 2) = mi (a + 2) → (∀ j, j < 6 → StC m r (a + 3 + 43 * j) (if j < i then aftS (n.1 j) now else n.1 j)) → (∀ j, j < i → ∀ p, sentP (n.1 j) now = some p → PkC m (a + 3 + 43 * j + 39) p) → Wp yX3_passTick cX3_passTick 5 none (EM 4 z sh (fun v m r => v = none ∧ NtC m r a (tck n) ∧ MrOk sh mr r ∧ ∀ x, (x < a ∨ a + 261 ≤ x) → m x = mi x ∧ r x = mr x)) 0 0 4 [.ref a, .int (nI v), .int (nI i)] [] z sh m r := by
    intro k
    induction k with
    | zero =>
      intro i v m r hi hv hr hO ha ha2 hSt hPk
      have hv2 : v = bs snt := hv.trans (bs_eq (fun q hq => by simp [show q < i by omega]))
      refine r_iload_n 2 dX3_passTick_4 rfl rfl ?_
      refine r_bipush (v := nI 6) dX3_passTick_5 (by decide) ?_
      refine r_icmpN_ge 38 dX3_passTick_7 (by decide) (by omega) (by omega) (fun h7 => ?_) (fun h7 => ?_)
      · refine r_iconst (v := nI 0) dX3_passTick_38 (by decide) ?_
        refine r_istore_n 2 (ls2 := [_, _, _]) dX3_passTick_39 rfl (by decide) (Nat.le_of_ble_eq_true rfl) rfl ?_
        rw [hv2]
        exact H2 6 0 m r [] rfl hr hO ha ha2 (fun j hj => by have := hSt j hj; rw [if_pos (by omega)] at this; rw [if_neg (by omega)]; exact this) (fun j hj => hPk j (by omega))
      · omega
    | succ k ih =>
      intro i v m r hi hv hr hO ha ha2 hSt hPk
      obtain ⟨r1, r2, r3, r4, r5, r6⟩ := hlo r hr
      obtain ⟨q1, q2⟩ := r6 i (by omega)
      obtain ⟨q0, -, -, ⟨q5, q6⟩, ⟨q7, q8⟩, -⟩ := id q2
      have hna : m a 2 = nI now := by rw [ha]; exact n0
      have hSi := hSt i (by omega)
      rw [if_neg (Nat.lt_irrefl i)] at hSi
      have h2 : 1 * 2 ^ i < 2 ^ 32 := by have := Nat.pow_lt_pow_right (a := 2) (by omega) (show i < 32 by omega); omega
      have hlt : ∀ q, q ≠ i → decide (q < i) = decide (q < i + 1) := fun q e => by simp only [decide_eq_decide]; omega
      cases hsi : snt i with
      | false =>
        have hd : ¬ duIx (n.1 i).2.2.1 now < (n.1 i).2.2.1.length := fun h => by
          have := (snt_iff (n.1 i) now).mpr h
          rw [hsn] at hsi; simp only at hsi; rw [hsi] at this; cases this
        have hd2 : duIx (n.1 i).2.2.1 now = (n.1 i).2.2.1.length := by
          have := List.findIdx_le_length (p := fun q : Pk × Nat => decide (q.2 ≤ now)) (xs := (n.1 i).2.2.1)
          unfold duIx at hd ⊢; omega
        have haft : aftS (n.1 i) now = n.1 i := by unfold aftS; rw [if_neg hd]
        have K1 : v = bs (fun s => decide (s < i + 1) && snt s) := by
          rw [hv]
          refine bs_eq (fun q hq => ?_)
          by_cases e : q = i
          · subst e; rw [hsi]; simp
          · rw [hlt q e]
        refine r_iload_n 2 dX3_passTick_4 rfl rfl ?_
        refine r_bipush (v := nI 6) dX3_passTick_5 (by decide) ?_
        refine r_icmpN_ge 38 dX3_passTick_7 (by decide) (by omega) (by omega) (fun h7 => ?_) (fun h7 => ?_)
        · omega
        · refine r_aload_n 0 dX3_passTick_10 rfl rfl ?_
          refine r_getR dX3_passTick_11 fl_RX3_11 rfl (by assumption) (by assumption) ?_
          refine r_iload_n 2 dX3_passTick_14 rfl rfl ?_
          refine r_aald dX3_passTick_15 (by assumption) (by decide) (by intro _; rfl) (by omega) (by omega) (by assumption) ?_
          refine r_aload_n 0 dX3_passTick_16 rfl rfl ?_
          refine r_getV dX3_passTick_17 fl_RX3_28 rfl (by assumption) (by first | assumption | exact up2_same _ _ _ _ | exact (Eq.trans (up2_ne _ _ (by omega)) (by first | assumption | exact up2_same _ _ _ _)) | exact (Eq.trans (up2_ne _ _ (by omega)) (Eq.trans (up2_ne _ _ (by omega)) (by first | assumption | exact up2_same _ _ _ _))) | exact (Eq.trans (up2_ne _ _ (by omega)) (Eq.trans (up2_ne _ _ (by omega)) (Eq.trans (up2_ne _ _ (by omega)) (by first | assumption | exact up2_same _ _ _ _)))) | exact (Eq.trans (up2_ne _ _ (by omega)) (Eq.trans (up2_ne _ _ (by omega)) (Eq.trans (up2_ne _ _ (by omega)) (Eq.trans (up2_ne _ _ (by omega)) (by first | assumption | exact up2_same _ _ _ _))))) | rfl) ?_
          refine r_callVp [_] dX3_passTick_20 ok_RX3_39 ivX6_startSending (by assumption) ⟨_, _, rfl⟩ rfl rfl (Nat.le_of_ble_eq_true rfl) (by refine ⟨?_, ?_, ?_, ?_⟩ <;> exact Nat.le_of_ble_eq_true rfl) (c_startNo q2 hSi (hok i (by omega)) (by omega) hd2) ?_
          refine r_ifN_eq 32 dX3_passTick_23 (by decide) (by omega) (fun h23 => ?_) (fun h23 => ?_)
          · refine r_iincN 2 (b := 1) (ls2 := [_, _, _]) dX3_passTick_32 rfl (by decide) (by decide) rfl ?_
            refine r_goto 4 dX3_passTick_35 (by decide) ?_
            refine ih (i + 1) v m r (by omega) K1 hr hO ha ha2 (fun j hj => ?_) (fun j hj p hp => ?_)
            · have := hSt j hj
              by_cases e : j = i
              · subst e; rw [if_pos (by omega), haft]; exact hSi
              · by_cases e2 : j < i
                · rw [if_pos e2] at this; rw [if_pos (by omega)]; exact this
                · rw [if_neg e2] at this; rw [if_neg (by omega)]; exact this
            · by_cases e : j = i
              · subst e
                exfalso
                rw [hsn] at hsi
                simp only at hsi
                rw [hp] at hsi
                cases hsi
              · exact hPk j (by omega) p hp
          · exact absurd rfl h23
      | true =>
        have hd : duIx (n.1 i).2.2.1 now < (n.1 i).2.2.1.length := (snt_iff (n.1 i) now).mp (by rw [hsn] at hsi; exact hsi)
        have K2 : v ||| 1 * 2 ^ i = bs (fun s => decide (s < i + 1) && snt s) := by
          rw [hv, bs_or _ (by omega)]
          refine bs_eq (fun q hq => ?_)
          unfold upB
          by_cases e : q = i
          · subst e; rw [if_pos rfl, hsi]; simp
          · rw [if_neg e]; dsimp only; rw [hlt q e]
        refine r_iload_n 2 dX3_passTick_4 rfl rfl ?_
        refine r_bipush (v := nI 6) dX3_passTick_5 (by decide) ?_
        refine r_icmpN_ge 38 dX3_passTick_7 (by decide) (by omega) (by omega) (fun h7 => ?_) (fun h7 => ?_)
        · omega
        · refine r_aload_n 0 dX3_passTick_10 rfl rfl ?_
          refine r_getR dX3_passTick_11 fl_RX3_11 rfl (by assumption) (by assumption) ?_
          refine r_iload_n 2 dX3_passTick_14 rfl rfl ?_
          refine r_aald dX3_passTick_15 (by assumption) (by decide) (by intro _; rfl) (by omega) (by omega) (by assumption) ?_
          refine r_aload_n 0 dX3_passTick_16 rfl rfl ?_
          refine r_getV dX3_passTick_17 fl_RX3_28 rfl (by assumption) (by first | assumption | exact up2_same _ _ _ _ | exact (Eq.trans (up2_ne _ _ (by omega)) (by first | assumption | exact up2_same _ _ _ _)) | exact (Eq.trans (up2_ne _ _ (by omega)) (Eq.trans (up2_ne _ _ (by omega)) (by first | assumption | exact up2_same _ _ _ _))) | exact (Eq.trans (up2_ne _ _ (by omega)) (Eq.trans (up2_ne _ _ (by omega)) (Eq.trans (up2_ne _ _ (by omega)) (by first | assumption | exact up2_same _ _ _ _)))) | exact (Eq.trans (up2_ne _ _ (by omega)) (Eq.trans (up2_ne _ _ (by omega)) (Eq.trans (up2_ne _ _ (by omega)) (Eq.trans (up2_ne _ _ (by omega)) (by first | assumption | exact up2_same _ _ _ _))))) | rfl) ?_
          refine r_callVmx [_] dX3_passTick_20 ok_RX3_39 ivX6_startSending (by assumption) ⟨_, _, rfl⟩ rfl rfl (Nat.le_of_ble_eq_true rfl) (by refine ⟨?_, ?_, ?_, ?_⟩ <;> exact Nat.le_of_ble_eq_true rfl) (c_startYes q2 hSi (hok i (by omega)) (by omega) hd) ?_
          intro m' r' ⟨g1, g2, g3, g4⟩
          have hr' : MrOk sh r r' := fun x hx => g4 x (fun e => hx (by rw [e]; exact q8.2.2.1))
          refine r_ifN_eq 32 dX3_passTick_23 (by decide) (by omega) (fun h23 => ?_) (fun h23 => ?_)
          · refine r_iincN 2 (b := 1) (ls2 := [_, _, _]) dX3_passTick_32 rfl (by decide) (by decide) rfl ?_
            refine r_goto 4 dX3_passTick_35 (by decide) ?_
            first | omega | (refine ih (i + 1) _ m' r' (by omega) K2 (hr.tr hr') (fun x hx => ⟨by rw [g3 x (by omega)]; exact (hO x hx).1, by rw [g4 x (by omega)]; exact (hO x hx).2⟩) (by rw [g3 a (by omega)]; exact ha) (by rw [g3 (a + 2) (by omega)]; exact ha2) (fun j hj => ?_) (fun j hj p hp => ?_); (by_cases e : j = i; (subst e; rw [if_pos (by omega)]; exact g1); (have hj2 := hSt j hj; by_cases e2 : j < i; (rw [if_pos e2] at hj2; rw [if_pos (by omega)]; exact hj2.keep2 (hla j hj) (fun y y1 y2 => g3 y (by omega)) (g4 _ (by omega))); (rw [if_neg e2] at hj2; rw [if_neg (by omega)]; exact hj2.keep2 (hln j hj) (fun y y1 y2 => g3 y (by omega)) (g4 _ (by omega))))); (by_cases e : j = i; (subst e; exact g2 p hp); (exact (hPk j (by omega) p hp).keep (g3 _ (by omega)) (g3 _ (by omega)))))
          · refine r_iload_n 1 dX3_passTick_26 rfl rfl ?_
            refine r_iconst (v := nI 1) dX3_passTick_27 (by decide) ?_
            refine r_iload_n 2 dX3_passTick_28 rfl rfl ?_
            refine r_ishlN dX3_passTick_29 (by omega) (by omega) ?_
            refine r_iorN dX3_passTick_30 ?_
            refine r_istore_n 1 (ls2 := [_, _, _]) dX3_passTick_31 rfl (by decide) (Nat.le_of_ble_eq_true rfl) rfl ?_
            refine r_iincN 2 (b := 1) (ls2 := [_, _, _]) dX3_passTick_32 rfl (by decide) (by decide) rfl ?_
            refine r_goto 4 dX3_passTick_35 (by decide) ?_
            first | omega | (refine ih (i + 1) _ m' r' (by omega) K2 (hr.tr hr') (fun x hx => ⟨by rw [g3 x (by omega)]; exact (hO x hx).1, by rw [g4 x (by omega)]; exact (hO x hx).2⟩) (by rw [g3 a (by omega)]; exact ha) (by rw [g3 (a + 2) (by omega)]; exact ha2) (fun j hj => ?_) (fun j hj p hp => ?_); (by_cases e : j = i; (subst e; rw [if_pos (by omega)]; exact g1); (have hj2 := hSt j hj; by_cases e2 : j < i; (rw [if_pos e2] at hj2; rw [if_pos (by omega)]; exact hj2.keep2 (hla j hj) (fun y y1 y2 => g3 y (by omega)) (g4 _ (by omega))); (rw [if_neg e2] at hj2; rw [if_neg (by omega)]; exact hj2.keep2 (hln j hj) (fun y y1 y2 => g3 y (by omega)) (g4 _ (by omega))))); (by_cases e : j = i; (subst e; exact g2 p hp); (exact (hPk j (by omega) p hp).keep (g3 _ (by omega)) (g3 _ (by omega)))))
  refine Mv.of pnX3_passTick (Nat.le_of_ble_eq_true rfl) rfl ?_
  refine r_iconst (v := nI 0) dX3_passTick_0 (by decide) ?_
  refine r_istore_n 1 (ls2 := [_, _]) dX3_passTick_1 rfl (by decide) (Nat.le_of_ble_eq_true rfl) rfl ?_
  refine r_iconst (v := nI 0) dX3_passTick_2 (by decide) ?_
  refine r_istore_n 2 (ls2 := [_, _, _]) dX3_passTick_3 rfl (by decide) (Nat.le_of_ble_eq_true rfl) rfl ?_
  exact H1 6 0 0 mi mr rfl (by rw [bs_eq (g := fun _ => false) (fun q _ => by simp)]; rfl) MrOk.rf (fun _ _ => ⟨rfl, rfl⟩) rfl rfl (fun j hj => by rw [if_neg (by omega)]; exact (hN.2 j hj).2) (fun j hj => by omega)
end NET3
