section CLS5
variable {z : Nat} {sh : SH} {mi : MI} {mr : MR} {x : Nat}
theorem prsN_ok {P : List Nat} {nm : Nm} (h : prsN P = some nm) : okL 3 nm := by
  unfold prsN at h
  split at h
  · cases h
  · rename_i hn
    cases h
    exact lets_okL (fun e => hn (Or.inl e))
theorem rd_none {a : Nat} (hL : LPd sh mr a) {P : List Nat} (hC : PdC mi a P) (hok : okD P) (hp : prsN P = none) : Mi mX5_readName 2 [.ref a] z sh mi mr (fun v m => v = some (.int (nI 0)) ∧ m = up2 mi a 2 (nI (lets 65 3 P 0).length)) := by
  have h := c_readName (z := z) hL hC hok
  rw [hp] at h
  exact h
theorem rd_some {a : Nat} (hL : LPd sh mr a) {P : List Nat} (hC : PdC mi a P) (hok : okD P) {f : Nm} (hp : prsN P = some f) : Mi mX5_readName 2 [.ref a] z sh mi mr (fun v m => v = some (.int (nI (en 32 f))) ∧ m = up2 mi a 2 (nI (lets 65 3 P 0).length)) := by
  have h := c_readName (z := z) hL hC hok
  rw [hp] at h
  exact h
theorem CR.rd {σ : Al} {N : Nat} {t : Int32} (h : CR z sh mi mr x σ) (hok : okA σ N) : CR z sh (up2 mi (x + 1) 2 t) mr x σ := h.keep hok MrOk.rf (fun q hq => Or.inl ⟨up2_row _ _ (by omega), rfl⟩) (up2_ne _ _ (Or.inr (by omega)))
theorem CR.trial {σ : Al} {N : Nat} {m : MI} {r : MR} {n' : Nt} (h : CR z sh mi mr x σ) (hok : okA σ N) (hr : MrOk sh mr r) (hn : NtC m r (x + 264 + 1) n') (hx : ∀ q, (q < x + 264 ∨ x + 528 ≤ q) → m q = mi q ∧ r q = mr q) : CR z sh m r x σ := by
  obtain ⟨h1, h2, h3, h4, h5, h6⟩ := h
  have e528 := (hx (x + 528) (by omega)).2
  refine ⟨h1.mv hr, h2.keep (by rw [(hx (x + 1) (by omega)).1]) (hx (x + 1 + 1) (by omega)).1, h3.keep2 (okNt_len hok.2.1.1) (fun q q1 q2 => hx q (by omega)), fun s hs => (hn.2 s hs).2.2.2.2.1, fun k hk => ?_, by rw [e528]; exact h6⟩
  have := h5 k hk
  unfold ImC at *
  cases ho : σ.2.2 k with
  | none => rw [ho] at this; simp only at this ⊢; rw [e528]; exact this
  | some n =>
    rw [ho] at this
    simp only at this ⊢
    obtain ⟨y, y1, y2, y3, y4, y5⟩ := this
    exact ⟨y, by rw [e528]; exact y1, y2, y3, y4.mv hr, y5.keep2 (okNt_len (hok.2.2 k hk n ho).1) (fun q q1 q2 => hx q (by omega))⟩
theorem NmC_add {m : MI} {a : Nat} {l : List Nm} {f : Nm} (h : ∀ i y, l[i]? = some y → m a i = nI (en 32 y)) {i : Nat} {y : Nm} (hy : (l ++ [f])[i]? = some y) : up2 m a l.length (nI (en 32 f)) a i = nI (en 32 y) := by
  by_cases e : i = l.length
  · subst e
    rw [List.getElem?_append_right (Nat.le_refl _), Nat.sub_self] at hy
    cases hy
    exact up2_same _ _ _ _
  · have hil := gl_lt hy
    rw [List.length_append] at hil
    simp at hil
    rw [List.getElem?_append_left (by omega)] at hy
    rw [up2_ne _ _ (Or.inr e)]
    exact h i y hy
theorem k_name {σ : Al} {N : Nat} (hC : CR z sh mi mr x σ) (hok : okA σ N) (s w : Int32) : Mm mX9_name 3 [.ref x, .int s, .int w] z sh mi mr (PC z sh mi mr x (sp_name σ s w)) := by
  obtain ⟨hLL, c2, c3, c4, c5, c6⟩ := id hC
  obtain ⟨l0, ⟨l1, l2⟩, ⟨l3, l4⟩, ⟨l5, l6⟩, ⟨l7, l8⟩, ⟨l9, l10⟩, ⟨l11, l12⟩⟩ := id hLL
  have pd0 := l2.1
  have pd1 := c2.1
  have h40 := hok.1.1
  have hnt := okNt_len hok.2.1.1
  obtain ⟨n0, n1, n2, n3, n4, n5⟩ := id l4
  have K36 : stB s = true → inB w (nI 0) (nI 2) = true → ∀ f, prsN σ.1 = some f → ∀ m, CR z sh m mr x σ → (∀ q, q ≠ x + 1 → m q = mi q) → Wp yX9_name cX9_name 6 (some .int) (EM 3 z sh (PC z sh mi mr x (sp_name σ s w))) 0 0 36 [.ref x, .int s, .int w, .int (nI (en 32 f))] [] z sh m mr := by
    intro hb hin f hf m hCm hmq
    have hfl := prsN_ok hf
    obtain ⟨-, d2, d3, d4, d5, d6⟩ := id hCm
    obtain ⟨j, j1, j2, rfl⟩ := inB_ex (by omega) hin (by omega)
    obtain ⟨k, hk, rfl⟩ := st_ex hb
    have hkk : sk (nI k) = k := sk_nI (by omega)
    obtain ⟨s1, s2⟩ := n5 k hk
    obtain ⟨t0, ⟨t1, t2⟩, ⟨t3, t4⟩, ⟨t5, t6⟩, ⟨t7, t8⟩, ⟨t9, t10⟩, ⟨t11, t12⟩, ⟨t13, t14⟩, ⟨t15, t16⟩⟩ := id s2
    have hSt := (c3.2 k hk).2
    have hOk := hok.2.1.1.1 k hk
    have hS := (d3.2 k hk).2
    obtain ⟨e1, e2, e3, e4, e5, e6⟩ := id hS.1
    have hl := hnt k hk
    have v0 := t2.1
    have v1 := t4.1
    have f2 : m (x + 3 + 3 + 43 * k + 1) 1 = nI (stA σ k).1.2.1.length := e2.1
    have f3 : m (x + 3 + 3 + 43 * k + 3) 1 = nI (stA σ k).1.2.2.1.length := e3.1
    have w2 : (stA σ k).1.2.1.length ≤ 2 := hOk.1.2.1.1
    have w3 : (stA σ k).1.2.2.1.length ≤ 2 := hOk.1.2.2.1.1
    have fin : ∀ (m1 m2 : MI) (se' : Se), StC m1 mr (x + 3 + 3 + 43 * k) (se', (stA σ k).2) → (∀ q, (q < x + 3 + 3 + 43 * k ∨ x + 3 + 3 + 43 * k + 43 ≤ q) → m1 q = m q) → m2 = up2 m1 (x + 1) 1 (nI 0) → CR z sh m2 mr x (noP (upA σ k (se', (stA σ k).2))) ∧ ∀ q, x + 533 ≤ q → q < x + 544 → m2 q = mi q ∧ mr q = mr q := by
      intro m1 m2 se' hS1 hO1 hm2
      have hC3 := hCm.st hok hk hS1 hO1
      refine ⟨CR.pad0 hC3 (fun s hs => ?_) (fun k hk n e => okNt_len (hok.2.2 k hk n e).1) ⟨by rw [hm2, up2_same]; rfl, fun i y hy => by simp at hy⟩ (fun q q1 q2 => by rw [hm2, up2_row _ _ q1]), fun q q1 q2 => ⟨by rw [hm2, up2_row _ _ (by omega), hO1 q (by omega), hmq q (by omega)], rfl⟩⟩
      show (upS _ k _ s).2.2.1.length ≤ 12
      unfold upS
      split
      · exact hl
      · exact hnt s hs
    have base : sp_name σ (nI k) (nI j) = if nI j = nI 0 then (if ∃ t, t < 6 ∧ t ≠ k ∧ (stA σ t).1.1 = f then (-3, σ) else (nI 1, noP (upA σ k ((f, (stA σ k).1.2), (stA σ k).2)))) else if nI j = nI 1 then (if 2 ≤ (stA σ k).1.2.1.length then (-4, σ) else (nI ((stA σ k).1.2.1.length + 1), noP (upA σ k (((stA σ k).1.1, (stA σ k).1.2.1 ++ [f], (stA σ k).1.2.2), (stA σ k).2)))) else (if 2 ≤ (stA σ k).1.2.2.1.length then (-4, σ) else (nI ((stA σ k).1.2.2.1.length + 1), noP (upA σ k (((stA σ k).1.1, (stA σ k).1.2.1, (stA σ k).1.2.2.1 ++ [f], (stA σ k).1.2.2.2), (stA σ k).2)))) := by
      unfold sp_name
      rw [if_neg (by rw [hb]; decide), if_neg (by rw [hin]; decide), hf]
      simp only
      rw [hkk]
    have stay : ∀ r, sp_name σ (nI k) (nI j) = (r, σ) → PC z sh mi mr x (sp_name σ (nI k) (nI j)) (some (.int r)) m mr := fun r e => by rw [e]; exact ⟨rfl, hCm, fun q q1 q2 => ⟨hmq q (by omega), rfl⟩⟩
    rcases (show j = 0 ∨ j = 1 ∨ j = 2 by omega) with rfl | rfl | rfl
    · have b0 : sp_name σ (nI k) (nI 0) = if ∃ t, t < 6 ∧ t ≠ k ∧ (stA σ t).1.1 = f then (-3, σ) else (nI 1, noP (upA σ k ((f, (stA σ k).1.2), (stA σ k).2))) := by rw [base, if_pos rfl]
      have K77 : (¬ ∃ t, t < 6 ∧ t ≠ k ∧ (stA σ t).1.1 = f) → ∀ o, Wp yX9_name cX9_name 6 (some .int) (EM 3 z sh (PC z sh mi mr x (sp_name σ (nI k) (nI 0)))) 0 0 77 [.ref x, .int (nI k), .int (nI 0), .int (nI (en 32 f)), .ref (x + 3 + 3 + 43 * k), o] [] z sh m mr := by
        intro hn o
        rw [if_neg hn] at b0
        refine r_aload 4 dX9_name_77 rfl ?_
        refine r_iload_n 3 dX9_name_79 rfl rfl ?_
        refine r_putI dX9_name_80 fl_RX9_79 rfl rfl rfl (by assumption) ?_
        refine r_aload_n 0 dX9_name_83 rfl rfl ?_
        refine r_getR dX9_name_84 fl_RX9_10 rfl (by assumption) (by assumption) ?_
        refine r_callVw [] dX9_name_87 ok_RX9_56 ivX5_clear (by assumption) ⟨_, _, rfl⟩ rfl rfl (Nat.le_of_ble_eq_true rfl) (by refine ⟨?_, ?_, ?_, ?_⟩ <;> exact Nat.le_of_ble_eq_true rfl) (c_pdClear l2) ?_
        intro m2 hm2
        refine r_iconst (v := nI 1) dX9_name_90 (by decide) ?_
        refine r_iret dX9_name_91 rfl (Nat.le_of_ble_eq_true rfl) (Nat.le_of_ble_eq_true rfl) ?_
        rw [b0]
        refine ⟨rfl, rfl, rfl, fin _ m2 _ (hS.se hl ⟨up2_same _ _ _ _, e2.keep (up2_row _ _ (by omega)) (up2_row _ _ (by omega)), e3.keep (up2_row _ _ (by omega)) (up2_row _ _ (by omega)), ?_, ?_, ?_⟩ ?_ (fun q hq => up2_row _ _ (by omega))) (fun q hq => up2_row _ _ (by omega)) hm2⟩ <;> (rw [up2_ne _ _ (Or.inr (by omega))]; first | assumption | done)
      have hcl := c_called (z := z) l4 d3 (fun s hs => (hok.2.1.1.1 s hs).1.1) hfl
      have hfs : ∀ q, fs6 (fun s => (σ.2.1.1 s).1.1 == f) = some q → q < 6 ∧ (stA σ q).1.1 = f := fun q e => ⟨fs6_lt e, by have h : ((σ.2.1.1 q).1.1 == f) = true := List.find?_some (p := fun s => (σ.2.1.1 s).1.1 == f) (l := List.range 6) e; exact eq_of_beq h⟩
      cases hq : fs6 (fun s => (σ.2.1.1 s).1.1 == f) with
      | none =>
        rw [hq] at hcl
        have hno : ¬ ∃ t, t < 6 ∧ t ≠ k ∧ (stA σ t).1.1 = f := fun ⟨t, t1, _, t3⟩ => by
          have := List.find?_eq_none.mp hq t (List.mem_range.mpr t1)
          exact this (beq_iff_eq.mpr t3)
        refine r_aload_n 0 dX9_name_36 rfl rfl ?_
        refine r_getR dX9_name_37 fl_RX9_19 rfl (by assumption) (by assumption) ?_
        refine r_getR dX9_name_40 fl_RX9_71 rfl (by assumption) (by assumption) ?_
        refine r_iload_n 1 dX9_name_43 rfl rfl ?_
        refine r_aald dX9_name_44 (by assumption) (by decide) (by intro _; rfl) (by omega) (by omega) (by assumption) ?_
        refine r_astore 4 (ls2 := [_, _, _, _, _]) dX9_name_45 (by decide) (Nat.le_of_ble_eq_true rfl) rfl ?_
        refine r_iload_n 2 dX9_name_47 rfl rfl ?_
        refine r_ifN_ne 92 dX9_name_48 (by decide) (by omega) (fun h48 => ?_) (fun h48 => ?_)
        · omega
        · refine r_aload_n 0 dX9_name_51 rfl rfl ?_
          refine r_getR dX9_name_52 fl_RX9_19 rfl (by assumption) (by assumption) ?_
          refine r_iload_n 3 dX9_name_55 rfl rfl ?_
          refine r_callVp [_] dX9_name_56 ok_RX9_75 ivX3_stationCalled (by assumption) ⟨_, _, rfl⟩ rfl rfl (Nat.le_of_ble_eq_true rfl) (by refine ⟨?_, ?_, ?_, ?_⟩ <;> exact Nat.le_of_ble_eq_true rfl) (hcl) ?_
          refine r_istore 5 (ls2 := [_, _, _, _, _, _]) dX9_name_59 (by decide) (Nat.le_of_ble_eq_true rfl) rfl ?_
          refine r_iload 5 dX9_name_61 rfl ?_
          refine r_bipush (v := -6) dX9_name_63 (by decide) ?_
          refine r_icmp_eq 77 dX9_name_65 (by decide) (fun h65 => ?_) (fun h65 => ?_)
          · exact K77 hno _
          · exact absurd rfl h65
      | some q =>
        rw [hq] at hcl
        obtain ⟨q1, q2⟩ := hfs q hq
        by_cases hqk : q = k
        · have hno : ¬ ∃ t, t < 6 ∧ t ≠ k ∧ (stA σ t).1.1 = f := fun ⟨t, t1, t2, t3⟩ => t2 (by rw [← hqk]; exact hok.2.1.1.2 t q t1 q1 (by show (stA σ t).1.1 = (stA σ q).1.1; rw [t3, q2]))
          refine r_aload_n 0 dX9_name_36 rfl rfl ?_
          refine r_getR dX9_name_37 fl_RX9_19 rfl (by assumption) (by assumption) ?_
          refine r_getR dX9_name_40 fl_RX9_71 rfl (by assumption) (by assumption) ?_
          refine r_iload_n 1 dX9_name_43 rfl rfl ?_
          refine r_aald dX9_name_44 (by assumption) (by decide) (by intro _; rfl) (by omega) (by omega) (by assumption) ?_
          refine r_astore 4 (ls2 := [_, _, _, _, _]) dX9_name_45 (by decide) (Nat.le_of_ble_eq_true rfl) rfl ?_
          refine r_iload_n 2 dX9_name_47 rfl rfl ?_
          refine r_ifN_ne 92 dX9_name_48 (by decide) (by omega) (fun h48 => ?_) (fun h48 => ?_)
          · omega
          · refine r_aload_n 0 dX9_name_51 rfl rfl ?_
            refine r_getR dX9_name_52 fl_RX9_19 rfl (by assumption) (by assumption) ?_
            refine r_iload_n 3 dX9_name_55 rfl rfl ?_
            refine r_callVp [_] dX9_name_56 ok_RX9_75 ivX3_stationCalled (by assumption) ⟨_, _, rfl⟩ rfl rfl (Nat.le_of_ble_eq_true rfl) (by refine ⟨?_, ?_, ?_, ?_⟩ <;> exact Nat.le_of_ble_eq_true rfl) (hcl) ?_
            refine r_istore 5 (ls2 := [_, _, _, _, _, _]) dX9_name_59 (by decide) (Nat.le_of_ble_eq_true rfl) rfl ?_
            refine r_iload 5 dX9_name_61 rfl ?_
            refine r_bipush (v := -6) dX9_name_63 (by decide) ?_
            refine r_icmp_eq 77 dX9_name_65 (by decide) (fun h65 => ?_) (fun h65 => ?_)
            · exact K77 hno _
            · refine r_iload 5 dX9_name_68 rfl ?_
              refine r_iload_n 1 dX9_name_70 rfl rfl ?_
              refine r_icmpN_eq 77 dX9_name_71 (by decide) (by omega) (by omega) (fun h71 => ?_) (fun h71 => ?_)
              · exact K77 hno _
              · exact absurd hqk h71
        · have hyes : ∃ t, t < 6 ∧ t ≠ k ∧ (stA σ t).1.1 = f := ⟨q, q1, hqk, q2⟩
          rw [if_pos hyes] at b0
          refine r_aload_n 0 dX9_name_36 rfl rfl ?_
          refine r_getR dX9_name_37 fl_RX9_19 rfl (by assumption) (by assumption) ?_
          refine r_getR dX9_name_40 fl_RX9_71 rfl (by assumption) (by assumption) ?_
          refine r_iload_n 1 dX9_name_43 rfl rfl ?_
          refine r_aald dX9_name_44 (by assumption) (by decide) (by intro _; rfl) (by omega) (by omega) (by assumption) ?_
          refine r_astore 4 (ls2 := [_, _, _, _, _]) dX9_name_45 (by decide) (Nat.le_of_ble_eq_true rfl) rfl ?_
          refine r_iload_n 2 dX9_name_47 rfl rfl ?_
          refine r_ifN_ne 92 dX9_name_48 (by decide) (by omega) (fun h48 => ?_) (fun h48 => ?_)
          · omega
          · refine r_aload_n 0 dX9_name_51 rfl rfl ?_
            refine r_getR dX9_name_52 fl_RX9_19 rfl (by assumption) (by assumption) ?_
            refine r_iload_n 3 dX9_name_55 rfl rfl ?_
            refine r_callVp [_] dX9_name_56 ok_RX9_75 ivX3_stationCalled (by assumption) ⟨_, _, rfl⟩ rfl rfl (Nat.le_of_ble_eq_true rfl) (by refine ⟨?_, ?_, ?_, ?_⟩ <;> exact Nat.le_of_ble_eq_true rfl) (hcl) ?_
            refine r_istore 5 (ls2 := [_, _, _, _, _, _]) dX9_name_59 (by decide) (Nat.le_of_ble_eq_true rfl) rfl ?_
            refine r_iload 5 dX9_name_61 rfl ?_
            refine r_bipush (v := -6) dX9_name_63 (by decide) ?_
            refine r_icmp_eq 77 dX9_name_65 (by decide) (fun h65 => ?_) (fun h65 => ?_)
            · first | exact absurd h71 hqk | exact absurd h65 (nI_ne6 (by omega))
            · refine r_iload 5 dX9_name_68 rfl ?_
              refine r_iload_n 1 dX9_name_70 rfl rfl ?_
              refine r_icmpN_eq 77 dX9_name_71 (by decide) (by omega) (by omega) (fun h71 => ?_) (fun h71 => ?_)
              · first | exact absurd h71 hqk | exact absurd h65 (nI_ne6 (by omega))
              · refine r_bipush (v := -3) dX9_name_74 (by decide) ?_
                refine r_iret dX9_name_76 rfl (Nat.le_of_ble_eq_true rfl) (Nat.le_of_ble_eq_true rfl) ?_
                exact ⟨rfl, rfl, stay _ b0⟩
    · have b1 : sp_name σ (nI k) (nI 1) = if 2 ≤ (stA σ k).1.2.1.length then (-4, σ) else (nI ((stA σ k).1.2.1.length + 1), noP (upA σ k (((stA σ k).1.1, (stA σ k).1.2.1 ++ [f], (stA σ k).1.2.2), (stA σ k).2))) := by rw [base, if_neg (by decide), if_pos rfl]
      refine r_aload_n 0 dX9_name_36 rfl rfl ?_
      refine r_getR dX9_name_37 fl_RX9_19 rfl (by assumption) (by assumption) ?_
      refine r_getR dX9_name_40 fl_RX9_71 rfl (by assumption) (by assumption) ?_
      refine r_iload_n 1 dX9_name_43 rfl rfl ?_
      refine r_aald dX9_name_44 (by assumption) (by decide) (by intro _; rfl) (by omega) (by omega) (by assumption) ?_
      refine r_astore 4 (ls2 := [_, _, _, _, _]) dX9_name_45 (by decide) (Nat.le_of_ble_eq_true rfl) rfl ?_
      refine r_iload_n 2 dX9_name_47 rfl rfl ?_
      refine r_ifN_ne 92 dX9_name_48 (by decide) (by omega) (fun h48 => ?_) (fun h48 => ?_)
      · refine r_iload_n 2 dX9_name_92 rfl rfl ?_
        refine r_iconst (v := nI 1) dX9_name_93 (by decide) ?_
        refine r_icmpN_ne 105 dX9_name_94 (by decide) (by omega) (by omega) (fun h94 => ?_) (fun h94 => ?_)
        · omega
        · refine r_aload 4 dX9_name_97 rfl ?_
          refine r_getR dX9_name_99 fl_RX9_84 rfl (by assumption) (by assumption) ?_
          refine r_goto 110 dX9_name_102 (by decide) ?_
          refine r_astore 5 (ls2 := [_, _, _, _, _, _]) dX9_name_110 (by decide) (Nat.le_of_ble_eq_true rfl) rfl ?_
          refine r_aload 5 dX9_name_112 rfl ?_
          refine r_getV dX9_name_114 fl_RX9_91 rfl (by assumption) (by first | assumption | exact up2_same _ _ _ _ | exact (Eq.trans (up2_ne _ _ (by omega)) (by first | assumption | exact up2_same _ _ _ _)) | exact (Eq.trans (up2_ne _ _ (by omega)) (Eq.trans (up2_ne _ _ (by omega)) (by first | assumption | exact up2_same _ _ _ _))) | exact (Eq.trans (up2_ne _ _ (by omega)) (Eq.trans (up2_ne _ _ (by omega)) (Eq.trans (up2_ne _ _ (by omega)) (by first | assumption | exact up2_same _ _ _ _)))) | exact (Eq.trans (up2_ne _ _ (by omega)) (Eq.trans (up2_ne _ _ (by omega)) (Eq.trans (up2_ne _ _ (by omega)) (Eq.trans (up2_ne _ _ (by omega)) (by first | assumption | exact up2_same _ _ _ _))))) | rfl) ?_
          refine r_iconst (v := nI 2) dX9_name_117 (by decide) ?_
          refine r_icmpN_lt 124 dX9_name_118 (by decide) (by omega) (by omega) (fun h118 => ?_) (fun h118 => ?_)
          · rw [if_neg (by omega)] at b1
            refine r_aload 5 dX9_name_124 rfl ?_
            refine r_iload_n 3 dX9_name_126 rfl rfl ?_
            refine r_callVw [_] dX9_name_127 ok_RX9_94 ivX2_add (by assumption) ⟨_, _, rfl⟩ rfl rfl (Nat.le_of_ble_eq_true rfl) (by refine ⟨?_, ?_, ?_, ?_⟩ <;> exact Nat.le_of_ble_eq_true rfl) (c_nmAdd t2 f2 h118) ?_
            intro m1 hm1
            have hS1 : StC m1 mr (x + 3 + 3 + 43 * k) (((stA σ k).1.1, (stA σ k).1.2.1 ++ [f], (stA σ k).1.2.2), (stA σ k).2) := hS.se hl ⟨by rw [hm1, up2_row _ _ (by omega), up2_row _ _ (by omega)]; exact e1, ⟨by rw [hm1, up2_same, List.length_append]; rfl, fun i y hy => by rw [hm1, up2_row _ _ (by omega)]; exact NmC_add e2.2 hy⟩, e3.keep (by rw [hm1, up2_row _ _ (by omega), up2_row _ _ (by omega)]) (by rw [hm1, up2_row _ _ (by omega), up2_row _ _ (by omega)]), by rw [hm1, up2_row _ _ (by omega), up2_row _ _ (by omega)]; exact e4, by rw [hm1, up2_row _ _ (by omega), up2_row _ _ (by omega)]; exact e5, by rw [hm1, up2_row _ _ (by omega), up2_row _ _ (by omega)]; exact e6⟩ (by rw [hm1, up2_row _ _ (by omega), up2_row _ _ (by omega)]) (fun q hq => by rw [hm1, up2_row _ _ (by omega), up2_row _ _ (by omega)])
            have hsz : m1 (x + 3 + 3 + 43 * k + 1) 1 = nI ((stA σ k).1.2.1.length + 1) := by rw [hm1, up2_same]
            refine r_aload_n 0 dX9_name_130 rfl rfl ?_
            refine r_getR dX9_name_131 fl_RX9_10 rfl (by assumption) (by assumption) ?_
            refine r_callVw [] dX9_name_134 ok_RX9_56 ivX5_clear (by assumption) ⟨_, _, rfl⟩ rfl rfl (Nat.le_of_ble_eq_true rfl) (by refine ⟨?_, ?_, ?_, ?_⟩ <;> exact Nat.le_of_ble_eq_true rfl) (c_pdClear l2) ?_
            intro m2 hm2
            have hsz2 : m2 (x + 3 + 3 + 43 * k + 1) 1 = nI ((stA σ k).1.2.1.length + 1) := by rw [hm2, up2_row _ _ (by omega)]; exact hsz
            refine r_aload 5 dX9_name_137 rfl ?_
            refine r_getV dX9_name_139 fl_RX9_91 rfl (by assumption) (by first | assumption | exact up2_same _ _ _ _ | exact (Eq.trans (up2_ne _ _ (by omega)) (by first | assumption | exact up2_same _ _ _ _)) | exact (Eq.trans (up2_ne _ _ (by omega)) (Eq.trans (up2_ne _ _ (by omega)) (by first | assumption | exact up2_same _ _ _ _))) | exact (Eq.trans (up2_ne _ _ (by omega)) (Eq.trans (up2_ne _ _ (by omega)) (Eq.trans (up2_ne _ _ (by omega)) (by first | assumption | exact up2_same _ _ _ _)))) | exact (Eq.trans (up2_ne _ _ (by omega)) (Eq.trans (up2_ne _ _ (by omega)) (Eq.trans (up2_ne _ _ (by omega)) (Eq.trans (up2_ne _ _ (by omega)) (by first | assumption | exact up2_same _ _ _ _))))) | rfl) ?_
            refine r_iret dX9_name_142 rfl (Nat.le_of_ble_eq_true rfl) (Nat.le_of_ble_eq_true rfl) ?_
            first | exact ⟨rfl, rfl, stay _ b1⟩ | (rw [b1]; exact ⟨rfl, rfl, rfl, fin m1 m2 _ hS1 (fun q hq => by rw [hm1, up2_row _ _ (by omega), up2_row _ _ (by omega)]) hm2⟩)
          · rw [if_pos h118] at b1
            refine r_bipush (v := -4) dX9_name_121 (by decide) ?_
            refine r_iret dX9_name_123 rfl (Nat.le_of_ble_eq_true rfl) (Nat.le_of_ble_eq_true rfl) ?_
            first | exact ⟨rfl, rfl, stay _ b1⟩ | (rw [b1]; exact ⟨rfl, rfl, rfl, fin m1 m2 _ hS1 (fun q hq => by rw [hm1, up2_row _ _ (by omega), up2_row _ _ (by omega)]) hm2⟩)
      · omega
    · have b1 : sp_name σ (nI k) (nI 2) = if 2 ≤ (stA σ k).1.2.2.1.length then (-4, σ) else (nI ((stA σ k).1.2.2.1.length + 1), noP (upA σ k (((stA σ k).1.1, (stA σ k).1.2.1, (stA σ k).1.2.2.1 ++ [f], (stA σ k).1.2.2.2), (stA σ k).2))) := by rw [base, if_neg (by decide), if_neg (by decide)]
      refine r_aload_n 0 dX9_name_36 rfl rfl ?_
      refine r_getR dX9_name_37 fl_RX9_19 rfl (by assumption) (by assumption) ?_
      refine r_getR dX9_name_40 fl_RX9_71 rfl (by assumption) (by assumption) ?_
      refine r_iload_n 1 dX9_name_43 rfl rfl ?_
      refine r_aald dX9_name_44 (by assumption) (by decide) (by intro _; rfl) (by omega) (by omega) (by assumption) ?_
      refine r_astore 4 (ls2 := [_, _, _, _, _]) dX9_name_45 (by decide) (Nat.le_of_ble_eq_true rfl) rfl ?_
      refine r_iload_n 2 dX9_name_47 rfl rfl ?_
      refine r_ifN_ne 92 dX9_name_48 (by decide) (by omega) (fun h48 => ?_) (fun h48 => ?_)
      · refine r_iload_n 2 dX9_name_92 rfl rfl ?_
        refine r_iconst (v := nI 1) dX9_name_93 (by decide) ?_
        refine r_icmpN_ne 105 dX9_name_94 (by decide) (by omega) (by omega) (fun h94 => ?_) (fun h94 => ?_)
        · refine r_aload 4 dX9_name_105 rfl ?_
          refine r_getR dX9_name_107 fl_RX9_88 rfl (by assumption) (by assumption) ?_
          refine r_astore 5 (ls2 := [_, _, _, _, _, _]) dX9_name_110 (by decide) (Nat.le_of_ble_eq_true rfl) rfl ?_
          refine r_aload 5 dX9_name_112 rfl ?_
          refine r_getV dX9_name_114 fl_RX9_91 rfl (by assumption) (by first | assumption | exact up2_same _ _ _ _ | exact (Eq.trans (up2_ne _ _ (by omega)) (by first | assumption | exact up2_same _ _ _ _)) | exact (Eq.trans (up2_ne _ _ (by omega)) (Eq.trans (up2_ne _ _ (by omega)) (by first | assumption | exact up2_same _ _ _ _))) | exact (Eq.trans (up2_ne _ _ (by omega)) (Eq.trans (up2_ne _ _ (by omega)) (Eq.trans (up2_ne _ _ (by omega)) (by first | assumption | exact up2_same _ _ _ _)))) | exact (Eq.trans (up2_ne _ _ (by omega)) (Eq.trans (up2_ne _ _ (by omega)) (Eq.trans (up2_ne _ _ (by omega)) (Eq.trans (up2_ne _ _ (by omega)) (by first | assumption | exact up2_same _ _ _ _))))) | rfl) ?_
          refine r_iconst (v := nI 2) dX9_name_117 (by decide) ?_
          refine r_icmpN_lt 124 dX9_name_118 (by decide) (by omega) (by omega) (fun h118 => ?_) (fun h118 => ?_)
          · rw [if_neg (by omega)] at b1
            refine r_aload 5 dX9_name_124 rfl ?_
            refine r_iload_n 3 dX9_name_126 rfl rfl ?_
            refine r_callVw [_] dX9_name_127 ok_RX9_94 ivX2_add (by assumption) ⟨_, _, rfl⟩ rfl rfl (Nat.le_of_ble_eq_true rfl) (by refine ⟨?_, ?_, ?_, ?_⟩ <;> exact Nat.le_of_ble_eq_true rfl) (c_nmAdd t4 f3 h118) ?_
            intro m1 hm1
            have hS1 : StC m1 mr (x + 3 + 3 + 43 * k) (((stA σ k).1.1, (stA σ k).1.2.1, (stA σ k).1.2.2.1 ++ [f], (stA σ k).1.2.2.2), (stA σ k).2) := hS.se hl ⟨by rw [hm1, up2_row _ _ (by omega), up2_row _ _ (by omega)]; exact e1, e2.keep (by rw [hm1, up2_row _ _ (by omega), up2_row _ _ (by omega)]) (by rw [hm1, up2_row _ _ (by omega), up2_row _ _ (by omega)]), ⟨by rw [hm1, up2_same, List.length_append]; rfl, fun i y hy => by rw [hm1, up2_row _ _ (by omega)]; exact NmC_add e3.2 hy⟩, by rw [hm1, up2_row _ _ (by omega), up2_row _ _ (by omega)]; exact e4, by rw [hm1, up2_row _ _ (by omega), up2_row _ _ (by omega)]; exact e5, by rw [hm1, up2_row _ _ (by omega), up2_row _ _ (by omega)]; exact e6⟩ (by rw [hm1, up2_row _ _ (by omega), up2_row _ _ (by omega)]) (fun q hq => by rw [hm1, up2_row _ _ (by omega), up2_row _ _ (by omega)])
            have hsz : m1 (x + 3 + 3 + 43 * k + 3) 1 = nI ((stA σ k).1.2.2.1.length + 1) := by rw [hm1, up2_same]
            refine r_aload_n 0 dX9_name_130 rfl rfl ?_
            refine r_getR dX9_name_131 fl_RX9_10 rfl (by assumption) (by assumption) ?_
            refine r_callVw [] dX9_name_134 ok_RX9_56 ivX5_clear (by assumption) ⟨_, _, rfl⟩ rfl rfl (Nat.le_of_ble_eq_true rfl) (by refine ⟨?_, ?_, ?_, ?_⟩ <;> exact Nat.le_of_ble_eq_true rfl) (c_pdClear l2) ?_
            intro m2 hm2
            have hsz2 : m2 (x + 3 + 3 + 43 * k + 3) 1 = nI ((stA σ k).1.2.2.1.length + 1) := by rw [hm2, up2_row _ _ (by omega)]; exact hsz
            refine r_aload 5 dX9_name_137 rfl ?_
            refine r_getV dX9_name_139 fl_RX9_91 rfl (by assumption) (by first | assumption | exact up2_same _ _ _ _ | exact (Eq.trans (up2_ne _ _ (by omega)) (by first | assumption | exact up2_same _ _ _ _)) | exact (Eq.trans (up2_ne _ _ (by omega)) (Eq.trans (up2_ne _ _ (by omega)) (by first | assumption | exact up2_same _ _ _ _))) | exact (Eq.trans (up2_ne _ _ (by omega)) (Eq.trans (up2_ne _ _ (by omega)) (Eq.trans (up2_ne _ _ (by omega)) (by first | assumption | exact up2_same _ _ _ _)))) | exact (Eq.trans (up2_ne _ _ (by omega)) (Eq.trans (up2_ne _ _ (by omega)) (Eq.trans (up2_ne _ _ (by omega)) (Eq.trans (up2_ne _ _ (by omega)) (by first | assumption | exact up2_same _ _ _ _))))) | rfl) ?_
            refine r_iret dX9_name_142 rfl (Nat.le_of_ble_eq_true rfl) (Nat.le_of_ble_eq_true rfl) ?_
            first | exact ⟨rfl, rfl, stay _ b1⟩ | (rw [b1]; exact ⟨rfl, rfl, rfl, fin m1 m2 _ hS1 (fun q hq => by rw [hm1, up2_row _ _ (by omega), up2_row _ _ (by omega)]) hm2⟩)
          · rw [if_pos h118] at b1
            refine r_bipush (v := -4) dX9_name_121 (by decide) ?_
            refine r_iret dX9_name_123 rfl (Nat.le_of_ble_eq_true rfl) (Nat.le_of_ble_eq_true rfl) ?_
            first | exact ⟨rfl, rfl, stay _ b1⟩ | (rw [b1]; exact ⟨rfl, rfl, rfl, fin m1 m2 _ hS1 (fun q hq => by rw [hm1, up2_row _ _ (by omega), up2_row _ _ (by omega)]) hm2⟩)
        · omega
      · omega
  refine Mv.of pnX9_name (Nat.le_of_ble_eq_true rfl) rfl ?_
  cases hb : stB s with
  | false =>
    refine r_iload_n 1 dX9_name_0 rfl rfl ?_
    refine r_callSp [_] dX9_name_1 ok_RX9_63 isX9_isStation rfl rfl (Nat.le_of_ble_eq_true rfl) (by refine ⟨?_, ?_, ?_, ?_⟩ <;> exact Nat.le_of_ble_eq_true rfl) (c_isSt _) ?_
    rw [hb]
    refine r_ifB_ne 9 dX9_name_4 (by decide) (fun h4 => ?_) (fun h4 => ?_)
    · cases h4
    · refine r_iconst (v := -1) dX9_name_7 (by decide) ?_
      refine r_iret dX9_name_8 rfl (Nat.le_of_ble_eq_true rfl) (Nat.le_of_ble_eq_true rfl) ?_
      refine ⟨rfl, rfl, ?_⟩
      have e : sp_name σ s w = (-1, σ) := by unfold sp_name; rw [if_pos hb]
      rw [e]
      exact PC.same hC
  | true =>
    by_cases hin : inB w (nI 0) (nI 2) = true
    · have dead : ∀ {P : Prop}, w < 0 ∨ ¬ w ≤ nI 2 → P := fun h => by
        rcases h with h | h
        · rw [nI_zero] at h; rw [inB_lo h] at hin; cases hin
        · rw [inB_hi h] at hin; cases hin
      cases hp : prsN σ.1 with
      | none =>
        have e : sp_name σ s w = (-7, σ) := by unfold sp_name; rw [if_neg (by rw [hb]; decide), if_neg (by rw [hin]; decide), hp]
        rw [e]
        refine r_iload_n 1 dX9_name_0 rfl rfl ?_
        refine r_callSp [_] dX9_name_1 ok_RX9_63 isX9_isStation rfl rfl (Nat.le_of_ble_eq_true rfl) (by refine ⟨?_, ?_, ?_, ?_⟩ <;> exact Nat.le_of_ble_eq_true rfl) (c_isSt _) ?_
        rw [hb]
        refine r_ifB_ne 9 dX9_name_4 (by decide) (fun h4 => ?_) (fun h4 => ?_)
        · refine r_iload_n 2 dX9_name_9 rfl rfl ?_
          refine r_if_lt 18 dX9_name_10 (by decide) (fun h10 => ?_) (fun h10 => ?_)
          · first | exact dead (Or.inl h10) | exact dead (Or.inr h15)
          · refine r_iload_n 2 dX9_name_13 rfl rfl ?_
            refine r_iconst (v := nI 2) dX9_name_14 (by decide) ?_
            refine r_icmp_le 21 dX9_name_15 (by decide) (fun h15 => ?_) (fun h15 => ?_)
            · refine r_aload_n 0 dX9_name_21 rfl rfl ?_
              refine r_getR dX9_name_22 fl_RX9_10 rfl (by assumption) (by assumption) ?_
              refine r_callVx [] dX9_name_25 ok_RX9_67 ivX5_readName (by assumption) ⟨_, _, rfl⟩ rfl rfl (Nat.le_of_ble_eq_true rfl) (by refine ⟨?_, ?_, ?_, ?_⟩ <;> exact Nat.le_of_ble_eq_true rfl) (rd_none l2 c2 hok.1 hp) ?_
              intro m hm
              refine r_istore_n 3 (ls2 := [_, _, _, _]) dX9_name_28 rfl (by decide) (Nat.le_of_ble_eq_true rfl) rfl ?_
              refine r_iload_n 3 dX9_name_29 rfl rfl ?_
              refine r_if_ne 36 dX9_name_30 (by decide) (fun h30 => ?_) (fun h30 => ?_)
              · exact absurd rfl h30
              · refine r_bipush (v := -7) dX9_name_33 (by decide) ?_
                refine r_iret dX9_name_35 rfl (Nat.le_of_ble_eq_true rfl) (Nat.le_of_ble_eq_true rfl) ?_
                refine ⟨rfl, rfl, rfl, ?_, fun q q1 q2 => ⟨by rw [hm, up2_row _ _ (by omega)], rfl⟩⟩
                rw [hm]; exact hC.rd hok
            · first | exact dead (Or.inl h10) | exact dead (Or.inr h15)
        · cases h4
      | some f =>
        have hpos := okL_pos (b := 32) (prsN_ok hp)
        have hlt := okL_32 (prsN_ok hp)
        refine r_iload_n 1 dX9_name_0 rfl rfl ?_
        refine r_callSp [_] dX9_name_1 ok_RX9_63 isX9_isStation rfl rfl (Nat.le_of_ble_eq_true rfl) (by refine ⟨?_, ?_, ?_, ?_⟩ <;> exact Nat.le_of_ble_eq_true rfl) (c_isSt _) ?_
        rw [hb]
        refine r_ifB_ne 9 dX9_name_4 (by decide) (fun h4 => ?_) (fun h4 => ?_)
        · refine r_iload_n 2 dX9_name_9 rfl rfl ?_
          refine r_if_lt 18 dX9_name_10 (by decide) (fun h10 => ?_) (fun h10 => ?_)
          · first | exact dead (Or.inl h10) | exact dead (Or.inr h15)
          · refine r_iload_n 2 dX9_name_13 rfl rfl ?_
            refine r_iconst (v := nI 2) dX9_name_14 (by decide) ?_
            refine r_icmp_le 21 dX9_name_15 (by decide) (fun h15 => ?_) (fun h15 => ?_)
            · refine r_aload_n 0 dX9_name_21 rfl rfl ?_
              refine r_getR dX9_name_22 fl_RX9_10 rfl (by assumption) (by assumption) ?_
              refine r_callVx [] dX9_name_25 ok_RX9_67 ivX5_readName (by assumption) ⟨_, _, rfl⟩ rfl rfl (Nat.le_of_ble_eq_true rfl) (by refine ⟨?_, ?_, ?_, ?_⟩ <;> exact Nat.le_of_ble_eq_true rfl) (rd_some l2 c2 hok.1 hp) ?_
              intro m hm
              refine r_istore_n 3 (ls2 := [_, _, _, _]) dX9_name_28 rfl (by decide) (Nat.le_of_ble_eq_true rfl) rfl ?_
              refine r_iload_n 3 dX9_name_29 rfl rfl ?_
              refine r_ifN_ne 36 dX9_name_30 (by decide) (by omega) (fun h30 => ?_) (fun h30 => ?_)
              · exact K36 hb hin f hp m (by rw [hm]; exact hC.rd hok) (fun q hq => by rw [hm, up2_row _ _ hq])
              · omega
            · first | exact dead (Or.inl h10) | exact dead (Or.inr h15)
        · cases h4
    · have e : sp_name σ s w = (-2, σ) := by unfold sp_name; rw [if_neg (by rw [hb]; decide), if_pos (by simpa using hin)]
      rw [e]
      refine r_iload_n 1 dX9_name_0 rfl rfl ?_
      refine r_callSp [_] dX9_name_1 ok_RX9_63 isX9_isStation rfl rfl (Nat.le_of_ble_eq_true rfl) (by refine ⟨?_, ?_, ?_, ?_⟩ <;> exact Nat.le_of_ble_eq_true rfl) (c_isSt _) ?_
      rw [hb]
      refine r_ifB_ne 9 dX9_name_4 (by decide) (fun h4 => ?_) (fun h4 => ?_)
      · refine r_iload_n 2 dX9_name_9 rfl rfl ?_
        refine r_if_lt 18 dX9_name_10 (by decide) (fun h10 => ?_) (fun h10 => ?_)
        · refine r_bipush (v := -2) dX9_name_18 (by decide) ?_
          refine r_iret dX9_name_20 rfl (Nat.le_of_ble_eq_true rfl) (Nat.le_of_ble_eq_true rfl) ?_
          exact ⟨rfl, rfl, PC.same hC⟩
        · refine r_iload_n 2 dX9_name_13 rfl rfl ?_
          refine r_iconst (v := nI 2) dX9_name_14 (by decide) ?_
          refine r_icmp_le 21 dX9_name_15 (by decide) (fun h15 => ?_) (fun h15 => ?_)
          · exact absurd (inB_ok (by rw [nI_zero] at h10; exact h10) h15) hin
          · refine r_bipush (v := -2) dX9_name_18 (by decide) ?_
            refine r_iret dX9_name_20 rfl (Nat.le_of_ble_eq_true rfl) (Nat.le_of_ble_eq_true rfl) ?_
            exact ⟨rfl, rfl, PC.same hC⟩
      · cases h4
end CLS5
