section RSET
variable {z : Nat} {sh : SH} {mi : MI} {mr : MR} {o : Nat}
theorem SeM.call {f g : Rw} {s : Nat} {e : Se} {nm : Nm} (hs : s < 6) (h : SeM f s e) (h0 : g s = nI (en 27 nm)) (hx : ∀ i, i ≠ s → g i = f i) : SeM g s (nm, e.2) := by
  obtain ⟨h1, ⟨h2, h3⟩, ⟨h4, h5⟩, h6, h7, h8⟩ := h
  exact ⟨h0, ⟨by rw [hx _ (by omega)]; exact h2, fun i x hi => by rw [hx _ (by omega)]; exact h3 i x hi⟩, ⟨by rw [hx _ (by omega)]; exact h4, fun i x hi => by rw [hx _ (by omega)]; exact h5 i x hi⟩, by rw [hx _ (by omega)]; exact h6, by rw [hx _ (by omega)]; exact h7, by rw [hx _ (by omega)]; exact h8⟩
theorem SeM.sta {f g : Rw} {s : Nat} {e : Se} {nm : Nm} (hs : s < 6) (h : SeM f s e) (hl : e.2.1.length < 2) (hl2 : e.2.2.1.length ≤ 2) (h0 : g (18 + s) = nI (e.2.1.length + 1)) (h0' : g (6 + 2 * s + e.2.1.length) = nI (en 27 nm)) (hx : ∀ i, i ≠ 18 + s → i ≠ 6 + 2 * s + e.2.1.length → g i = f i) : SeM g s (e.1, e.2.1 ++ [nm], e.2.2) := by
  obtain ⟨h1, ⟨h2, h3⟩, ⟨h4, h5⟩, h6, h7, h8⟩ := h
  refine ⟨by rw [hx _ (by omega) (by omega)]; exact h1, ⟨by rw [h0, List.length_append]; rfl, fun i x hi => ?_⟩, ⟨by rw [hx _ (by omega) (by omega)]; exact h4, fun i x hi => ?_⟩, by rw [hx _ (by omega) (by omega)]; exact h6, by rw [hx _ (by omega) (by omega)]; exact h7, by rw [hx _ (by omega) (by omega)]; exact h8⟩
  · have hi : (e.2.1 ++ [nm])[i]? = some x := hi
    by_cases e1 : i = e.2.1.length
    · subst e1
      rw [List.getElem?_append_right (Nat.le_refl _), Nat.sub_self] at hi
      cases hi; exact h0'
    · have hil := gl_lt hi
      simp at hil
      rw [List.getElem?_append_left (by omega)] at hi
      rw [hx _ (by omega) (by omega)]; exact h3 i x hi
  · have hil := gl_lt hi
    have hil : i < e.2.2.1.length := hil
    rw [hx _ (by omega) (by omega)]; exact h5 i x hi
theorem SeM.flo {f g : Rw} {s : Nat} {e : Se} {nm : Nm} (hs : s < 6) (h : SeM f s e) (hl : e.2.2.1.length < 2) (hl2 : e.2.1.length ≤ 2) (h0 : g (36 + s) = nI (e.2.2.1.length + 1)) (h0' : g (24 + 2 * s + e.2.2.1.length) = nI (en 27 nm)) (hx : ∀ i, i ≠ 36 + s → i ≠ 24 + 2 * s + e.2.2.1.length → g i = f i) : SeM g s (e.1, e.2.1, e.2.2.1 ++ [nm], e.2.2.2) := by
  obtain ⟨h1, ⟨h2, h3⟩, ⟨h4, h5⟩, h6, h7, h8⟩ := h
  refine ⟨by rw [hx _ (by omega) (by omega)]; exact h1, ⟨by rw [hx _ (by omega) (by omega)]; exact h2, fun i x hi => ?_⟩, ⟨by rw [h0, List.length_append]; rfl, fun i x hi => ?_⟩, by rw [hx _ (by omega) (by omega)]; exact h6, by rw [hx _ (by omega) (by omega)]; exact h7, by rw [hx _ (by omega) (by omega)]; exact h8⟩
  · have hil := gl_lt hi
    have hil : i < e.2.1.length := hil
    rw [hx _ (by omega) (by omega)]; exact h3 i x hi
  · have hi : (e.2.2.1 ++ [nm])[i]? = some x := hi
    by_cases e1 : i = e.2.2.1.length
    · subst e1
      rw [List.getElem?_append_right (Nat.le_refl _), Nat.sub_self] at hi
      cases hi; exact h0'
    · have hil := gl_lt hi
      simp at hil
      rw [List.getElem?_append_left (by omega)] at hi
      rw [hx _ (by omega) (by omega)]; exact h5 i x hi
theorem SeM.stc {f g : Rw} {s : Nat} {e : Se} (hs : s < 6) (h : SeM f s e) (hk : okSe e) (h0 : g (18 + s) = nI 0) (hx : ∀ i, i ≠ 18 + s → g i = f i) : SeM g s (e.1, [], e.2.2) := by
  obtain ⟨h1, ⟨h2, h3⟩, ⟨h4, h5⟩, h6, h7, h8⟩ := h
  refine ⟨by rw [hx _ (by omega)]; exact h1, ⟨h0, fun i x hi => by simp at hi⟩, ⟨by rw [hx _ (by omega)]; exact h4, fun i x hi => ?_⟩, by rw [hx _ (by omega)]; exact h6, by rw [hx _ (by omega)]; exact h7, by rw [hx _ (by omega)]; exact h8⟩
  rw [hx _ (by omega)]; exact h5 i x hi
theorem SeM.flc {f g : Rw} {s : Nat} {e : Se} (hs : s < 6) (h : SeM f s e) (hk : okSe e) (h0 : g (36 + s) = nI 0) (hx : ∀ i, i ≠ 36 + s → g i = f i) : SeM g s (e.1, e.2.1, [], e.2.2.2) := by
  obtain ⟨h1, ⟨h2, h3⟩, ⟨h4, h5⟩, h6, h7, h8⟩ := h
  refine ⟨by rw [hx _ (by omega)]; exact h1, ⟨by rw [hx _ (by omega)]; exact h2, fun i x hi => ?_⟩, ⟨h0, fun i x hi => by simp at hi⟩, by rw [hx _ (by omega)]; exact h6, by rw [hx _ (by omega)]; exact h7, by rw [hx _ (by omega)]; exact h8⟩
  have hil := gl_lt hi
  have hil : i < e.2.1.length := hil
  have := hk.2.1.1
  rw [hx _ (by omega)]; exact h3 i x hi
theorem SeM.st3 {f g : Rw} {s j : Nat} {e : Se} {l d w : Nat} (hs : s < 6) (h : SeM f s e) (hk : okSe e) (hx : ∀ i, i < 42 → g i = f i) (h6 : g (42 + s) = nI l) (h7 : g (48 + s) = nI d) (h8 : g (54 + s) = nI w) : SeM g s (e.1, e.2.1, e.2.2.1, l, d, w) := by
  obtain ⟨h1, ⟨h2, h3⟩, ⟨h4, h5⟩, -, -, -⟩ := h
  refine ⟨by rw [hx _ (by omega)]; exact h1, ⟨by rw [hx _ (by omega)]; exact h2, fun i x hi => ?_⟩, ⟨by rw [hx _ (by omega)]; exact h4, fun i x hi => ?_⟩, h6, h7, h8⟩
  · have hil := gl_lt hi
    have hil : i < e.2.1.length := hil
    have := hk.2.1.1
    rw [hx _ (by omega)]; exact h3 i x hi
  · have hil := gl_lt hi
    have hil : i < e.2.2.1.length := hil
    have := hk.2.2.1.1
    rw [hx _ (by omega)]; exact h5 i x hi
theorem StM.se {f g : Rw} {s now : Nat} {st : St} {se' : Se} (hs : s < 6) (h : StM f s st) (hok : okSt st now) (hF : Fr s 0 60 f g) (hSe : SeM g s se') : StM g s (se', st.2) :=
  ⟨hSe, h.2.1.keep hs (fun i _ a _ => hF.out (by omega)), h.2.2.1.keep hs hok.2.2.1.1 (okKp_w hok.2.2.1) (fun i _ a _ => hF.out (by omega)), h.2.2.2.1.keep hs hok.2.2.2.1.1 (fun i _ a _ => hF.out (by omega)), LsM.keep (o := st.2.2.2.2) hs h.2.2.2.2 (okLs_w (st := st) hok) (fun i _ a _ => hF.out (by omega))⟩
theorem RR.st {m : MI} {σ : Al} {N k : Nat} {st' : St} {P : List Nat} (h : RR mi o σ) (hok : okA σ N) (hk : k < 6) (hF : Fr k 0 1386 (mi (o + 1)) (m (o + 1))) (hS : StM (m (o + 1)) k st') (hl : st'.2.2.2.2 = none → m (o + 1) (1380 + k) = -6) (hP : PdM m o P) (h2 : m (o + 2) = mi (o + 2)) (h3 : m (o + 3) = mi (o + 3)) : RR m o (P, (upS σ.2.1.1 k st', σ.2.1.2), σ.2.2) :=
  h.to hP (h.2.1.1.upd hk hok.2.1.1 hF hS) (h.2.1.2.upd hk hF hl) h2 h3
theorem RR.se {m : MI} {σ : Al} {N k : Nat} {se' : Se} {P : List Nat} (h : RR mi o σ) (hok : okA σ N) (hk : k < 6) (hF : Fr k 0 60 (mi (o + 1)) (m (o + 1))) (hS : SeM (m (o + 1)) k se') (hP : PdM m o P) (h2 : m (o + 2) = mi (o + 2)) (h3 : m (o + 3) = mi (o + 3)) : RR m o (P, (upS σ.2.1.1 k (se', (stA σ k).2), σ.2.1.2), σ.2.2) :=
  h.st hok hk (hF.wd (Nat.le_refl _) (by omega)) ((h.2.1.1.1 k hk).se hk (hok.2.1.1.1 k hk) hF hS) (fun hn => by rw [hF.out (by omega)]; exact h.2.1.2 k hk hn) hP h2 h3
theorem m_callNo (hL : LM sh mr o) {c : Nat → Nat} {k v : Nat} (hc : ∀ t, t < 6 → mi (o + 1) (0 + t) = nI (c t) ∧ c t < 2 ^ 20) (hk : k < 6) (hv : v < 2 ^ 20) (he : ∃ t, t < 6 ∧ t ≠ k ∧ c t = v) : Mp mX10_call 0 [.ref o, .int (nI k), .int (nI v)] z sh mi mr (-3) := by
  obtain ⟨l0, ⟨l1, l2⟩, -⟩ := id hL
  have H : ∀ b i : Nat, i + b = 6 → (∃ t, i ≤ t ∧ t < 6 ∧ t ≠ k ∧ c t = v) → Wp yX10_call cX10_call 4 (some .int) (EP 0 z sh mr mi (-3)) 0 0 2 [.ref o, .int (nI k), .int (nI v), .int (nI i)] [] z sh mi mr := by
    intro b
    induction b with
    | zero =>
      intro i hi ⟨t, t1, t2, _⟩
      omega
    | succ b ih =>
      intro i hi ⟨t, t1, t2, t3, t4⟩
      obtain ⟨c1, c2⟩ := hc i (by omega)
      have hnx : ¬ (i ≠ k ∧ c i = v) → ∃ t, i + 1 ≤ t ∧ t < 6 ∧ t ≠ k ∧ c t = v := fun h => ⟨t, by
        rcases Nat.lt_or_ge i t with q | q
        · exact q
        · have e : t = i := by omega
          subst e; exact absurd ⟨t3, t4⟩ h, t2, t3, t4⟩
      refine r_iload_n 3 dX10_call_2 rfl rfl ?_
      refine r_bipush (v := nI 6) dX10_call_3 (by decide) ?_
      refine r_icmpN_ge 34 dX10_call_5 (by decide) (by omega) (by omega) (fun h5 => ?_) (fun h5 => ?_)
      · omega
      · refine r_iload_n 3 dX10_call_8 rfl rfl ?_
        refine r_iload_n 1 dX10_call_9 rfl rfl ?_
        refine r_icmpN_eq 28 dX10_call_10 (by decide) (by omega) (by omega) (fun h10 => ?_) (fun h10 => ?_)
        · refine r_iincN 3 (b := 1) (ls2 := [_, _, _, _]) dX10_call_28 rfl (by decide) (by decide) rfl ?_
          refine r_goto 2 dX10_call_31 (by decide) ?_
          refine ih (i + 1) (by omega) (hnx ?_)
          omega
        · refine r_aload_n 0 dX10_call_13 rfl rfl ?_
          refine r_getR dX10_call_14 fl_RX10_7 rfl (by assumption) (by assumption) ?_
          refine r_iconst (v := nI 0) dX10_call_17 (by decide) ?_
          refine r_iload_n 3 dX10_call_18 rfl rfl ?_
          refine r_iaddN dX10_call_19 ?_
          refine r_ialdV dX10_call_20 (by assumption) (by omega) (by omega) (by first | assumption | exact up2_same _ _ _ _ | exact (Eq.trans (up2_ne _ _ (by omega)) (by first | assumption | exact up2_same _ _ _ _)) | exact (Eq.trans (up2_ne _ _ (by omega)) (Eq.trans (up2_ne _ _ (by omega)) (by first | assumption | exact up2_same _ _ _ _))) | exact (Eq.trans (up2_ne _ _ (by omega)) (Eq.trans (up2_ne _ _ (by omega)) (Eq.trans (up2_ne _ _ (by omega)) (by first | assumption | exact up2_same _ _ _ _)))) | exact (Eq.trans (up2_ne _ _ (by omega)) (Eq.trans (up2_ne _ _ (by omega)) (Eq.trans (up2_ne _ _ (by omega)) (Eq.trans (up2_ne _ _ (by omega)) (by first | assumption | exact up2_same _ _ _ _))))) | rfl) ?_
          refine r_iload_n 2 dX10_call_21 rfl rfl ?_
          refine r_icmpN_ne 28 dX10_call_22 (by decide) (by omega) (by omega) (fun h22 => ?_) (fun h22 => ?_)
          · refine r_iincN 3 (b := 1) (ls2 := [_, _, _, _]) dX10_call_28 rfl (by decide) (by decide) rfl ?_
            refine r_goto 2 dX10_call_31 (by decide) ?_
            refine ih (i + 1) (by omega) (hnx ?_)
            omega
          · refine r_bipush (v := -3) dX10_call_25 (by decide) ?_
            refine r_iret dX10_call_27 rfl (Nat.le_of_ble_eq_true rfl) (Nat.le_of_ble_eq_true rfl) ?_
            exact ⟨rfl, rfl, rfl, rfl, rfl⟩
  refine Mv.of pnX10_call (Nat.le_of_ble_eq_true rfl) rfl ?_
  refine r_iconst (v := nI 0) dX10_call_0 (by decide) ?_
  refine r_istore_n 3 (ls2 := [_, _, _, _]) dX10_call_1 rfl (by decide) (Nat.le_of_ble_eq_true rfl) rfl ?_
  obtain ⟨t, t1, t2, t3⟩ := he
  exact H 6 0 rfl ⟨t, by omega, t1, t2, t3⟩
theorem m_callYes (hL : LM sh mr o) {c : Nat → Nat} {k v : Nat} (hc : ∀ t, t < 6 → mi (o + 1) (0 + t) = nI (c t) ∧ c t < 2 ^ 20) (hk : k < 6) (hv : v < 2 ^ 20) (he : ∀ t, t < 6 → t ≠ k → c t ≠ v) : Mi mX10_call 0 [.ref o, .int (nI k), .int (nI v)] z sh mi mr (fun r m => r = some (.int (nI 1)) ∧ m = up2 (up2 mi (o + 1) (0 + k) (nI v)) o 4 (nI 0)) := by
  obtain ⟨l0, ⟨l1, l2⟩, -⟩ := id hL
  have H : ∀ b i : Nat, i + b = 6 → Wp yX10_call cX10_call 4 (some .int) (EI 0 z sh mr (fun r m => r = some (.int (nI 1)) ∧ m = up2 (up2 mi (o + 1) (0 + k) (nI v)) o 4 (nI 0))) 0 0 2 [.ref o, .int (nI k), .int (nI v), .int (nI i)] [] z sh mi mr := by
    intro b
    induction b with
    | zero =>
      intro i hi
      refine r_iload_n 3 dX10_call_2 rfl rfl ?_
      refine r_bipush (v := nI 6) dX10_call_3 (by decide) ?_
      refine r_icmpN_ge 34 dX10_call_5 (by decide) (by omega) (by omega) (fun h5 => ?_) (fun h5 => ?_)
      · refine r_aload_n 0 dX10_call_34 rfl rfl ?_
        refine r_getR dX10_call_35 fl_RX10_7 rfl (by assumption) (by assumption) ?_
        refine r_iconst (v := nI 0) dX10_call_38 (by decide) ?_
        refine r_iload_n 1 dX10_call_39 rfl rfl ?_
        refine r_iaddN dX10_call_40 ?_
        refine r_iload_n 2 dX10_call_41 rfl rfl ?_
        refine r_iast dX10_call_42 (by assumption) (by omega) (by omega) ?_
        refine r_aload_n 0 dX10_call_43 rfl rfl ?_
        refine r_iconst (v := nI 0) dX10_call_44 (by decide) ?_
        refine r_putI dX10_call_45 fl_RX10_45 rfl rfl rfl (by assumption) ?_
        refine r_iconst (v := nI 1) dX10_call_48 (by decide) ?_
        refine r_iret dX10_call_49 rfl (Nat.le_of_ble_eq_true rfl) (Nat.le_of_ble_eq_true rfl) ?_
        exact ⟨rfl, rfl, rfl, rfl, rfl⟩
      · omega
    | succ b ih =>
      intro i hi
      obtain ⟨c1, c2⟩ := hc i (by omega)
      have hne := he i (by omega)
      refine r_iload_n 3 dX10_call_2 rfl rfl ?_
      refine r_bipush (v := nI 6) dX10_call_3 (by decide) ?_
      refine r_icmpN_ge 34 dX10_call_5 (by decide) (by omega) (by omega) (fun h5 => ?_) (fun h5 => ?_)
      · omega
      · refine r_iload_n 3 dX10_call_8 rfl rfl ?_
        refine r_iload_n 1 dX10_call_9 rfl rfl ?_
        refine r_icmpN_eq 28 dX10_call_10 (by decide) (by omega) (by omega) (fun h10 => ?_) (fun h10 => ?_)
        · refine r_iincN 3 (b := 1) (ls2 := [_, _, _, _]) dX10_call_28 rfl (by decide) (by decide) rfl ?_
          refine r_goto 2 dX10_call_31 (by decide) ?_
          exact ih (i + 1) (by omega)
        · refine r_aload_n 0 dX10_call_13 rfl rfl ?_
          refine r_getR dX10_call_14 fl_RX10_7 rfl (by assumption) (by assumption) ?_
          refine r_iconst (v := nI 0) dX10_call_17 (by decide) ?_
          refine r_iload_n 3 dX10_call_18 rfl rfl ?_
          refine r_iaddN dX10_call_19 ?_
          refine r_ialdV dX10_call_20 (by assumption) (by omega) (by omega) (by first | assumption | exact up2_same _ _ _ _ | exact (Eq.trans (up2_ne _ _ (by omega)) (by first | assumption | exact up2_same _ _ _ _)) | exact (Eq.trans (up2_ne _ _ (by omega)) (Eq.trans (up2_ne _ _ (by omega)) (by first | assumption | exact up2_same _ _ _ _))) | exact (Eq.trans (up2_ne _ _ (by omega)) (Eq.trans (up2_ne _ _ (by omega)) (Eq.trans (up2_ne _ _ (by omega)) (by first | assumption | exact up2_same _ _ _ _)))) | exact (Eq.trans (up2_ne _ _ (by omega)) (Eq.trans (up2_ne _ _ (by omega)) (Eq.trans (up2_ne _ _ (by omega)) (Eq.trans (up2_ne _ _ (by omega)) (by first | assumption | exact up2_same _ _ _ _))))) | rfl) ?_
          refine r_iload_n 2 dX10_call_21 rfl rfl ?_
          refine r_icmpN_ne 28 dX10_call_22 (by decide) (by omega) (by omega) (fun h22 => ?_) (fun h22 => ?_)
          · refine r_iincN 3 (b := 1) (ls2 := [_, _, _, _]) dX10_call_28 rfl (by decide) (by decide) rfl ?_
            refine r_goto 2 dX10_call_31 (by decide) ?_
            exact ih (i + 1) (by omega)
          · exact absurd h22 (hne h10)
  refine Mv.of pnX10_call (Nat.le_of_ble_eq_true rfl) rfl ?_
  refine r_iconst (v := nI 0) dX10_call_0 (by decide) ?_
  refine r_istore_n 3 (ls2 := [_, _, _, _]) dX10_call_1 rfl (by decide) (Nat.le_of_ble_eq_true rfl) rfl ?_
  exact H 6 0 rfl
theorem m_more (hL : LM sh mr o) {r q k n v : Nat} (hr : r + 2 * k + n < 100) (hq : q + k < 100) (hne : q + k ≠ r + 2 * k + n) (hv : mi (o + 1) (q + k) = nI n) (hn : n < 2) : Mi mX10_more 0 [.ref o, .int (nI k), .int (nI v), .int (nI r), .int (nI q)] z sh mi mr (fun w m => w = some (.int (nI (n + 1))) ∧ m = up2 (up2 (up2 mi (o + 1) (r + 2 * k + n) (nI v)) (o + 1) (q + k) (nI (n + 1))) o 4 (nI 0)) := by
  obtain ⟨l0, ⟨l1, l2⟩, -⟩ := id hL
  refine Mv.of pnX10_more (Nat.le_of_ble_eq_true rfl) rfl ?_
  refine r_aload_n 0 dX10_more_0 rfl rfl ?_
  refine r_getR dX10_more_1 fl_RX10_7 rfl (by assumption) (by assumption) ?_
  refine r_iload 4 dX10_more_4 rfl ?_
  refine r_iload_n 1 dX10_more_6 rfl rfl ?_
  refine r_iaddN dX10_more_7 ?_
  refine r_ialdV dX10_more_8 (by assumption) (by omega) (by omega) (by first | assumption | exact up2_same _ _ _ _ | exact (Eq.trans (up2_ne _ _ (by omega)) (by first | assumption | exact up2_same _ _ _ _)) | exact (Eq.trans (up2_ne _ _ (by omega)) (Eq.trans (up2_ne _ _ (by omega)) (by first | assumption | exact up2_same _ _ _ _))) | exact (Eq.trans (up2_ne _ _ (by omega)) (Eq.trans (up2_ne _ _ (by omega)) (Eq.trans (up2_ne _ _ (by omega)) (by first | assumption | exact up2_same _ _ _ _)))) | exact (Eq.trans (up2_ne _ _ (by omega)) (Eq.trans (up2_ne _ _ (by omega)) (Eq.trans (up2_ne _ _ (by omega)) (Eq.trans (up2_ne _ _ (by omega)) (by first | assumption | exact up2_same _ _ _ _))))) | rfl) ?_
  refine r_istore 5 (ls2 := [_, _, _, _, _, _]) dX10_more_9 (by decide) (Nat.le_of_ble_eq_true rfl) rfl ?_
  refine r_iload 5 dX10_more_11 rfl ?_
  refine r_iconst (v := nI 2) dX10_more_13 (by decide) ?_
  refine r_icmpN_ne 20 dX10_more_14 (by decide) (by omega) (by omega) (fun h14 => ?_) (fun h14 => ?_)
  · refine r_aload_n 0 dX10_more_20 rfl rfl ?_
    refine r_getR dX10_more_21 fl_RX10_7 rfl (by assumption) (by assumption) ?_
    refine r_iload_n 3 dX10_more_24 rfl rfl ?_
    refine r_iconst (v := nI 2) dX10_more_25 (by decide) ?_
    refine r_iload_n 1 dX10_more_26 rfl rfl ?_
    refine r_imulN dX10_more_27 ?_
    refine r_iaddN dX10_more_28 ?_
    refine r_iload 5 dX10_more_29 rfl ?_
    refine r_iaddN dX10_more_31 ?_
    refine r_iload_n 2 dX10_more_32 rfl rfl ?_
    refine r_iast dX10_more_33 (by assumption) (by omega) (by omega) ?_
    refine r_aload_n 0 dX10_more_34 rfl rfl ?_
    refine r_getR dX10_more_35 fl_RX10_7 rfl (by assumption) (by assumption) ?_
    refine r_iload 4 dX10_more_38 rfl ?_
    refine r_iload_n 1 dX10_more_40 rfl rfl ?_
    refine r_iaddN dX10_more_41 ?_
    refine r_dup2 dX10_more_42 rfl rfl ?_
    refine r_ialdV dX10_more_43 (by assumption) (by omega) (by omega) (by first | assumption | exact up2_same _ _ _ _ | exact (Eq.trans (up2_ne _ _ (by omega)) (by first | assumption | exact up2_same _ _ _ _)) | exact (Eq.trans (up2_ne _ _ (by omega)) (Eq.trans (up2_ne _ _ (by omega)) (by first | assumption | exact up2_same _ _ _ _))) | exact (Eq.trans (up2_ne _ _ (by omega)) (Eq.trans (up2_ne _ _ (by omega)) (Eq.trans (up2_ne _ _ (by omega)) (by first | assumption | exact up2_same _ _ _ _)))) | exact (Eq.trans (up2_ne _ _ (by omega)) (Eq.trans (up2_ne _ _ (by omega)) (Eq.trans (up2_ne _ _ (by omega)) (Eq.trans (up2_ne _ _ (by omega)) (by first | assumption | exact up2_same _ _ _ _))))) | rfl) ?_
    refine r_iconst (v := nI 1) dX10_more_44 (by decide) ?_
    refine r_iaddN dX10_more_45 ?_
    refine r_iast dX10_more_46 (by assumption) (by omega) (by omega) ?_
    refine r_aload_n 0 dX10_more_47 rfl rfl ?_
    refine r_iconst (v := nI 0) dX10_more_48 (by decide) ?_
    refine r_putI dX10_more_49 fl_RX10_45 rfl rfl rfl (by assumption) ?_
    refine r_iload 5 dX10_more_52 rfl ?_
    refine r_iconst (v := nI 1) dX10_more_54 (by decide) ?_
    refine r_iaddN dX10_more_55 ?_
    refine r_iret dX10_more_56 rfl (Nat.le_of_ble_eq_true rfl) (Nat.le_of_ble_eq_true rfl) ?_
    first | omega | exact ⟨rfl, rfl, rfl, rfl, rfl⟩
  · refine r_bipush (v := -4) dX10_more_17 (by decide) ?_
    refine r_iret dX10_more_19 rfl (Nat.le_of_ble_eq_true rfl) (Nat.le_of_ble_eq_true rfl) ?_
    first | omega | exact ⟨rfl, rfl, rfl, rfl, rfl⟩
theorem m_moreNo (hL : LM sh mr o) {r q k n v : Nat} (hq : q + k < 100) (hv : mi (o + 1) (q + k) = nI n) (hn : n = 2) : Mp mX10_more 0 [.ref o, .int (nI k), .int (nI v), .int (nI r), .int (nI q)] z sh mi mr (-4) := by
  obtain ⟨l0, ⟨l1, l2⟩, -⟩ := id hL
  refine Mv.of pnX10_more (Nat.le_of_ble_eq_true rfl) rfl ?_
  refine r_aload_n 0 dX10_more_0 rfl rfl ?_
  refine r_getR dX10_more_1 fl_RX10_7 rfl (by assumption) (by assumption) ?_
  refine r_iload 4 dX10_more_4 rfl ?_
  refine r_iload_n 1 dX10_more_6 rfl rfl ?_
  refine r_iaddN dX10_more_7 ?_
  refine r_ialdV dX10_more_8 (by assumption) (by omega) (by omega) (by first | assumption | exact up2_same _ _ _ _ | exact (Eq.trans (up2_ne _ _ (by omega)) (by first | assumption | exact up2_same _ _ _ _)) | exact (Eq.trans (up2_ne _ _ (by omega)) (Eq.trans (up2_ne _ _ (by omega)) (by first | assumption | exact up2_same _ _ _ _))) | exact (Eq.trans (up2_ne _ _ (by omega)) (Eq.trans (up2_ne _ _ (by omega)) (Eq.trans (up2_ne _ _ (by omega)) (by first | assumption | exact up2_same _ _ _ _)))) | exact (Eq.trans (up2_ne _ _ (by omega)) (Eq.trans (up2_ne _ _ (by omega)) (Eq.trans (up2_ne _ _ (by omega)) (Eq.trans (up2_ne _ _ (by omega)) (by first | assumption | exact up2_same _ _ _ _))))) | rfl) ?_
  refine r_istore 5 (ls2 := [_, _, _, _, _, _]) dX10_more_9 (by decide) (Nat.le_of_ble_eq_true rfl) rfl ?_
  refine r_iload 5 dX10_more_11 rfl ?_
  refine r_iconst (v := nI 2) dX10_more_13 (by decide) ?_
  refine r_icmpN_ne 20 dX10_more_14 (by decide) (by omega) (by omega) (fun h14 => ?_) (fun h14 => ?_)
  · omega
  · refine r_bipush (v := -4) dX10_more_17 (by decide) ?_
    refine r_iret dX10_more_19 rfl (Nat.le_of_ble_eq_true rfl) (Nat.le_of_ble_eq_true rfl) ?_
    exact ⟨rfl, rfl, rfl, rfl, rfl⟩
end RSET
