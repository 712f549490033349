section RTICK
variable {z : Nat} {sh : SH} {mi : MI} {mr : MR} {o : Nat}
theorem StM.keepL {f g : Rw} {s : Nat} {st : St} (hs : s < 6) (h : StM f s st) (hk : lk st) (hx : ∀ i, ow i = s → g i = f i) : StM g s st :=
  ⟨h.1.keep hs hk.1 (fun i a _ => hx i a), h.2.1.keep hs (fun i a _ _ => hx i a), h.2.2.1.keep hs hk.2.1.1 hk.2.1.2 (fun i a _ _ => hx i a), h.2.2.2.1.keep hs hk.2.2.1 (fun i a _ _ => hx i a), LsM.keep (o := st.2.2.2.2) hs h.2.2.2.2 hk.2.2.2 (fun i a _ _ => hx i a)⟩
theorem lk_aft {st : St} {now : Nat} (h : lk st) : lk (aftS st now) := by
  unfold aftS
  split
  · exact ⟨h.1, ⟨Nat.le_trans (List.length_eraseIdx_le _ _) h.2.1.1, fun q hq => h.2.1.2 q (List.mem_of_mem_eraseIdx hq)⟩, h.2.2⟩
  · exact h
def sS (n : Nt) (q : Nat) : Bool := (sentP (n.1 q) n.2.2).isSome
def gS (n : Nt) (s q : Nat) : Bool := sS n q && n.2.1 s q
def hrd (n : Nt) (s : Nat) : Bool := !sS n s && decide (cn6 (gS n s) = 1)
def midS (n : Nt) (s : Nat) : St := if sS n s = true then aftS (n.1 s) n.2.2 else if 1 < cn6 (gS n s) then ((n.1 s).1, bump (n.1 s).2.1 7, (n.1 s).2.2) else n.1 s
def frS (n : Nt) (s : Nat) : Int32 := if sS n s = true then -6 else if cn6 (gS n s) = 1 then lsF (gS n s) 6 else -6
theorem audi_g (n : Nt) (s : Nat) : audi n s = (List.range 6).filter (gS n s) := rfl
theorem tck_no {n : Nt} {s : Nat} (h : hrd n s = false) : tckS n s = midS n s := by
  unfold tckS midS
  by_cases hS : sS n s = true
  · have hS' : (sentP (n.1 s) n.2.2).isSome = true := hS
    rw [if_pos hS', if_pos hS]
  · have hS' : ¬ (sentP (n.1 s) n.2.2).isSome = true := hS
    rw [if_neg hS', if_neg hS, audi_g]
    have h1 : ¬ cn6 (gS n s) = 1 := fun e => by
      unfold hrd at h
      rw [show sS n s = false by simpa using hS, e] at h
      cases h
    rcases Nat.lt_or_ge 1 (cn6 (gS n s)) with h2 | h2
    · obtain ⟨x, y, t, e⟩ := fs6_2 h2
      rw [e, if_pos h2]
    · obtain ⟨-, e⟩ := fs6_0 (g := gS n s) (by omega)
      rw [e, if_neg (by omega)]
theorem tck_yes {n : Nt} {s : Nat} (h : hrd n s = true) : ∃ q p, q < 6 ∧ sentP (n.1 q) n.2.2 = some p ∧ frS n s = nI q ∧ midS n s = n.1 s ∧ tckS n s = hears (n.1 s) p n.2.2 := by
  unfold hrd at h
  simp only [Bool.and_eq_true, Bool.not_eq_true', decide_eq_true_eq] at h
  obtain ⟨hS, h1⟩ := h
  obtain ⟨q, q1, q2, q3, q4⟩ := lsF_1 h1
  have hq : sS n q = true := by unfold gS at q2; simp at q2; exact q2.1
  obtain ⟨p, hp⟩ := Option.isSome_iff_exists.mp hq
  refine ⟨q, p, q1, hp, ?_, ?_, ?_⟩
  · unfold frS; rw [if_neg (by rw [hS]; decide), if_pos h1, q3]
  · unfold midS; rw [if_neg (by rw [hS]; decide), if_neg (by omega)]
  · unfold tckS
    have hS' : ¬ (sentP (n.1 s) n.2.2).isSome = true := by have : sS n s = false := hS; unfold sS at this; rw [this]; decide
    rw [if_neg hS', audi_g, q4]
    simp only [hp]
theorem frS_no {n : Nt} {s : Nat} (h : hrd n s = false) : frS n s = -6 := by
  unfold hrd at h
  unfold frS
  by_cases hS : sS n s = true
  · rw [if_pos hS]
  · rw [show sS n s = false by simpa using hS] at h ⊢
    rw [if_neg (by decide)]
    by_cases h1 : cn6 (gS n s) = 1
    · rw [h1] at h; cases h
    · rw [if_neg h1]
theorem lk_mid {n : Nt} {s : Nat} (h : lk (n.1 s)) : lk (midS n s) := by
  unfold midS
  split
  · exact lk_aft h
  · split
    · exact h
    · exact h
theorem sent_ok {st : St} {now : Nat} {p : Pk} (h : okSt st now) (hp : sentP st now = some p) : okP p := by
  unfold sentP at hp
  cases hq : st.2.2.1[duIx st.2.2.1 now]? with
  | none => rw [hq] at hp; cases hp
  | some q => rw [hq] at hp; cases hp; exact (h.2.2.1.2 q (gl_mem hq)).1
/-- one station sends what is due -/
def SoP (mi : MI) (o s : Nat) (n : Nt) : Option Value → MI → Prop := fun v m => v = none ∧ StM (m (o + 1)) s (aftS (n.1 s) n.2.2) ∧ Fr s 0 1314 (mi (o + 1)) (m (o + 1)) ∧ m (o + 7) = up2 mi (o + 7) s (b2 (sS n s)) (o + 7) ∧ (∀ p, sentP (n.1 s) n.2.2 = some p → PkM (m (o + 6)) (11 * s) p) ∧ (∀ i, ¬ (11 * s ≤ i ∧ i < 11 * s + 11) → m (o + 6) i = mi (o + 6) i) ∧ ∀ x, x ≠ o + 1 → x ≠ o + 6 → x ≠ o + 7 → m x = mi x
theorem so_no {m : MI} {s : Nat} {n : Nt} (hS : StM (mi (o + 1)) s (n.1 s)) (hn : sS n s = false) (hm : m = up2 mi (o + 7) s (nI 0)) : SoP mi o s n none m := by
  have hS' : ¬ (sentP (n.1 s) n.2.2).isSome = true := by have : sS n s = false := hn; unfold sS at this; rw [this]; decide
  have e1 : m (o + 1) = mi (o + 1) := by rw [hm, up2_row _ _ (by omega)]
  refine ⟨rfl, by rw [aftS_no hS', e1]; exact hS, by rw [e1]; exact Fr.rf, by rw [hm, hn]; rfl, fun p hp => absurd (by rw [hp]; rfl) hS', fun i _ => by rw [hm, up2_row _ _ (by omega)], fun x _ _ x3 => by rw [hm, up2_row _ _ x3]⟩
theorem so_yes {m : MI} {s : Nat} {n : Nt} {q0 : Pk × Nat} (hs : s < 6) (hS : StM (mi (o + 1)) s (n.1 s)) (hk : lk (n.1 s)) (hd : (n.1 s).2.2.1[duIx (n.1 s).2.2.1 n.2.2]? = some q0) (h7 : m (o + 7) = up2 mi (o + 7) s (nI 1) (o + 7)) (h6 : PkM (m (o + 6)) (11 * s) q0.1) (h6' : ∀ i, ¬ (11 * s ≤ i ∧ i < 11 * s + 11) → m (o + 6) i = mi (o + 6) i) (hK : KpM (m (o + 1)) s ((n.1 s).2.2.1.eraseIdx (duIx (n.1 s).2.2.1 n.2.2))) (h0 : m (o + 1) (96 + 6 * 0 + s) = nI ((n.1 s).2.1 0 + 1)) (hx : ∀ i, i ≠ 96 + 6 * 0 + s → ¬ (ow i = s ∧ 150 ≤ i ∧ i < 1020) → m (o + 1) i = mi (o + 1) i) (ho : ∀ x, x ≠ o + 1 → x ≠ o + 6 → x ≠ o + 7 → m x = mi x) : SoP mi o s n none m := by
  have hdl := gl_lt hd
  have hsp : sentP (n.1 s) n.2.2 = some q0.1 := by unfold sentP; rw [hd]; rfl
  have hss : sS n s = true := by unfold sS; rw [hsp]; rfl
  have haf : aftS (n.1 s) n.2.2 = ((n.1 s).1, bump (n.1 s).2.1 0, (n.1 s).2.2.1.eraseIdx (duIx (n.1 s).2.2.1 n.2.2), (n.1 s).2.2.2) := by unfold aftS; rw [if_pos hdl]
  refine ⟨rfl, ?_, fun i hi => hx i (fun e => hi ⟨by rw [e]; exact ow_ta hs (by omega), Nat.zero_le _, by omega⟩) (fun e => hi ⟨e.1, Nat.zero_le _, by omega⟩), by rw [h7, hss]; rfl, fun p hp => by rw [hsp] at hp; cases hp; exact h6, h6', ho⟩
  rw [haf]
  refine ⟨hS.1.keep hs hk.1 (fun i _ a => hx i (by omega) (by omega)), fun u hu => ?_, hK, hS.2.2.2.1.keep hs hk.2.2.1 (fun i _ a _ => hx i (by omega) (by omega)), LsM.keep (o := (n.1 s).2.2.2.2) hs hS.2.2.2.2 hk.2.2.2 (fun i _ a _ => hx i (by omega) (by omega))⟩
  show _ = nI (bump (n.1 s).2.1 0 u)
  unfold bump
  by_cases e : u = 0
  · subst e; rw [if_pos rfl]; exact h0
  · rw [if_neg e, hx _ (by omega) (by omega)]; exact hS.2.1 u hu
def TkP (mi : MI) (o : Nat) (n : Nt) : Option Value → MI → Prop := fun v m => v = none ∧ NtM (m (o + 1)) (tck n) ∧ (∀ s, s < 6 → hrd n s = false → m (o + 1) (1380 + s) = mi (o + 1) (1380 + s)) ∧ (∀ s, s < 6 → m (o + 9) s = if hrd n s = true then (if mi (o + 9) s < 0 then nI n.2.2 else mi (o + 9) s) else mi (o + 9) s) ∧ ∀ x, (x ≤ o ∨ o + 10 ≤ x ∨ (o + 2 ≤ x ∧ x ≤ o + 4)) → m x = mi x
def T1 (mi : MI) (o : Nat) (n : Nt) (i : Nat) (m : MI) : Prop := (∀ s, s < 6 → StM (m (o + 1)) s (if s < i then aftS (n.1 s) n.2.2 else n.1 s)) ∧ (NrM (m (o + 1)) n.2.1 ∧ m (o + 1) 1386 = nI n.2.2) ∧ (∀ s, s < 6 → m (o + 1) (1380 + s) = mi (o + 1) (1380 + s)) ∧ (∀ s, s < i → m (o + 7) s = b2 (sS n s)) ∧ (∀ s, s < i → ∀ p, sentP (n.1 s) n.2.2 = some p → PkM (m (o + 6)) (11 * s) p) ∧ ∀ x, x ≠ o + 1 → x ≠ o + 6 → x ≠ o + 7 → m x = mi x
def T2 (mi : MI) (o : Nat) (n : Nt) (i : Nat) (m : MI) : Prop := (∀ s, s < 6 → StM (m (o + 1)) s (if s < i then midS n s else aftS (n.1 s) n.2.2)) ∧ (NrM (m (o + 1)) n.2.1 ∧ m (o + 1) 1386 = nI n.2.2) ∧ (∀ s, s < 6 → m (o + 1) (1380 + s) = mi (o + 1) (1380 + s)) ∧ (∀ s, s < 6 → m (o + 7) s = b2 (sS n s)) ∧ (∀ s, s < 6 → ∀ p, sentP (n.1 s) n.2.2 = some p → PkM (m (o + 6)) (11 * s) p) ∧ (∀ s, s < i → m (o + 8) s = frS n s) ∧ ∀ x, x ≠ o + 1 → x ≠ o + 6 → x ≠ o + 7 → x ≠ o + 8 → m x = mi x
def T3 (mi : MI) (o : Nat) (n : Nt) (i : Nat) (m : MI) : Prop := (∀ s, s < 6 → StM (m (o + 1)) s (if s < i then tckS n s else midS n s)) ∧ (NrM (m (o + 1)) n.2.1 ∧ m (o + 1) 1386 = nI n.2.2) ∧ (∀ s, s < 6 → (hrd n s = false ∨ i ≤ s) → m (o + 1) (1380 + s) = mi (o + 1) (1380 + s)) ∧ (∀ s, s < 6 → ∀ p, sentP (n.1 s) n.2.2 = some p → PkM (m (o + 6)) (11 * s) p) ∧ (∀ s, s < 6 → m (o + 8) s = frS n s) ∧ (∀ s, s < 6 → m (o + 9) s = if s < i ∧ hrd n s = true then (if mi (o + 9) s < 0 then nI n.2.2 else mi (o + 9) s) else mi (o + 9) s) ∧ ∀ x, (x ≤ o ∨ o + 10 ≤ x ∨ (o + 2 ≤ x ∧ x ≤ o + 4)) → m x = mi x
theorem T1.step {m m' : MI} {n : Nt} {i : Nat} (hi : i < 6) (hok : okNt n) (h : T1 mi o n i m) (h' : SoP m o i n none m') : T1 mi o n (i + 1) m' := by
  obtain ⟨a1, ⟨a2, a3⟩, a4, a5, a6, a7⟩ := h
  obtain ⟨-, b1, b2', b3, b4, b5, b6⟩ := h'
  refine ⟨fun s hs => ?_, ⟨a2.keep (fun j j1 j2 => b2'.oth (by rw [ow_nr j1 j2]; omega)), by rw [b2'.out (by omega)]; exact a3⟩, fun s hs => by rw [b2'.out (by omega)]; exact a4 s hs, fun s hs => ?_, fun s hs p hp => ?_, fun x x1 x2 x3 => (b6 x x1 x2 x3).trans (a7 x x1 x2 x3)⟩
  · by_cases e : s = i
    · subst e; rw [if_pos (by omega)]; exact b1
    · have := a1 s hs
      have hks : lk (if s < i + 1 then aftS (n.1 s) n.2.2 else n.1 s) := by
        split
        · exact lk_aft (hok.1 s hs).lk
        · exact (hok.1 s hs).lk
      have e2 : (if s < i + 1 then aftS (n.1 s) n.2.2 else n.1 s) = (if s < i then aftS (n.1 s) n.2.2 else n.1 s) := by
        by_cases c : s < i
        · rw [if_pos c, if_pos (by omega)]
        · rw [if_neg c, if_neg (by omega)]
      rw [← e2] at this
      exact this.keepL hs hks (fun j hj => b2'.oth (by omega))
  · rw [b3]
    by_cases e : s = i
    · subst e; rw [up2_same]
    · rw [up2_ne _ _ (Or.inr e)]; exact a5 s (by omega)
  · by_cases e : s = i
    · subst e; exact b4 p hp
    · exact (a6 s (by omega) p hp).keep (sent_ok (hok.1 s (by omega)) hp).2.2.1 (fun j j1 j2 => b5 j (by omega))
theorem T2.step {m m' : MI} {n : Nt} {i : Nat} {v : Int32} (hi : i < 6) (hok : okNt n) (h : T2 mi o n i m) (hS : StM (m' (o + 1)) i (midS n i)) (hF : Fr i 0 1314 (m (o + 1)) (m' (o + 1))) (hO : ∀ x, x ≠ o + 1 → m' x = m x) (hv : v = frS n i) : T2 mi o n (i + 1) (up2 m' (o + 8) i v) := by
  obtain ⟨a1, ⟨a2, a3⟩, a4, a5, a6, a7, a8⟩ := h
  have e1 : up2 m' (o + 8) i v (o + 1) = m' (o + 1) := up2_row _ _ (by omega)
  refine ⟨fun s hs => ?_, ⟨by rw [e1]; exact a2.keep (fun j j1 j2 => hF.oth (by rw [ow_nr j1 j2]; omega)), by rw [e1, hF.out (by omega)]; exact a3⟩, fun s hs => by rw [e1, hF.out (by omega)]; exact a4 s hs, fun s hs => by rw [up2_row _ _ (by omega), hO _ (by omega)]; exact a5 s hs, fun s hs p hp => by rw [up2_row _ _ (by omega), hO _ (by omega)]; exact a6 s hs p hp, fun s hs => ?_, fun x x1 x2 x3 x4 => by rw [up2_row _ _ x4, hO x x1]; exact a8 x x1 x2 x3 x4⟩
  · rw [e1]
    by_cases e : s = i
    · subst e; rw [if_pos (by omega)]; exact hS
    · have := a1 s hs
      have hks : lk (if s < i + 1 then midS n s else aftS (n.1 s) n.2.2) := by
        split
        · exact lk_mid (hok.1 s hs).lk
        · exact lk_aft (hok.1 s hs).lk
      have e2 : (if s < i + 1 then midS n s else aftS (n.1 s) n.2.2) = (if s < i then midS n s else aftS (n.1 s) n.2.2) := by
        by_cases c : s < i
        · rw [if_pos c, if_pos (by omega)]
        · rw [if_neg c, if_neg (by omega)]
      rw [← e2] at this
      exact this.keepL hs hks (fun j hj => hF.oth (by omega))
  · by_cases e : s = i
    · subst e; rw [up2_same, hv]
    · rw [up2_ne _ _ (Or.inr e), hO _ (by omega)]; exact a7 s (by omega)
theorem T3.yes {m m' : MI} {n : Nt} {i : Nat} {p : Pk} (hi : i < 6) (hok : okNt n) (hh : hrd n i = true) (ht : tckS n i = hears (n.1 i) p n.2.2) (h : T3 mi o n i m) (h' : HeP m o i n.2.2 (hears (n.1 i) p n.2.2) none m') : T3 mi o n (i + 1) m' := by
  obtain ⟨a1, ⟨a2, a3⟩, a4, a5, a6, a7, a8⟩ := h
  obtain ⟨-, b1, b2', b3, b4⟩ := h'
  refine ⟨fun s hs => ?_, ⟨a2.keep (fun j j1 j2 => b2'.oth (by rw [ow_nr j1 j2]; omega)), by rw [b2'.out (by omega)]; exact a3⟩, fun s hs hc => ?_, fun s hs p hp => by rw [b4 _ (by omega) (by omega) (by omega)]; exact a5 s hs p hp, fun s hs => by rw [b4 _ (by omega) (by omega) (by omega)]; exact a6 s hs, fun s hs => ?_, fun x hx => by rw [b4 x (by omega) (by omega) (by omega)]; exact a8 x hx⟩
  · by_cases e : s = i
    · subst e; rw [if_pos (by omega), ht]; exact b1
    · have := a1 s hs
      have hks : lk (if s < i + 1 then tckS n s else midS n s) := by
        split
        · exact (okSt_tckS hok.1 hs).lk
        · exact lk_mid (hok.1 s hs).lk
      have e2 : (if s < i + 1 then tckS n s else midS n s) = (if s < i then tckS n s else midS n s) := by
        by_cases c : s < i
        · rw [if_pos c, if_pos (by omega)]
        · rw [if_neg c, if_neg (by omega)]
      rw [← e2] at this
      exact this.keepL hs hks (fun j hj => b2'.oth (by omega))
  · have e : s ≠ i := fun e => by
      subst e
      rcases hc with c | c
      · rw [hh] at c; cases c
      · omega
    rw [b2'.oth (by rw [(ow_ls hs (Or.inl rfl)).1]; exact e)]
    exact a4 s hs (by rcases hc with c | c; (exact Or.inl c); (exact Or.inr (by omega)))
  · rw [b3]
    have h9 := a7 i hi
    rw [if_neg (by omega)] at h9
    by_cases e : s = i
    · subst e; rw [up2_same, if_pos (show s < s + 1 ∧ hrd n s = true from ⟨by omega, hh⟩), h9]
    · rw [up2_ne _ _ (Or.inr e), a7 s hs]
      by_cases c : s < i ∧ hrd n s = true
      · rw [if_pos c, if_pos (show s < i + 1 ∧ hrd n s = true from ⟨by omega, c.2⟩)]
      · rw [if_neg c, if_neg (show ¬ (s < i + 1 ∧ hrd n s = true) from fun d => c ⟨by omega, d.2⟩)]
theorem T3.no {m : MI} {n : Nt} {i : Nat} (hi : i < 6) (hh : hrd n i = false) (h : T3 mi o n i m) : T3 mi o n (i + 1) m := by
  obtain ⟨a1, a2, a4, a5, a6, a7, a8⟩ := h
  refine ⟨fun s hs => ?_, a2, fun s hs hc => ?_, a5, a6, fun s hs => ?_, a8⟩
  · have := a1 s hs
    by_cases e : s = i
    · subst e
      rw [if_neg (by omega)] at this
      rw [if_pos (by omega), tck_no hh]; exact this
    · have e2 : (if s < i + 1 then tckS n s else midS n s) = (if s < i then tckS n s else midS n s) := by
        by_cases c : s < i
        · rw [if_pos c, if_pos (by omega)]
        · rw [if_neg c, if_neg (by omega)]
      rw [e2]; exact this
  · refine a4 s hs ?_
    rcases hc with c | c
    · exact Or.inl c
    · exact Or.inr (by omega)
  · rw [a7 s hs]
    by_cases c : s < i ∧ hrd n s = true
    · rw [if_pos c, if_pos (show s < i + 1 ∧ hrd n s = true from ⟨by omega, c.2⟩)]
    · have c2 : ¬ (s < i + 1 ∧ hrd n s = true) := fun d => by
        rcases Nat.lt_or_ge s i with q | q
        · exact c ⟨q, d.2⟩
        · have e : s = i := by omega
          rw [e, hh] at d; cases d.2
      rw [if_neg c, if_neg c2]
theorem m_tick (hL : LM sh mr o) {n : Nt} (hN : NtM (mi (o + 1)) n) (hok : okNt n) (hnow : n.2.2 < 2 ^ 28) : Mi mX10_tick 5 [.ref o] z sh mi mr (TkP mi o n) := by
  obtain ⟨l0, ⟨l1, l2⟩, -, -, -, ⟨l9, l10⟩, ⟨l11, l12⟩, ⟨l13, l14⟩, ⟨l15, l16⟩, ⟨l17, l18⟩, -⟩ := id hL
  have H3 : ∀ (t i : Nat) (m : MI), i + t = 6 → T3 mi o n i m → Wp yX10_tick cX10_tick 2 none (EI 5 z sh mr (TkP mi o n)) 0 0 60 [.ref o, .int (nI i)] [] z sh m mr := by
    intro t
    induction t with
    | zero =>
      intro i m hi hT
      have hi : i = 6 := hi
      subst hi
      obtain ⟨a1, ⟨a2, a3⟩, a4, a5, a6, a7, a8⟩ := hT
      refine r_iload_n 1 dX10_tick_60 rfl rfl ?_
      refine r_bipush (v := nI 6) dX10_tick_61 (by decide) ?_
      refine r_icmpN_ge 92 dX10_tick_63 (by decide) (by omega) (by omega) (fun h63 => ?_) (fun h63 => ?_)
      · refine r_aload_n 0 dX10_tick_92 rfl rfl ?_
        refine r_getR dX10_tick_93 fl_RX10_7 rfl (by assumption) (by assumption) ?_
        refine r_sipush (v := nI 1386) dX10_tick_96 (by decide) ?_
        refine r_dup2 dX10_tick_99 rfl rfl ?_
        refine r_ialdV dX10_tick_100 (by assumption) (by omega) (by omega) (by first | assumption | exact up2_same _ _ _ _ | exact (Eq.trans (up2_ne _ _ (by omega)) (by first | assumption | exact up2_same _ _ _ _)) | exact (Eq.trans (up2_ne _ _ (by omega)) (Eq.trans (up2_ne _ _ (by omega)) (by first | assumption | exact up2_same _ _ _ _))) | exact (Eq.trans (up2_ne _ _ (by omega)) (Eq.trans (up2_ne _ _ (by omega)) (Eq.trans (up2_ne _ _ (by omega)) (by first | assumption | exact up2_same _ _ _ _)))) | exact (Eq.trans (up2_ne _ _ (by omega)) (Eq.trans (up2_ne _ _ (by omega)) (Eq.trans (up2_ne _ _ (by omega)) (Eq.trans (up2_ne _ _ (by omega)) (by first | assumption | exact up2_same _ _ _ _))))) | rfl) ?_
        refine r_iconst (v := nI 1) dX10_tick_101 (by decide) ?_
        refine r_iaddN dX10_tick_102 ?_
        refine r_iast dX10_tick_103 (by assumption) (by omega) (by omega) ?_
        refine r_vret dX10_tick_104 rfl (Nat.le_of_ble_eq_true rfl) (Nat.le_of_ble_eq_true rfl) ?_
        refine ⟨rfl, rfl, rfl, rfl, ⟨fun s hs => ?_, a2.keep (fun j j1 j2 => up2_ne _ _ (Or.inr (by omega))), up2_same _ _ _ _⟩, fun s hs hc => ?_, fun s hs => ?_, fun x hx => by rw [up2_row _ _ (by omega)]; exact a8 x hx⟩
        · have := a1 s hs
          rw [if_pos hs] at this
          exact this.keepL hs (okSt_tckS hok.1 hs).lk (fun j hj => up2_ne _ _ (Or.inr (fun e => by rw [e, ow_now] at hj; omega)))
        · rw [up2_ne _ _ (Or.inr (by omega))]; exact a4 s hs (Or.inl hc)
        · rw [up2_row _ _ (by omega), a7 s hs]
          by_cases c : hrd n s = true
          · rw [if_pos (show s < 6 ∧ hrd n s = true from ⟨hs, c⟩), if_pos c]
          · rw [if_neg (show ¬ (s < 6 ∧ hrd n s = true) from fun d => c d.2), if_neg c]
      · omega
    | succ t ih =>
      intro i m hi hT
      have hi6 : i < 6 := by omega
      have hfr := hT.2.2.2.2.1 i hi6
      by_cases hh : hrd n i = true
      · obtain ⟨q, p, q1, q2, q3, q4, q5⟩ := tck_yes hh
        have hfr' : m (o + 8) i = nI q := by rw [hfr, q3]
        have hSi := hT.1 i hi6
        rw [if_neg (by omega), q4] at hSi
        clear hfr
        refine r_iload_n 1 dX10_tick_60 rfl rfl ?_
        refine r_bipush (v := nI 6) dX10_tick_61 (by decide) ?_
        refine r_icmpN_ge 92 dX10_tick_63 (by decide) (by omega) (by omega) (fun h63 => ?_) (fun h63 => ?_)
        · omega
        · refine r_aload_n 0 dX10_tick_66 rfl rfl ?_
          refine r_getR dX10_tick_67 fl_RX10_32 rfl (by assumption) (by assumption) ?_
          refine r_iload_n 1 dX10_tick_70 rfl rfl ?_
          refine r_ialdV dX10_tick_71 (by assumption) (by omega) (by omega) (by first | assumption | exact up2_same _ _ _ _ | exact (Eq.trans (up2_ne _ _ (by omega)) (by first | assumption | exact up2_same _ _ _ _)) | exact (Eq.trans (up2_ne _ _ (by omega)) (Eq.trans (up2_ne _ _ (by omega)) (by first | assumption | exact up2_same _ _ _ _))) | exact (Eq.trans (up2_ne _ _ (by omega)) (Eq.trans (up2_ne _ _ (by omega)) (Eq.trans (up2_ne _ _ (by omega)) (by first | assumption | exact up2_same _ _ _ _)))) | exact (Eq.trans (up2_ne _ _ (by omega)) (Eq.trans (up2_ne _ _ (by omega)) (Eq.trans (up2_ne _ _ (by omega)) (Eq.trans (up2_ne _ _ (by omega)) (by first | assumption | exact up2_same _ _ _ _))))) | rfl) ?_
          refine r_ifN_lt 86 dX10_tick_72 (by decide) (by omega) ?_
          refine r_aload_n 0 dX10_tick_75 rfl rfl ?_
          refine r_iload_n 1 dX10_tick_76 rfl rfl ?_
          refine r_aload_n 0 dX10_tick_77 rfl rfl ?_
          refine r_getR dX10_tick_78 fl_RX10_32 rfl (by assumption) (by assumption) ?_
          refine r_iload_n 1 dX10_tick_81 rfl rfl ?_
          refine r_ialdV dX10_tick_82 (by assumption) (by omega) (by omega) (by first | assumption | exact up2_same _ _ _ _ | exact (Eq.trans (up2_ne _ _ (by omega)) (by first | assumption | exact up2_same _ _ _ _)) | exact (Eq.trans (up2_ne _ _ (by omega)) (Eq.trans (up2_ne _ _ (by omega)) (by first | assumption | exact up2_same _ _ _ _))) | exact (Eq.trans (up2_ne _ _ (by omega)) (Eq.trans (up2_ne _ _ (by omega)) (Eq.trans (up2_ne _ _ (by omega)) (by first | assumption | exact up2_same _ _ _ _)))) | exact (Eq.trans (up2_ne _ _ (by omega)) (Eq.trans (up2_ne _ _ (by omega)) (Eq.trans (up2_ne _ _ (by omega)) (Eq.trans (up2_ne _ _ (by omega)) (by first | assumption | exact up2_same _ _ _ _))))) | rfl) ?_
          refine r_callVw [_, _] dX10_tick_83 ok_RX10_129 ivX10_hear (by assumption) ⟨_, _, rfl⟩ rfl rfl (Nat.le_of_ble_eq_true rfl) (by refine ⟨?_, ?_, ?_, ?_⟩ <;> exact Nat.le_of_ble_eq_true rfl) (m_hear hL hi6 q1 hSi (hok.1 i hi6) (hT.2.2.2.1 q q1 p q2) (sent_ok (hok.1 q q1) q2) hT.2.1.2 (by omega)) ?_
          intro mA uA
          refine r_iincN 1 (b := 1) (ls2 := [_, _]) dX10_tick_86 rfl (by decide) (by decide) rfl ?_
          refine r_goto 60 dX10_tick_89 (by decide) ?_
          exact ih (i + 1) mA (by omega) (hT.yes hi6 hok hh q5 ⟨rfl, uA⟩)
      · have hh' : hrd n i = false := by simpa using hh
        have hfr' : m (o + 8) i = -6 := by rw [hfr, frS_no hh']
        clear hfr
        refine r_iload_n 1 dX10_tick_60 rfl rfl ?_
        refine r_bipush (v := nI 6) dX10_tick_61 (by decide) ?_
        refine r_icmpN_ge 92 dX10_tick_63 (by decide) (by omega) (by omega) (fun h63 => ?_) (fun h63 => ?_)
        · omega
        · refine r_aload_n 0 dX10_tick_66 rfl rfl ?_
          refine r_getR dX10_tick_67 fl_RX10_32 rfl (by assumption) (by assumption) ?_
          refine r_iload_n 1 dX10_tick_70 rfl rfl ?_
          refine r_ialdV dX10_tick_71 (by assumption) (by omega) (by omega) (by first | assumption | exact up2_same _ _ _ _ | exact (Eq.trans (up2_ne _ _ (by omega)) (by first | assumption | exact up2_same _ _ _ _)) | exact (Eq.trans (up2_ne _ _ (by omega)) (Eq.trans (up2_ne _ _ (by omega)) (by first | assumption | exact up2_same _ _ _ _))) | exact (Eq.trans (up2_ne _ _ (by omega)) (Eq.trans (up2_ne _ _ (by omega)) (Eq.trans (up2_ne _ _ (by omega)) (by first | assumption | exact up2_same _ _ _ _)))) | exact (Eq.trans (up2_ne _ _ (by omega)) (Eq.trans (up2_ne _ _ (by omega)) (Eq.trans (up2_ne _ _ (by omega)) (Eq.trans (up2_ne _ _ (by omega)) (by first | assumption | exact up2_same _ _ _ _))))) | rfl) ?_
          refine r_if_lt 86 dX10_tick_72 (by decide) (fun h72 => ?_) (fun h72 => ?_)
          · refine r_iincN 1 (b := 1) (ls2 := [_, _]) dX10_tick_86 rfl (by decide) (by decide) rfl ?_
            refine r_goto 60 dX10_tick_89 (by decide) ?_
            exact ih (i + 1) m (by omega) (hT.no hi6 hh')
          · exact absurd (by decide) h72
  have H2 : ∀ (t i : Nat) (m : MI), i + t = 6 → T2 mi o n i m → Wp yX10_tick cX10_tick 2 none (EI 5 z sh mr (TkP mi o n)) 0 0 21 [.ref o, .int (nI i)] [] z sh m mr := by
    intro t
    induction t with
    | zero =>
      intro i m hi hT
      have hi : i = 6 := hi
      subst hi
      obtain ⟨a1, a2, a4, a5, a6, a7, a8⟩ := hT
      refine r_iload_n 1 dX10_tick_21 rfl rfl ?_
      refine r_bipush (v := nI 6) dX10_tick_22 (by decide) ?_
      refine r_icmpN_ge 58 dX10_tick_24 (by decide) (by omega) (by omega) (fun h24 => ?_) (fun h24 => ?_)
      · refine r_iconst (v := nI 0) dX10_tick_58 (by decide) ?_
        refine r_istore_n 1 (ls2 := [_, _]) dX10_tick_59 rfl (by decide) (Nat.le_of_ble_eq_true rfl) rfl ?_
        refine H3 6 0 m rfl ⟨fun s hs => ?_, a2, fun s hs _ => a4 s hs, a6, a7, fun s hs => ?_, fun x hx => a8 x (by omega) (by omega) (by omega) (by omega)⟩
        · have := a1 s hs; rw [if_pos hs] at this; rw [if_neg (by omega)]; exact this
        · rw [if_neg (by omega), a8 _ (by omega) (by omega) (by omega) (by omega)]
      · omega
    | succ t ih =>
      intro i m hi hT
      have hi6 : i < 6 := by omega
      have hse := hT.2.2.2.1 i hi6
      have hSi := hT.1 i hi6
      rw [if_neg (by omega)] at hSi
      by_cases hS : sS n i = true
      · rw [hS] at hse
        refine r_iload_n 1 dX10_tick_21 rfl rfl ?_
        refine r_bipush (v := nI 6) dX10_tick_22 (by decide) ?_
        refine r_icmpN_ge 58 dX10_tick_24 (by decide) (by omega) (by omega) (fun h24 => ?_) (fun h24 => ?_)
        · omega
        · refine r_aload_n 0 dX10_tick_27 rfl rfl ?_
          refine r_getR dX10_tick_28 fl_RX10_32 rfl (by assumption) (by assumption) ?_
          refine r_iload_n 1 dX10_tick_31 rfl rfl ?_
          refine r_aload_n 0 dX10_tick_32 rfl rfl ?_
          refine r_getR dX10_tick_33 fl_RX10_29 rfl (by assumption) (by assumption) ?_
          refine r_iload_n 1 dX10_tick_36 rfl rfl ?_
          refine r_baldV dX10_tick_37 (by assumption) (by omega) (by omega) (by first | assumption | exact up2_same _ _ _ _ | exact (Eq.trans (up2_ne _ _ (by omega)) (by first | assumption | exact up2_same _ _ _ _)) | exact (Eq.trans (up2_ne _ _ (by omega)) (Eq.trans (up2_ne _ _ (by omega)) (by first | assumption | exact up2_same _ _ _ _))) | exact (Eq.trans (up2_ne _ _ (by omega)) (Eq.trans (up2_ne _ _ (by omega)) (Eq.trans (up2_ne _ _ (by omega)) (by first | assumption | exact up2_same _ _ _ _)))) | exact (Eq.trans (up2_ne _ _ (by omega)) (Eq.trans (up2_ne _ _ (by omega)) (Eq.trans (up2_ne _ _ (by omega)) (Eq.trans (up2_ne _ _ (by omega)) (by first | assumption | exact up2_same _ _ _ _))))) | rfl) ?_
          refine r_ifB_eq 46 dX10_tick_38 (by decide) (fun h38 => ?_) (fun h38 => ?_)
          · exact absurd h38 (by decide)
          · refine r_bipush (v := -6) dX10_tick_41 (by decide) ?_
            refine r_goto 51 dX10_tick_43 (by decide) ?_
            refine r_iast dX10_tick_51 (by assumption) (by omega) (by omega) ?_
            refine r_iincN 1 (b := 1) (ls2 := [_, _]) dX10_tick_52 rfl (by decide) (by decide) rfl ?_
            refine r_goto 21 dX10_tick_55 (by decide) ?_
            exact ih (i + 1) _ (by omega) (hT.step hi6 hok (by unfold midS; rw [if_pos hS]; exact hSi) Fr.rf (fun _ _ => rfl) (by unfold frS; rw [if_pos hS]))
      · have hS0 : sS n i = false := by simpa using hS
        rw [hS0] at hse
        have hS' : ¬ (sentP (n.1 i) n.2.2).isSome = true := hS
        rw [aftS_no hS'] at hSi
        have hv := hSi.2.1 7 (by omega)
        refine r_iload_n 1 dX10_tick_21 rfl rfl ?_
        refine r_bipush (v := nI 6) dX10_tick_22 (by decide) ?_
        refine r_icmpN_ge 58 dX10_tick_24 (by decide) (by omega) (by omega) (fun h24 => ?_) (fun h24 => ?_)
        · omega
        · refine r_aload_n 0 dX10_tick_27 rfl rfl ?_
          refine r_getR dX10_tick_28 fl_RX10_32 rfl (by assumption) (by assumption) ?_
          refine r_iload_n 1 dX10_tick_31 rfl rfl ?_
          refine r_aload_n 0 dX10_tick_32 rfl rfl ?_
          refine r_getR dX10_tick_33 fl_RX10_29 rfl (by assumption) (by assumption) ?_
          refine r_iload_n 1 dX10_tick_36 rfl rfl ?_
          refine r_baldV dX10_tick_37 (by assumption) (by omega) (by omega) (by first | assumption | exact up2_same _ _ _ _ | exact (Eq.trans (up2_ne _ _ (by omega)) (by first | assumption | exact up2_same _ _ _ _)) | exact (Eq.trans (up2_ne _ _ (by omega)) (Eq.trans (up2_ne _ _ (by omega)) (by first | assumption | exact up2_same _ _ _ _))) | exact (Eq.trans (up2_ne _ _ (by omega)) (Eq.trans (up2_ne _ _ (by omega)) (Eq.trans (up2_ne _ _ (by omega)) (by first | assumption | exact up2_same _ _ _ _)))) | exact (Eq.trans (up2_ne _ _ (by omega)) (Eq.trans (up2_ne _ _ (by omega)) (Eq.trans (up2_ne _ _ (by omega)) (Eq.trans (up2_ne _ _ (by omega)) (by first | assumption | exact up2_same _ _ _ _))))) | rfl) ?_
          refine r_ifB_eq 46 dX10_tick_38 (by decide) (fun h38 => ?_) (fun h38 => ?_)
          · refine r_aload_n 0 dX10_tick_46 rfl rfl ?_
            refine r_iload_n 1 dX10_tick_47 rfl rfl ?_
            refine r_callVx [_] dX10_tick_48 ok_RX10_125 ivX10_hearsFrom (by assumption) ⟨_, _, rfl⟩ rfl rfl (Nat.le_of_ble_eq_true rfl) (by refine ⟨?_, ?_, ?_, ?_⟩ <;> exact Nat.le_of_ble_eq_true rfl) (m_hearsFrom hL hi6 hT.2.2.2.1 hT.2.1.1 hv) ?_
            intro mA uA
            refine r_iast dX10_tick_51 (by assumption) (by omega) (by omega) ?_
            refine r_iincN 1 (b := 1) (ls2 := [_, _]) dX10_tick_52 rfl (by decide) (by decide) rfl ?_
            refine r_goto 21 dX10_tick_55 (by decide) ?_
            refine ih (i + 1) _ (by omega) (hT.step (m' := mA) hi6 hok ?_ ?_ (fun x hx => ?_) (by unfold frS; rw [if_neg hS]; rfl))
            · unfold midS
              rw [if_neg hS, uA]
              by_cases c : 1 < cn6 (gS n i)
              · have c' : 1 < cn6 (fun q => sS n q && n.2.1 i q) := c
                rw [if_pos c', if_pos c]; exact hSi.cnt hi6 (by omega) (hok.1 i hi6).lk
              · have c' : ¬ 1 < cn6 (fun q => sS n q && n.2.1 i q) := c
                rw [if_neg c', if_neg c]; exact hSi
            · rw [uA]
              split
              · exact Fr.cnt hi6 (by omega)
              · exact Fr.rf
            · rw [uA]
              split
              · exact up2_row _ _ hx
              · rfl
          · exact absurd h38 (by decide)
  have H1 : ∀ (t i : Nat) (m : MI), i + t = 6 → T1 mi o n i m → Wp yX10_tick cX10_tick 2 none (EI 5 z sh mr (TkP mi o n)) 0 0 2 [.ref o, .int (nI i)] [] z sh m mr := by
    intro t
    induction t with
    | zero =>
      intro i m hi hT
      have hi : i = 6 := hi
      subst hi
      obtain ⟨a1, a2, a4, a5, a6, a7⟩ := hT
      refine r_iload_n 1 dX10_tick_2 rfl rfl ?_
      refine r_bipush (v := nI 6) dX10_tick_3 (by decide) ?_
      refine r_icmpN_ge 19 dX10_tick_5 (by decide) (by omega) (by omega) (fun h5 => ?_) (fun h5 => ?_)
      · refine r_iconst (v := nI 0) dX10_tick_19 (by decide) ?_
        refine r_istore_n 1 (ls2 := [_, _]) dX10_tick_20 rfl (by decide) (Nat.le_of_ble_eq_true rfl) rfl ?_
        refine H2 6 0 m rfl ⟨fun s hs => ?_, a2, a4, a5, a6, fun s hs => by omega, fun x x1 x2 x3 _ => a7 x x1 x2 x3⟩
        have := a1 s hs; rw [if_pos hs] at this; rw [if_neg (by omega)]; exact this
      · omega
    | succ t ih =>
      intro i m hi hT
      have hi6 : i < 6 := by omega
      have hSi := hT.1 i hi6
      rw [if_neg (by omega)] at hSi
      have hoi := hok.1 i hi6
      have hd30 : ∀ q ∈ (n.1 i).2.2.1, q.2 < 2 ^ 30 := fun q hq => by have := (hoi.2.2.1.2 q hq).2; omega
      by_cases hS : sS n i = true
      · have hS' : (sentP (n.1 i) n.2.2).isSome = true := hS
        obtain ⟨q0, hq0⟩ := gl_ex ((snt_iff _ _).mp hS')
        have hv := hSi.2.1 0 (by omega)
        refine r_iload_n 1 dX10_tick_2 rfl rfl ?_
        refine r_bipush (v := nI 6) dX10_tick_3 (by decide) ?_
        refine r_icmpN_ge 19 dX10_tick_5 (by decide) (by omega) (by omega) (fun h5 => ?_) (fun h5 => ?_)
        · omega
        · refine r_aload_n 0 dX10_tick_8 rfl rfl ?_
          refine r_iload_n 1 dX10_tick_9 rfl rfl ?_
          refine r_callVw [_] dX10_tick_10 ok_RX10_122 ivX10_sendOne (by assumption) ⟨_, _, rfl⟩ rfl rfl (Nat.le_of_ble_eq_true rfl) (by refine ⟨?_, ?_, ?_, ?_⟩ <;> exact Nat.le_of_ble_eq_true rfl) (m_sendYes hL hi6 hSi.2.2.1 hoi.2.2.1.1 hd30 hoi.lk.2.1.2 hT.2.1.2 (by omega) hv hq0) ?_
          intro mA ⟨u1, u2, u3, u4, u5, u6, u7⟩
          refine r_iincN 1 (b := 1) (ls2 := [_, _]) dX10_tick_13 rfl (by decide) (by decide) rfl ?_
          refine r_goto 2 dX10_tick_16 (by decide) ?_
          exact ih (i + 1) mA (by omega) (hT.step hi6 hok (so_yes hi6 hSi hoi.lk hq0 u1 u2 u3 u4 u5 u6 u7))
      · have hS0 : sS n i = false := by simpa using hS
        have hS' : ¬ (sentP (n.1 i) n.2.2).isSome = true := hS
        have hdu : duIx (n.1 i).2.2.1 n.2.2 = (n.1 i).2.2.1.length := by
          have h1 : duIx (n.1 i).2.2.1 n.2.2 ≤ (n.1 i).2.2.1.length := List.findIdx_le_length
          have h2 : ¬ duIx (n.1 i).2.2.1 n.2.2 < (n.1 i).2.2.1.length := fun e => hS' ((snt_iff _ _).mpr e)
          omega
        refine r_iload_n 1 dX10_tick_2 rfl rfl ?_
        refine r_bipush (v := nI 6) dX10_tick_3 (by decide) ?_
        refine r_icmpN_ge 19 dX10_tick_5 (by decide) (by omega) (by omega) (fun h5 => ?_) (fun h5 => ?_)
        · omega
        · refine r_aload_n 0 dX10_tick_8 rfl rfl ?_
          refine r_iload_n 1 dX10_tick_9 rfl rfl ?_
          refine r_callVw [_] dX10_tick_10 ok_RX10_122 ivX10_sendOne (by assumption) ⟨_, _, rfl⟩ rfl rfl (Nat.le_of_ble_eq_true rfl) (by refine ⟨?_, ?_, ?_, ?_⟩ <;> exact Nat.le_of_ble_eq_true rfl) (m_sendNo hL hi6 hSi.2.2.1 hoi.2.2.1.1 hd30 hT.2.1.2 (by omega) hdu) ?_
          intro mA uA
          refine r_iincN 1 (b := 1) (ls2 := [_, _]) dX10_tick_13 rfl (by decide) (by decide) rfl ?_
          refine r_goto 2 dX10_tick_16 (by decide) ?_
          exact ih (i + 1) mA (by omega) (hT.step hi6 hok (so_no hSi hS0 uA))
  refine Mv.of pnX10_tick (Nat.le_of_ble_eq_true rfl) rfl ?_
  refine r_iconst (v := nI 0) dX10_tick_0 (by decide) ?_
  refine r_istore_n 1 (ls2 := [_, _]) dX10_tick_1 rfl (by decide) (Nat.le_of_ble_eq_true rfl) rfl ?_
  exact H1 6 0 mi rfl ⟨fun s hs => by rw [if_neg (by omega)]; exact hN.1 s hs, hN.2, fun _ _ => rfl, fun s hs => by omega, fun s hs => by omega, fun _ _ _ _ => rfl⟩
end RTICK
