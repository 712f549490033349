-- a trial ends: what is kept is sent at its due tick, with fewer hops each time
def cw (w : Wd) : Nat := if w.2.2 = true then 0 else w.2.1
def lev : List Wd → Nat
  | [] => 0
  | w :: t => cw w + lev t
theorem lev_app : ∀ a b : List Wd, lev (a ++ b) = lev a + lev b
  | [], b => by simp [lev]
  | w :: t, b => by simp [lev, lev_app t b]; omega
def unS (ws : List Wd) : Prop := ∀ w ∈ ws, w.2.2 = false → 1 ≤ w.2.1
theorem ws_split {α : Type} {ws : List α} {i : Nat} {w : α} (h : ws[i]? = some w) : ws = ws.take i ++ w :: ws.drop (i + 1) := by
  obtain ⟨h1, h2⟩ := List.getElem?_eq_some_iff.mp h
  conv => lhs; rw [← List.take_append_drop i ws]
  rw [List.drop_eq_getElem_cons h1, h2]
theorem lev_split {ws : List Wd} {i : Nat} {w : Wd} (h : ws[i]? = some w) : lev ws = lev (ws.take i) + (cw w + lev (ws.drop (i + 1))) := by
  conv => lhs; rw [ws_split h, lev_app]
  rfl
theorem lev_set {ws : List Wd} {i : Nat} {w w' : Wd} (h : ws[i]? = some w) : lev (ws.set i w') = lev (ws.take i) + (cw w' + lev (ws.drop (i + 1))) := by
  rw [List.set_eq_take_append_cons_drop, if_pos (gl_lt h), lev_app]
  rfl
theorem chg_lev {se : Se} {p p' : Pk} {i : Nat} {w : Wd} (hw : p.2.2[i]? = some w) (hu : w.2.2 = false) (hU : unS p.2.2) (h : chg se p i = some p') : lev p'.2.2 + 1 ≤ lev p.2.2 ∧ unS p'.2.2 := by
  have h1 := hU w (gl_mem hw) hu
  have hs := lev_split hw
  have hcw : cw w = w.2.1 := by unfold cw; rw [hu]; rfl
  have hsp : lev (p.2.2.set i (se.1, 0, true)) + 1 ≤ lev p.2.2 ∧ unS (p.2.2.set i (se.1, 0, true)) := by
    refine ⟨?_, fun x hx hf => ?_⟩
    · rw [lev_set hw, hs, hcw]; show _ + (0 + _) + 1 ≤ _; omega
    · rcases List.mem_or_eq_of_mem_set hx with e | e
      · exact hU x e hf
      · rw [e] at hf; cases hf
  unfold chg at h
  rw [hw] at h
  simp only at h
  split at h
  · cases h; exact hsp
  · split at h
    · cases h
    · split at h
      · cases h; exact hsp
      · rename_i hl
        have hnc : cw (w.1, min w.2.1 se.2.2.2.1 - 1, w.2.2) = min w.2.1 se.2.2.2.1 - 1 := by unfold cw; rw [hu]; rfl
        split at h
        · cases h
          refine ⟨?_, fun x hx hf => ?_⟩
          · show lev (p.2.2.take i ++ (se.1, 0, true) :: (w.1, min w.2.1 se.2.2.2.1 - 1, w.2.2) :: p.2.2.drop (i + 1)) + 1 ≤ _
            rw [lev_app, hs, hcw]
            show _ + (0 + (cw _ + _)) + 1 ≤ _
            rw [hnc]; omega
          · rcases List.mem_append.mp hx with e | e
            · exact hU x (List.mem_of_mem_take e) hf
            · rcases List.mem_cons.mp e with e | e
              · rw [e] at hf; cases hf
              · rcases List.mem_cons.mp e with e | e
                · rw [e]; show 1 ≤ _ - 1; omega
                · exact hU x (List.mem_of_mem_drop e) hf
        · cases h
          refine ⟨?_, fun x hx hf => ?_⟩
          · show lev (p.2.2.set i (w.1, min w.2.1 se.2.2.2.1 - 1, w.2.2)) + 1 ≤ _
            rw [lev_set hw, hs, hcw, hnc]; omega
          · rcases List.mem_or_eq_of_mem_set hx with e | e
            · exact hU x e hf
            · rw [e]; show 1 ≤ _ - 1; omega
def TS (h now : Nat) (st : St) : Prop := (∀ q ∈ st.2.2.1, now ≤ q.2 ∧ q.2 < now + st.1.2.2.2.2.1 ∧ q.2 + 3 * lev q.1.2.2 ≤ 3 * h ∧ unS q.1.2.2) ∧ st.2.2.1.Pairwise (fun x y => x.2 < y.2)
def HL (st : St) : Prop := 0 < st.2.1 1 ↔ st.2.2.2.2.isSome = true
theorem TS_next {h now : Nat} {st : St} (hT : TS h now st) (hx : ∀ q ∈ st.2.2.1, now + 1 ≤ q.2) : TS h (now + 1) st := ⟨fun q hq => ⟨hx q hq, by have := (hT.1 q hq).2.1; omega, (hT.1 q hq).2.2⟩, hT.2⟩
theorem TS_no {h now : Nat} {st : St} (hT : TS h now st) (hn : ¬ (sentP st now).isSome = true) : ∀ q ∈ st.2.2.1, now + 1 ≤ q.2 := by
  intro q hq
  have hd : ¬ duIx st.2.2.1 now < st.2.2.1.length := fun e => hn ((snt_iff st now).mpr e)
  have h1 : ¬ q.2 ≤ now := fun e => hd (by unfold duIx; exact List.findIdx_lt_length_of_exists ⟨q, hq, by simpa using e⟩)
  omega
theorem TS_aft {h now : Nat} {st : St} (hT : TS h now st) (hs : (sentP st now).isSome = true) : TS h (now + 1) (aftS st now) := by
  have hd := (snt_iff st now).mp hs
  unfold aftS
  rw [if_pos hd]
  obtain ⟨x, hx, hxd⟩ := fi_lt (l := st.2.2.1) (p := fun q => decide (q.2 ≤ now)) hd
  have hx : st.2.2.1[duIx st.2.2.1 now]? = some x := hx
  have hxn : x.2 ≤ now := by simpa using hxd
  have hmem : ∀ q ∈ st.2.2.1.eraseIdx (duIx st.2.2.1 now), now + 1 ≤ q.2 := by
    intro q hq
    obtain ⟨j, hj⟩ := List.getElem?_of_mem hq
    rw [List.getElem?_eraseIdx] at hj
    have pw := List.pairwise_iff_getElem.mp hT.2
    obtain ⟨g1, g2⟩ := List.getElem?_eq_some_iff.mp hx
    have hqn := (hT.1 q (List.mem_of_mem_eraseIdx hq)).1
    by_cases hjk : j < duIx st.2.2.1 now
    · rw [if_pos hjk] at hj
      obtain ⟨f1, f2⟩ := List.getElem?_eq_some_iff.mp hj
      have := pw j _ f1 g1 hjk
      rw [f2, g2] at this
      omega
    · rw [if_neg hjk] at hj
      obtain ⟨f1, f2⟩ := List.getElem?_eq_some_iff.mp hj
      have := pw _ (j + 1) g1 f1 (by omega)
      rw [f2, g2] at this
      have := (hT.1 x (gl_mem hx)).1
      omega
  refine ⟨fun q hq => ⟨hmem q hq, ?_, (hT.1 q (List.mem_of_mem_eraseIdx hq)).2.2⟩, hT.2.sublist (List.eraseIdx_sublist _ _)⟩
  have := (hT.1 q (List.mem_of_mem_eraseIdx hq)).2.1
  show q.2 < now + 1 + st.1.2.2.2.2.1
  omega
theorem TS_hears {h now : Nat} {st : St} {p : Pk} (hT : TS h now st) (hx : ∀ q ∈ st.2.2.1, now + 1 ≤ q.2) (hse : okSe st.1) (hp : now + 3 * lev p.2.2 ≤ 3 * h) (hU : unS p.2.2) : TS h (now + 1) (hears st p now) := by
  have hn := TS_next hT hx
  unfold hears look
  simp only
  split
  · exact hn
  · split
    · exact hn
    · split
      · exact hn
      · rename_i hne
        split
        · exact hn
        · rename_i p' hc
          have hul : unIx p.2.2 < p.2.2.length := by
            have := List.findIdx_le_length (p := fun w : Wd => !w.2.2) (xs := p.2.2)
            unfold unIx at hne ⊢; omega
          obtain ⟨w, hw, hwu⟩ := fi_lt (l := p.2.2) (p := fun w => !w.2.2) hul
          have hw : p.2.2[unIx p.2.2]? = some w := hw
          obtain ⟨h1, h2⟩ := chg_lev hw (by simpa using hwu) hU hc
          split
          · have hd := hse.2.2.2.2.1
            refine ⟨fun q hq => ?_, ?_⟩
            · rcases List.mem_append.mp hq with e | e
              · exact hn.1 q e
              · rw [List.mem_singleton.mp e]
                refine ⟨?_, ?_, ?_, h2⟩
                · show now + 1 ≤ now + st.1.2.2.2.2.1; omega
                · show now + st.1.2.2.2.2.1 < now + 1 + st.1.2.2.2.2.1; omega
                · show now + st.1.2.2.2.2.1 + 3 * lev p'.2.2 ≤ 3 * h; omega
            · show (st.2.2.1 ++ [(p', now + st.1.2.2.2.2.1)]).Pairwise _
              rw [List.pairwise_append]
              refine ⟨hn.2, List.pairwise_singleton _ _, fun x hx y hy => ?_⟩
              rw [List.mem_singleton.mp hy]
              have := (hT.1 x hx).2.1
              exact this
          · exact hn
theorem HL_look {st : St} {p : Pk} {now : Nat} (h : HL st) : HL (look st p now) := by
  have b : ∀ t w, w ≠ 1 → bump t w 1 = t 1 := fun t w hw => bump_ne (Ne.symm hw)
  unfold look HL at *
  split
  · show 0 < bump st.2.1 2 1 ↔ _; rw [b _ 2 (by omega)]; exact h
  · split
    · show 0 < bump st.2.1 3 1 ↔ _; rw [b _ 3 (by omega)]; exact h
    · split
      · show 0 < bump st.2.1 4 1 ↔ _; rw [b _ 4 (by omega)]; exact h
      · split
        · show 0 < bump st.2.1 6 1 ↔ _; rw [b _ 6 (by omega)]; exact h
        · split
          · show 0 < bump st.2.1 5 1 ↔ _; rw [b _ 5 (by omega)]; exact h
          · show 0 < bump (bump st.2.1 5) 8 1 ↔ _; rw [b _ 8 (by omega), b _ 5 (by omega)]; exact h
theorem HL_hears (st : St) (p : Pk) (now : Nat) : HL (hears st p now) := by
  unfold hears
  refine HL_look ?_
  unfold HL
  simp [bump]
theorem HL_aft {st : St} {now : Nat} (h : HL st) : HL (aftS st now) := by
  unfold aftS
  split
  · unfold HL at *
    show 0 < bump st.2.1 0 1 ↔ _
    rw [bump_ne (by omega)]; exact h
  · exact h
theorem HL_tckS {n : Nt} {s : Nat} (h : HL (n.1 s)) : HL (tckS n s) := by
  unfold tckS
  split
  · exact HL_aft h
  · split
    · exact h
    · split
      · exact HL_hears _ _ _
      · exact h
    · unfold HL at *
      show 0 < bump (n.1 s).2.1 7 1 ↔ _
      rw [bump_ne (by omega)]; exact h
theorem TS_tckS {h : Nat} {n : Nt} (hok : ∀ s, s < 6 → okSt (n.1 s) n.2.2) (hT : ∀ s, s < 6 → TS h n.2.2 (n.1 s)) {s : Nat} (hs : s < 6) : TS h (n.2.2 + 1) (tckS n s) := by
  unfold tckS
  split
  · rename_i h1; exact TS_aft (hT s hs) h1
  · rename_i h1
    have hx := TS_no (hT s hs) h1
    split
    · exact TS_next (hT s hs) hx
    · rename_i q hq
      have hq6 : q < 6 := by
        have : q ∈ audi n s := by rw [hq]; simp
        exact List.mem_range.mp (List.mem_filter.mp this).1
      split
      · rename_i p hp
        have hin : ∃ u, u ∈ (n.1 q).2.2.1 ∧ u.1 = p ∧ u.2 ≤ n.2.2 := by
          have hsome : (sentP (n.1 q) n.2.2).isSome = true := by rw [hp]; rfl
          have hd := (snt_iff _ _).mp hsome
          obtain ⟨x, hx, hxd⟩ := fi_lt (l := (n.1 q).2.2.1) (p := fun q => decide (q.2 ≤ n.2.2)) hd
          have hx : (n.1 q).2.2.1[duIx (n.1 q).2.2.1 n.2.2]? = some x := hx
          unfold sentP at hp
          rw [hx] at hp
          cases hp
          exact ⟨x, gl_mem hx, rfl, by simpa using hxd⟩
        obtain ⟨u, hu1, hu2, hu3⟩ := hin
        have hu := (hT q hq6).1 u hu1
        rw [← hu2]
        exact TS_hears (hT s hs) hx (hok s hs).1 (by have := hu.1; have := hu.2.2.1; omega) hu.2.2.2
      · exact TS_next (hT s hs) hx
    · have := TS_next (hT s hs) hx
      exact this
theorem sum6_0 {f : Nat → Nat} (h : ∀ s, s < 6 → f s = 0) : sum6 f = 0 := by
  unfold sum6; rw [h 0 (by omega), h 1 (by omega), h 2 (by omega), h 3 (by omega), h 4 (by omega), h 5 (by omega)]
theorem triR_end {h : Nat} (hh : h ≤ 7) : ∀ (k : Nat) (q : Nt × (Nat → Option Nat)), (∀ s, s < 6 → okSt (q.1.1 s) q.1.2.2) → (∀ s, s < 6 → TS h q.1.2.2 (q.1.1 s)) → 22 ≤ q.1.2.2 + k → keptA (triR k q).1 = 0
  | 0, q, _, hT, hk => by
    unfold triR
    refine sum6_0 (fun s hs => ?_)
    cases hl : (q.1.1 s).2.2.1 with
    | nil => rfl
    | cons x t =>
      have := (hT s hs).1 x (by rw [hl]; simp)
      omega
  | k + 1, q, hok, hT, hk => by
    unfold triR
    split
    · assumption
    · exact triR_end hh k _ (fun s hs => okSt_tckS hok hs) (fun s hs => TS_tckS hok hT hs) (by show 22 ≤ q.1.2.2 + 1 + k; omega)
theorem tri0_ok {n : Nt} {w : Option Nat} {s h : Nat} {f : Nm} (hok : okNt n) (hs : s < 6) (hf : okL 3 f) (h1 : 1 ≤ h) (h7 : h ≤ 7) : (∀ j, j < 6 → okSt ((tri0 n w s f h).1 j) 0) ∧ (∀ j, j < 6 → TS h 0 ((tri0 n w s f h).1 j)) ∧ (∀ j, j < 6 → HL ((tri0 n w s f h).1 j)) ∧ okP ((n.1 s).1.1, [1], [(f, h, false)]) := by
  have hp : okP ((n.1 s).1.1, [1], [(f, h, false)]) := ⟨(hok.1 s hs).1.1, ⟨(by show 1 ≤ 1; omega), (by show 1 ≤ 4; omega), fun x hx => by rw [List.mem_singleton.mp hx]; decide⟩, by show 1 ≤ 8; omega, fun x hx => by rw [List.mem_singleton.mp hx]; exact ⟨hf, h7⟩⟩
  have h0 : ∀ j, j < 6 → okSt ((triN n w).1 j) 0 := fun j hj => ⟨(hok.1 j hj).1, fun _ _ => Nat.le_refl 0, ⟨Nat.zero_le _, fun q hq => (by cases hq)⟩, ⟨Nat.zero_le _, fun q hq => (by cases hq), List.Pairwise.nil⟩, fun p t e => by cases e⟩
  refine ⟨fun j hj => ?_, fun j hj => ?_, fun j hj => ?_, hp⟩
  · show okSt (upS _ s _ j) 0
    unfold upS
    split
    · exact okSt_orig (h0 s hs) hp (by show 0 < 12; omega)
    · exact h0 j hj
  · show TS h 0 (upS _ s _ j)
    unfold upS
    split
    · refine ⟨fun q hq => ?_, List.pairwise_singleton _ _⟩
      rw [List.mem_singleton.mp hq]
      refine ⟨Nat.le_refl 0, ?_, ?_, fun x hx _ => ?_⟩
      · show 0 < 0 + (n.1 s).1.2.2.2.2.1
        have := (hok.1 s hs).1.2.2.2.2.1.1; omega
      · show 0 + 3 * (h + 0) ≤ 3 * h; omega
      · rw [List.mem_singleton.mp hx]; exact h1
    · exact ⟨fun q hq => (by cases hq), List.Pairwise.nil⟩
  · show HL (upS _ s _ j)
    unfold upS HL
    split
    · show 0 < 0 ↔ (none : Option (Pk × Nat)).isSome = true; simp
    · show 0 < 0 ↔ (none : Option (Pk × Nat)).isSome = true; simp
theorem tri_end {n : Nt} {w : Option Nat} {s h : Nat} {f : Nm} (hok : okNt n) (hs : s < 6) (hf : okL 3 f) (h1 : 1 ≤ h) (h7 : h ≤ 7) : keptA (tri n w s f h).1 = 0 := by
  obtain ⟨a1, a2, a3, a4⟩ := tri0_ok (w := w) hok hs hf h1 h7
  exact triR_end h7 30 _ a1 a2 (by show 22 ≤ 0 + 30; omega)
