theorem okSe_chg {se : Se} {p p' : Pk} {i : Nat} (hse : okSe se) (hp : okP p) (h : chg se p i = some p') : okP p' := by
  unfold chg at h
  cases hw : p.2.2[i]? with
  | none => rw [hw] at h; cases h
  | some w =>
    rw [hw] at h
    simp only at h
    have hil := gl_lt hw
    have hwk := hp.2.2.2 w (gl_mem hw)
    have hsp : okW (se.1, 0, true) := ⟨hse.1, by show 0 ≤ 7; omega⟩
    have hset : ∀ w', okW w' → okP (p.1, p.2.1, p.2.2.set i w') := fun w' hw' => ⟨hp.1, hp.2.1, by show (p.2.2.set i w').length ≤ 8; rw [List.length_set]; exact hp.2.2.1, fun x hx => by
      rcases List.mem_or_eq_of_mem_set hx with h | h
      · exact hp.2.2.2 x h
      · rw [h]; exact hw'⟩
    have hnw : okW (w.1, min w.2.1 se.2.2.2.1 - 1, w.2.2) := ⟨hwk.1, by show _ - 1 ≤ 7; have := hwk.2; omega⟩
    split at h
    · cases h; exact hset _ hsp
    · split at h
      · cases h
      · split at h
        · cases h; exact hset _ hsp
        · split at h
          · rename_i h8
            cases h
            refine ⟨hp.1, hp.2.1, ?_, fun x hx => ?_⟩
            · show (p.2.2.take i ++ (se.1, 0, true) :: (w.1, min w.2.1 se.2.2.2.1 - 1, w.2.2) :: p.2.2.drop (i + 1)).length ≤ 8
              simp; omega
            · rcases List.mem_append.mp hx with h | h
              · exact hp.2.2.2 x (List.mem_of_mem_take h)
              · rcases List.mem_cons.mp h with h | h
                · rw [h]; exact hsp
                · rcases List.mem_cons.mp h with h | h
                  · rw [h]; exact hnw
                  · exact hp.2.2.2 x (List.mem_of_mem_drop h)
          · cases h; exact hset _ hnw
theorem okKn_mono {l : Kn} {now now' : Nat} (h : okKn l now) (hn : now ≤ now') : okKn l now' := ⟨h.1, fun q hq => ⟨(h.2.1 q hq).1, (h.2.1 q hq).2.1, Nat.le_trans (h.2.1 q hq).2.2 hn⟩, h.2.2⟩
theorem okKp_mono {l : Kp} {now now' : Nat} (h : okKp l now) (hn : now ≤ now') : okKp l now' := ⟨h.1, fun q hq => ⟨(h.2 q hq).1, by have := (h.2 q hq).2; omega⟩⟩
theorem okKn_old {l : Kn} {now : Nat} (w : Nat) (h : okKn l now) : okKn (knOld l now w) now := ⟨Nat.le_trans (List.length_filter_le _ _) h.1, fun q hq => h.2.1 q (List.mem_filter.mp hq).1, h.2.2.filter _⟩
theorem okKn_erase {l : Kn} {now : Nat} (i : Nat) (h : okKn l now) : okKn (l.eraseIdx i) now := ⟨Nat.le_trans (List.length_eraseIdx_le _ _) h.1, fun q hq => h.2.1 q (List.mem_of_mem_eraseIdx hq), h.2.2.sublist (List.eraseIdx_sublist _ _)⟩
theorem okKn_add {l : Kn} {now : Nat} {p : Pk} (h : okKn l now) (hp : okP p) (hno : ∀ q ∈ l, ¬ (q.1 = p.1 ∧ q.2.1 = p.2.1)) : okKn (knAdd l p now) now := by
  unfold knAdd
  have key : ∀ l' : Kn, okKn l' now → l'.length ≤ 15 → (∀ q ∈ l', ¬ (q.1 = p.1 ∧ q.2.1 = p.2.1)) → okKn (l' ++ [(p.1, p.2.1, now)]) now := by
    intro l' h' hl hn'
    refine ⟨by simp; omega, fun q hq => ?_, ?_⟩
    · rcases List.mem_append.mp hq with e | e
      · exact h'.2.1 q e
      · rw [List.mem_singleton.mp e]; exact ⟨hp.1, hp.2.1, Nat.le_refl _⟩
    · rw [List.pairwise_append]
      refine ⟨h'.2.2, List.pairwise_singleton _ _, fun x hx y hy => ?_⟩
      rw [List.mem_singleton.mp hy]; exact hn' x hx
  split
  · rename_i h16
    refine key _ (okKn_erase 0 h) (by rw [List.length_eraseIdx_of_lt (by omega)]; have := h.1; omega) (fun q hq => hno q (List.mem_of_mem_eraseIdx hq))
  · exact key _ h (by omega) hno
theorem knIx_no {l : Kn} {p : Pk} (h : ¬ knIx l p < l.length) : ∀ q ∈ l, ¬ (q.1 = p.1 ∧ q.2.1 = p.2.1) := by
  intro q hq ⟨e1, e2⟩
  apply h
  unfold knIx
  exact List.findIdx_lt_length_of_exists ⟨q, hq, by simp [e1, e2]⟩
theorem knIx_pw {l : Kn} {p : Pk} (h : l.Pairwise (fun x y => ¬ (x.1 = y.1 ∧ x.2.1 = y.2.1))) : ∀ q ∈ l.eraseIdx (knIx l p), ¬ (q.1 = p.1 ∧ q.2.1 = p.2.1) := by
  intro q hq ⟨e1, e2⟩
  obtain ⟨j, hj⟩ := List.getElem?_of_mem hq
  rw [List.getElem?_eraseIdx] at hj
  have pw := List.pairwise_iff_getElem.mp h
  by_cases hk : knIx l p < l.length
  · obtain ⟨x, hx, hxp⟩ := fi_lt (l := l) (p := fun q => q.1 == p.1 && q.2.1 == p.2.1) hk
    have hx : l[knIx l p]? = some x := hx
    simp only [Bool.and_eq_true, beq_iff_eq] at hxp
    obtain ⟨g1, g2⟩ := List.getElem?_eq_some_iff.mp hx
    by_cases hjk : j < knIx l p
    · rw [if_pos hjk] at hj
      obtain ⟨f1, f2⟩ := List.getElem?_eq_some_iff.mp hj
      have := pw j (knIx l p) f1 g1 hjk
      rw [f2, g2] at this
      exact this ⟨e1.trans hxp.1.symm, e2.trans hxp.2.symm⟩
    · rw [if_neg hjk] at hj
      obtain ⟨f1, f2⟩ := List.getElem?_eq_some_iff.mp hj
      have := pw (knIx l p) (j + 1) g1 f1 (by omega)
      rw [f2, g2] at this
      exact this ⟨hxp.1.trans e1.symm, hxp.2.trans e2.symm⟩
  · have := knIx_no hk q (List.mem_of_mem_eraseIdx hq)
    exact this ⟨e1, e2⟩
theorem bump_le {t : Nat → Nat} {w v c : Nat} (h : t v ≤ c) : bump t w v ≤ c + 1 := by unfold bump; split <;> omega
theorem bump_ne {t : Nat → Nat} {w v : Nat} (h : v ≠ w) : bump t w v = t v := by unfold bump; rw [if_neg h]
theorem okSt_mono {st : St} {now now' : Nat} (h : okSt st now) (hn : now ≤ now') : okSt st now' := ⟨h.1, fun w hw => Nat.le_trans (h.2.1 w hw) hn, okKp_mono h.2.2.1 hn, okKn_mono h.2.2.2.1 hn, fun p t e => ⟨(h.2.2.2.2 p t e).1, by have := (h.2.2.2.2 p t e).2; omega⟩⟩
theorem okSt_aft {st : St} {now : Nat} (h : okSt st now) : okSt (aftS st now) (now + 1) := by
  unfold aftS
  split
  · refine ⟨h.1, fun w hw => bump_le (h.2.1 w hw), ?_, okKn_mono h.2.2.2.1 (by omega), fun p t e => ⟨(h.2.2.2.2 p t e).1, by have := (h.2.2.2.2 p t e).2; omega⟩⟩
    have := okKp_mono h.2.2.1 (show now ≤ now + 1 by omega)
    exact ⟨Nat.le_trans (List.length_eraseIdx_le _ _) this.1, fun q hq => this.2 q (List.mem_of_mem_eraseIdx hq)⟩
  · exact okSt_mono h (by omega)
theorem okSt_hears {st : St} {p : Pk} {now : Nat} (h : okSt st now) (hp : okP p) : okSt (hears st p now) (now + 1) := by
  have hk := okKn_old st.1.2.2.2.2.2 h.2.2.2.1
  have hl : ∀ p' t, some (p, now) = some (p', t) → okP p' ∧ t < now + 1 := fun p' t e => by cases e; exact ⟨hp, by omega⟩
  have hkp := okKp_mono h.2.2.1 (show now ≤ now + 1 by omega)
  have b1 : ∀ w v, w < 9 → v ≠ 1 → bump (bump st.2.1 1) v w ≤ now + 1 := fun w v hw hv => by
    by_cases e : w = v
    · subst e
      have := h.2.1 w hw
      show bump (bump st.2.1 1) w w ≤ _
      unfold bump; rw [if_pos rfl, if_neg hv]; omega
    · rw [bump_ne e]; exact bump_le (h.2.1 w hw)
  unfold hears look
  simp only
  split
  · exact ⟨h.1, fun w hw => b1 w 2 hw (by omega), hkp, okKn_mono hk (by omega), hl⟩
  · split
    · exact ⟨h.1, fun w hw => b1 w 3 hw (by omega), hkp, okKn_mono hk (by omega), hl⟩
    · rename_i hno
      have hadd := okKn_mono (okKn_add hk hp (knIx_no hno)) (show now ≤ now + 1 by omega)
      split
      · exact ⟨h.1, fun w hw => b1 w 4 hw (by omega), hkp, hadd, hl⟩
      · split
        · exact ⟨h.1, fun w hw => b1 w 6 hw (by omega), hkp, hadd, hl⟩
        · rename_i p' hc
          have hp' := okSe_chg h.1 hp hc
          split
          · rename_i h12
            refine ⟨h.1, fun w hw => b1 w 5 hw (by omega), ⟨by simp; omega, fun q hq => ?_⟩, hadd, hl⟩
            rcases List.mem_append.mp hq with e | e
            · exact hkp.2 q e
            · rw [List.mem_singleton.mp e]
              exact ⟨hp', by show now + st.1.2.2.2.2.1 ≤ now + 1 + 3; have := h.1.2.2.2.2.1.2; omega⟩
          · refine ⟨h.1, fun w hw => ?_, hkp, hadd, hl⟩
            by_cases e : w = 8
            · subst e
              have := h.2.1 8 (by omega)
              show bump (bump (bump st.2.1 1) 5) 8 8 ≤ _
              simp [bump]; omega
            · show bump (bump (bump st.2.1 1) 5) 8 w ≤ _
              rw [bump_ne e]; exact b1 w 5 hw (by omega)
theorem sentP_ok {st : St} {p : Pk} {now : Nat} (h : okSt st now) (hp : sentP st now = some p) : okP p := by
  unfold sentP at hp
  cases hx : st.2.2.1[duIx st.2.2.1 now]? with
  | none => rw [hx] at hp; cases hp
  | some u => rw [hx] at hp; cases hp; exact (h.2.2.1.2 u (gl_mem hx)).1
theorem okSt_tckS {n : Nt} (h : ∀ s, s < 6 → okSt (n.1 s) n.2.2) {s : Nat} (hs : s < 6) : okSt (tckS n s) (n.2.2 + 1) := by
  unfold tckS
  split
  · exact okSt_aft (h s hs)
  · split
    · exact okSt_mono (h s hs) (by omega)
    · rename_i q hq
      split
      · rename_i p hp
        have hq6 : q < 6 := by
          have : q ∈ audi n s := by rw [hq]; simp
          exact List.mem_range.mp (List.mem_filter.mp this).1
        exact okSt_hears (h s hs) (sentP_ok (h q hq6) hp)
      · exact okSt_mono (h s hs) (by omega)
    · have := h s hs
      exact ⟨this.1, fun w hw => bump_le (this.2.1 w hw), okKp_mono this.2.2.1 (by omega), okKn_mono this.2.2.2.1 (by omega), fun p t e => ⟨(this.2.2.2.2 p t e).1, by have := (this.2.2.2.2 p t e).2; omega⟩⟩
theorem tckS_se (n : Nt) (s : Nat) : (tckS n s).1 = (n.1 s).1 := by
  unfold tckS aftS hears look
  simp only
  repeat (first | rfl | split)
theorem okNt_tck {n : Nt} (h : okNt n) : okNt (tck n) := ⟨fun s hs => okSt_tckS h.1 hs, fun s t hs ht e => h.2 s t hs ht (by
  have e1 := congrArg (fun q : Se => q.1) (tckS_se n s)
  have e2 := congrArg (fun q : Se => q.1) (tckS_se n t)
  exact e1.symm.trans (Eq.trans e e2))⟩
theorem okSt_orig {st : St} {p : Pk} {now : Nat} (h : okSt st now) (hp : okP p) (h12 : st.2.2.1.length < 12) : okSt (orig st p now) now := by
  refine ⟨h.1, h.2.1, ⟨?_, fun q hq => ?_⟩, okKn_add (okKn_erase _ h.2.2.2.1) hp (knIx_pw h.2.2.2.1.2.2), h.2.2.2.2⟩
  · show (st.2.2.1 ++ [(p, now)]).length ≤ 12
    simp; omega
  · rcases List.mem_append.mp hq with e | e
    · exact h.2.2.1.2 q e
    · rw [List.mem_singleton.mp e]; exact ⟨hp, by show now ≤ now + 3; omega⟩
