theorem okG.mono {n : Nt} {N N' : Nat} (h : okG n N) (hN : N ≤ N') : okG n N' := ⟨h.1, h.2.1, Nat.le_trans h.2.2 hN⟩
theorem okA.mono {σ : Al} {N N' : Nat} (h : okA σ N) (hN : N ≤ N') : okA σ N' := ⟨h.1, h.2.1.mono hN, fun k hk n e => (h.2.2 k hk n e).mono hN⟩
theorem okA.noP {σ : Al} {N : Nat} (h : okA σ N) : okA (noP σ) N := ⟨⟨Nat.zero_le _, fun x hx => by cases hx⟩, h.2⟩
theorem okA.net {σ : Al} {N : Nat} {n : Nt} (h : okA σ N) (hn : okG n N) : okA (σ.1, n, σ.2.2) N := ⟨h.1, hn, h.2.2⟩
theorem okG.st {n : Nt} {N k : Nat} {st : St} (h : okG n N) (hS : okSt st n.2.2) (hH : HL st) (hd : ∀ t, t < 6 → t ≠ k → (n.1 t).1.1 ≠ st.1.1) : okG (upS n.1 k st, n.2) N := by
  refine ⟨⟨fun s hs => ?_, fun s t hs ht e => ?_⟩, fun s hs => ?_, h.2.2⟩
  · show okSt (upS n.1 k st s) n.2.2
    unfold upS; split
    · exact hS
    · exact h.1.1 s hs
  · have e : (upS n.1 k st s).1.1 = (upS n.1 k st t).1.1 := e
    unfold upS at e
    by_cases e1 : s = k
    · by_cases e2 : t = k
      · omega
      · rw [if_pos e1, if_neg e2] at e
        exact absurd e.symm (hd t ht e2)
    · by_cases e2 : t = k
      · rw [if_neg e1, if_pos e2] at e
        exact absurd e (hd s hs e1)
      · rw [if_neg e1, if_neg e2] at e
        exact h.1.2 s t hs ht e
  · show HL (upS n.1 k st s)
    unfold upS; split
    · exact hH
    · exact h.2.1 s hs
theorem okG.st' {n : Nt} {N k : Nat} {st : St} (h : okG n N) (hk : k < 6) (hS : okSt st n.2.2) (hH : HL st) (hd : st.1.1 = (n.1 k).1.1) : okG (upS n.1 k st, n.2) N := h.st hS hH (fun t ht hne e => hne (h.1.2 t k ht hk (by rw [e, hd])))
theorem okA.st' {σ : Al} {N k : Nat} {st : St} (h : okA σ N) (hk : k < 6) (hS : okSt st σ.2.1.2.2) (hH : HL st) (hd : st.1.1 = (stA σ k).1.1) : okA (upA σ k st) N := h.net (h.2.1.st' hk hS hH hd)
theorem ok_say {σ : Al} {N : Nat} (h : okA σ N) (x : Int32) : okA (sp_say σ x).2 N := by
  unfold sp_say
  split
  · rename_i hin
    split
    · exact h
    · rename_i h40
      obtain ⟨k, k1, k2, rfl⟩ := inB_ex (by omega) hin (by omega)
      refine ⟨⟨?_, fun y hy => ?_⟩, h.2⟩
      · show (σ.1 ++ [_]).length ≤ 40
        rw [List.length_append]; have := h.1.1; show σ.1.length + 1 ≤ 40; omega
      · rcases List.mem_append.mp hy with e | e
        · exact h.1.2 y e
        · rw [List.mem_singleton.mp e, sk_nI (by omega)]; exact ⟨k1, k2⟩
  · exact h
theorem okSe.st {σ : Al} {N k : Nat} {se' : Se} (h : okA σ N) (hk : k < 6) (hse : okSe se') (hd : se'.1 = (stA σ k).1.1) : okA (upA σ k (se', (stA σ k).2)) N := h.st' hk ⟨hse, (h.2.1.1.1 k hk).2⟩ (h.2.1.2.1 k hk) hd
theorem ok_name {σ : Al} {N : Nat} (h : okA σ N) (s w : Int32) : okA (sp_name σ s w).2 N := by
  unfold sp_name
  split
  · exact h
  rename_i hb
  split
  · exact h
  split
  · exact h
  rename_i nm hp
  have hnm := prsN_ok hp
  obtain ⟨k, hk, rfl⟩ := st_ex (by simpa using hb)
  rw [sk_nI (by omega)]
  have hse := (h.2.1.1.1 k hk).1
  split
  · split
    · exact h
    · rename_i hno
      refine okA.noP ?_
      refine h.net (h.2.1.st ⟨⟨hnm, hse.2⟩, (h.2.1.1.1 k hk).2⟩ (h.2.1.2.1 k hk) (fun t ht hne e => hno ⟨t, ht, hne, e⟩))
  · split
    · split
      · exact h
      · rename_i h2
        refine okA.noP (okSe.st h hk ⟨hse.1, ⟨?_, fun x hx => ?_⟩, hse.2.2⟩ rfl)
        · show (_ ++ [_]).length ≤ 2; rw [List.length_append]; show (stA σ k).1.2.1.length + 1 ≤ 2; omega
        · rcases List.mem_append.mp hx with e | e
          · exact hse.2.1.2 x e
          · rw [List.mem_singleton.mp e]; exact hnm
    · split
      · exact h
      · rename_i h2
        refine okA.noP (okSe.st h hk ⟨hse.1, hse.2.1, ⟨?_, fun x hx => ?_⟩, hse.2.2.2⟩ rfl)
        · show (_ ++ [_]).length ≤ 2; rw [List.length_append]; show (stA σ k).1.2.2.1.length + 1 ≤ 2; omega
        · rcases List.mem_append.mp hx with e | e
          · exact hse.2.2.1.2 x e
          · rw [List.mem_singleton.mp e]; exact hnm
theorem ok_forget {σ : Al} {N : Nat} (h : okA σ N) (s w : Int32) : okA (sp_forget σ s w).2 N := by
  unfold sp_forget
  split
  · exact h
  rename_i hb
  obtain ⟨k, hk, rfl⟩ := st_ex (by simpa using hb)
  rw [sk_nI (by omega)]
  have hse := (h.2.1.1.1 k hk).1
  split
  · exact h
  split
  · exact okSe.st h hk ⟨hse.1, ⟨Nat.zero_le _, fun x hx => by cases hx⟩, hse.2.2⟩ rfl
  · exact okSe.st h hk ⟨hse.1, hse.2.1, ⟨Nat.zero_le _, fun x hx => by cases hx⟩, hse.2.2.2⟩ rfl
theorem ok_set {σ : Al} {N : Nat} (h : okA σ N) (s w n : Int32) : okA (sp_set σ s w n).2 N := by
  unfold sp_set
  split
  · exact h
  rename_i hb
  obtain ⟨k, hk, rfl⟩ := st_ex (by simpa using hb)
  rw [sk_nI (by omega)]
  have hse := (h.2.1.1.1 k hk).1
  split
  · exact h
  rename_i hg
  have hg : stg w n = true := by simpa using hg
  unfold stg at hg
  simp only [Bool.or_eq_true, Bool.and_eq_true, decide_eq_true_eq] at hg
  rcases hg with ⟨rfl, hn⟩ | ⟨rfl, hn⟩ | ⟨rfl, hn⟩
  · obtain ⟨v, v1, v2, rfl⟩ := inB_ex (by omega) hn (by omega)
    rw [if_pos rfl, sk_nI (by omega)]
    exact okSe.st h hk ⟨hse.1, hse.2.1, hse.2.2.1, ⟨v1, v2⟩, hse.2.2.2.2⟩ rfl
  · obtain ⟨v, v1, v2, rfl⟩ := inB_ex (by omega) hn (by omega)
    rw [if_neg (by decide), if_pos rfl, sk_nI (by omega)]
    exact okSe.st h hk ⟨hse.1, hse.2.1, hse.2.2.1, hse.2.2.2.1, ⟨v1, v2⟩, hse.2.2.2.2.2⟩ rfl
  · obtain ⟨v, v1, v2, rfl⟩ := inB_ex (by omega) hn (by omega)
    rw [if_neg (by decide), if_neg (by decide), sk_nI (by omega)]
    exact okSe.st h hk ⟨hse.1, hse.2.1, hse.2.2.1, hse.2.2.2.1, hse.2.2.2.2.1, v2⟩ rfl
theorem ok_near {σ : Al} {N : Nat} (h : okA σ N) (i j v : Int32) : okA (sp_near σ i j v).2 N := by
  unfold sp_near
  split
  · exact h
  split
  · exact h
  exact h.net ⟨⟨h.2.1.1.1, h.2.1.1.2⟩, h.2.1.2.1, h.2.1.2.2⟩
theorem ok_run {σ : Al} {N : Nat} (h : okA σ N) (n : Int32) : okA (sp_run σ n).2 (N + 50) := by
  unfold sp_run
  split
  · exact h.mono (by omega)
  rename_i hn
  obtain ⟨c, c1, c2, rfl⟩ := inB_ex (a := 1) (b := 50) (by omega) (by simpa using hn) (by omega)
  rw [sk_nI (by omega)]
  have key : ∀ (c : Nat) (n : Nt) (N : Nat), okG n N → okG (tcks c n) (N + c) := by
    intro c
    induction c with
    | zero => intro n N h; exact h
    | succ c ih =>
      intro n N h
      have := ih (tck n) (N + 1) ⟨okNt_tck h.1, fun s hs => HL_tckS (h.2.1 s hs), by show n.2.2 + 1 ≤ _; have := h.2.2; omega⟩
      exact this.mono (by omega)
  exact (h.mono (by omega)).net ((key c σ.2.1 N h.2.1).mono (by omega))
theorem ok_image {σ : Al} {N : Nat} (h : okA σ N) (k : Int32) : okA (sp_image σ k).2 N := by
  unfold sp_image
  split
  · exact h
  refine ⟨h.1, h.2.1, fun j hj n e => ?_⟩
  have e : (if j = sk k then some σ.2.1 else σ.2.2 j) = some n := e
  split at e
  · cases e; exact h.2.1
  · exact h.2.2 j hj n e
theorem ok_restore {σ : Al} {N : Nat} (h : okA σ N) (k : Int32) : okA (sp_restore σ k).2 N := by
  unfold sp_restore
  split
  · exact h
  rename_i hin
  obtain ⟨j, j1, j2, rfl⟩ := inB_ex (a := 0) (b := 1) (by omega) (by simpa using hin) (by omega)
  rw [sk_nI (by omega)]
  split
  · exact h
  · rename_i n e
    exact h.net (h.2.2 j (by omega) n e)
theorem rdWs_ok {P : List Nat} : ∀ (k : Nat) {q : Nat} {ws : List Wd} {j : Nat}, rdWs k P q = (some ws, j) → ws.length ≤ k ∧ ∀ w ∈ ws, okW w
  | 0, q, ws, j, h => by
    have h : (some [], q) = (some ws, j) := h
    cases h
    exact ⟨Nat.le_refl _, fun w hw => by cases hw⟩
  | k + 1, q, ws, j, h => by
    unfold rdWs at h
    split at h
    · cases h
    · rename_i w j' hr
      have hw := rdW_ok hr
      split at h
      · cases hq : rdWs k P (j' + 1) with
        | mk r j2 =>
          rw [hq] at h
          cases r with
          | none => cases h
          | some ws' =>
            obtain ⟨i1, i2⟩ := rdWs_ok k hq
            cases h
            exact ⟨Nat.succ_le_succ i1, fun v hv => by rcases List.mem_cons.mp hv with e | e; (rw [e]; exact hw); exact i2 v e⟩
      · cases h
        exact ⟨by show 1 ≤ k + 1; omega, fun v hv => by rw [List.mem_singleton.mp hv]; exact hw⟩
theorem prs_ok {P : List Nat} {p : Pk} (h : prs P = .inr p) : okP p := by
  unfold prs at h
  simp only at h
  split at h
  · cases h
  rename_i hne
  split at h
  · cases h
  split at h
  · cases h
  · rename_i ws j hr
    have hws : ws.length ≤ 8 ∧ ∀ w ∈ ws, okW w := by
      split at hr
      · cases hr; exact ⟨Nat.zero_le _, fun w hw => by cases hw⟩
      · have := rdWs_ok 5 hr; exact ⟨by omega, this.2⟩
    split at h
    · cases h
    split at h
    · cases h
    · rename_i h4
      cases h
      exact ⟨lets_okL hne, lets_okL (fun e => h4 (Or.inl e)), hws⟩
theorem ok_send {σ : Al} {N : Nat} (h : okA σ N) (s : Int32) : okA (sp_send σ s).2 N := by
  unfold sp_send
  split
  · exact h
  rename_i hb
  obtain ⟨k, hk, rfl⟩ := st_ex (by simpa using hb)
  rw [sk_nI (by omega)]
  split
  · exact h
  · rename_i p hp
    split
    · exact h
    · rename_i h12
      exact okA.noP (h.st' hk (okSt_orig (h.2.1.1.1 k hk) (prs_ok hp) (by show (stA σ k).2.2.1.length < 12; omega)) (h.2.1.2.1 k hk) rfl)
theorem ok_al0 : okA al0 0 := by
  refine ⟨⟨Nat.zero_le _, fun x hx => by cases hx⟩, ⟨⟨fun s hs => ⟨⟨⟨Nat.le_refl _, ?_, fun x hx => ?_⟩, ⟨Nat.zero_le _, fun x hx => by cases hx⟩, ⟨Nat.zero_le _, fun x hx => by cases hx⟩, ⟨?_, ?_⟩, ⟨?_, ?_⟩, ?_⟩, fun w hw => Nat.le_refl _, ⟨Nat.zero_le _, fun x hx => by cases hx⟩, ⟨Nat.zero_le _, fun x hx => (by cases hx), List.Pairwise.nil⟩, fun p t e => (by cases e)⟩, fun s t hs ht e => ?_⟩, fun s hs => ?_, Nat.le_refl _⟩, fun k hk n e => by cases e⟩
  · show 1 ≤ 3; omega
  · have hx : x ∈ [s + 1] := hx
    rw [List.mem_singleton.mp hx]; omega
  · show 1 ≤ 3; omega
  · show 3 ≤ 7; omega
  · show 1 ≤ 1; omega
  · show 1 ≤ 3; omega
  · show 10 ≤ 60; omega
  · have e : [s + 1] = [t + 1] := e
    have := List.cons.inj e
    omega
  · show 0 < 0 ↔ (none : Option (Pk × Nat)).isSome = true
    simp
