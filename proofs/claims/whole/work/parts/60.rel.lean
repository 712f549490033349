/-! THE REFERENCE: what lies where in its row of numbers; ow: whose place it is -/
def ow (i : Nat) : Nat := if i < 6 then i else if i < 18 then (i - 6) / 2 else if i < 24 then i - 18 else if i < 36 then (i - 24) / 2 else if i < 42 then i - 36 else if i < 48 then i - 42 else if i < 54 then i - 48 else if i < 60 then i - 54 else if i < 96 then 6 else if i < 150 then i % 6 else if i < 156 then i - 150 else if i < 1020 then (i - 156) / 144 else if i < 1026 then i - 1020 else if i < 1314 then (i - 1026) / 48 else if i < 1380 then (i - 1314) / 11 else if i < 1386 then i - 1380 else 7
theorem ow_se {s i : Nat} (hs : s < 6) (h : i = s ∨ (6 + 2 * s ≤ i ∧ i < 8 + 2 * s) ∨ i = 18 + s ∨ (24 + 2 * s ≤ i ∧ i < 26 + 2 * s) ∨ i = 36 + s ∨ i = 42 + s ∨ i = 48 + s ∨ i = 54 + s) : ow i = s ∧ i < 60 := by
  refine ⟨?_, by omega⟩
  unfold ow
  rcases h with h | h | h | h | h | h | h | h
  · rw [if_pos (by omega)]; omega
  · rw [if_neg (by omega), if_pos (by omega)]; omega
  · rw [if_neg (by omega), if_neg (by omega), if_pos (by omega)]; omega
  · rw [if_neg (by omega), if_neg (by omega), if_neg (by omega), if_pos (by omega)]; omega
  · rw [if_neg (by omega), if_neg (by omega), if_neg (by omega), if_neg (by omega), if_pos (by omega)]; omega
  · rw [if_neg (by omega), if_neg (by omega), if_neg (by omega), if_neg (by omega), if_neg (by omega), if_pos (by omega)]; omega
  · rw [if_neg (by omega), if_neg (by omega), if_neg (by omega), if_neg (by omega), if_neg (by omega), if_neg (by omega), if_pos (by omega)]; omega
  · rw [if_neg (by omega), if_neg (by omega), if_neg (by omega), if_neg (by omega), if_neg (by omega), if_neg (by omega), if_neg (by omega), if_pos (by omega)]; omega
theorem ow_ta {s w : Nat} (hs : s < 6) (hw : w < 9) : ow (96 + 6 * w + s) = s := by
  unfold ow
  rw [if_neg (by omega), if_neg (by omega), if_neg (by omega), if_neg (by omega), if_neg (by omega), if_neg (by omega), if_neg (by omega), if_neg (by omega), if_neg (by omega), if_pos (by omega)]
  omega
theorem ow_kp {s i : Nat} (hs : s < 6) (h : i = 150 + s ∨ (156 + 144 * s ≤ i ∧ i < 300 + 144 * s)) : ow i = s ∧ 150 ≤ i ∧ i < 1020 := by
  refine ⟨?_, by omega⟩
  unfold ow
  rw [if_neg (by omega), if_neg (by omega), if_neg (by omega), if_neg (by omega), if_neg (by omega), if_neg (by omega), if_neg (by omega), if_neg (by omega), if_neg (by omega), if_neg (by omega)]
  (repeat' split) <;> omega
theorem ow_kn {s i : Nat} (hs : s < 6) (h : i = 1020 + s ∨ (1026 + 48 * s ≤ i ∧ i < 1074 + 48 * s)) : ow i = s ∧ 1020 ≤ i ∧ i < 1314 := by
  refine ⟨?_, by omega⟩
  unfold ow
  rw [if_neg (by omega), if_neg (by omega), if_neg (by omega), if_neg (by omega), if_neg (by omega), if_neg (by omega), if_neg (by omega), if_neg (by omega), if_neg (by omega), if_neg (by omega), if_neg (by omega), if_neg (by omega)]
  (repeat' split) <;> omega
theorem ow_ls {s i : Nat} (hs : s < 6) (h : i = 1380 + s ∨ (1314 + 11 * s ≤ i ∧ i < 1325 + 11 * s)) : ow i = s ∧ 1314 ≤ i ∧ i < 1386 := by
  refine ⟨?_, by omega⟩
  unfold ow
  rw [if_neg (by omega), if_neg (by omega), if_neg (by omega), if_neg (by omega), if_neg (by omega), if_neg (by omega), if_neg (by omega), if_neg (by omega), if_neg (by omega), if_neg (by omega), if_neg (by omega), if_neg (by omega), if_neg (by omega), if_neg (by omega)]
  (repeat' split) <;> omega
theorem ow_nr {i : Nat} (h1 : 60 ≤ i) (h2 : i < 96) : ow i = 6 := by
  unfold ow
  rw [if_neg (by omega), if_neg (by omega), if_neg (by omega), if_neg (by omega), if_neg (by omega), if_neg (by omega), if_neg (by omega), if_neg (by omega), if_pos (by omega)]
theorem ow_now : ow 1386 = 7 := by decide
abbrev Rw : Type := Nat → Int32
def PkM (f : Rw) (b : Nat) (p : Pk) : Prop := f b = nI (en 27 p.1) ∧ f (b + 1) = nI (en 27 p.2.1) ∧ f (b + 2) = nI p.2.2.length ∧ ∀ i w, p.2.2[i]? = some w → f (b + 3 + i) = nI (wc 27 w)
def SeM (f : Rw) (s : Nat) (e : Se) : Prop := f s = nI (en 27 e.1) ∧ (f (18 + s) = nI e.2.1.length ∧ ∀ i x, e.2.1[i]? = some x → f (6 + 2 * s + i) = nI (en 27 x)) ∧ (f (36 + s) = nI e.2.2.1.length ∧ ∀ i x, e.2.2.1[i]? = some x → f (24 + 2 * s + i) = nI (en 27 x)) ∧ f (42 + s) = nI e.2.2.2.1 ∧ f (48 + s) = nI e.2.2.2.2.1 ∧ f (54 + s) = nI e.2.2.2.2.2
def TaM (f : Rw) (s : Nat) (t : Nat → Nat) : Prop := ∀ w, w < 9 → f (96 + 6 * w + s) = nI (t w)
def KpM (f : Rw) (s : Nat) (l : Kp) : Prop := f (150 + s) = nI l.length ∧ ∀ i q, l[i]? = some q → PkM f (156 + 12 * (12 * s + i)) q.1 ∧ f (156 + 12 * (12 * s + i) + 11) = nI q.2
def KnM (f : Rw) (s : Nat) (l : Kn) : Prop := f (1020 + s) = nI l.length ∧ ∀ i q, l[i]? = some q → f (1026 + 3 * (16 * s + i)) = nI (en 27 q.1) ∧ f (1026 + 3 * (16 * s + i) + 1) = nI (en 27 q.2.1) ∧ f (1026 + 3 * (16 * s + i) + 2) = nI q.2.2
def LsM (f : Rw) (s : Nat) (o : Option (Pk × Nat)) : Prop := ∀ q, o = some q → PkM f (1314 + 11 * s) q.1 ∧ f (1380 + s) = nI q.2
def StM (f : Rw) (s : Nat) (st : St) : Prop := SeM f s st.1 ∧ TaM f s st.2.1 ∧ KpM f s st.2.2.1 ∧ KnM f s st.2.2.2.1 ∧ LsM f s st.2.2.2.2
def NrM (f : Rw) (nr : Nat → Nat → Bool) : Prop := ∀ a b, a < 6 → b < 6 → f (60 + 6 * a + b) = nI (bn (nr a b))
def NtM (f : Rw) (n : Nt) : Prop := (∀ s, s < 6 → StM f s (n.1 s)) ∧ NrM f n.2.1 ∧ f 1386 = nI n.2.2
def LaM (f : Rw) (n : Nt) : Prop := ∀ s, s < 6 → (n.1 s).2.2.2.2 = none → f (1380 + s) = -6
def PdM (mi : MI) (o : Nat) (P : List Nat) : Prop := mi o 4 = nI P.length ∧ ∀ i x, P[i]? = some x → mi (o + 4) i = nI x
def RR (mi : MI) (o : Nat) (σ : Al) : Prop := PdM mi o σ.1 ∧ (NtM (mi (o + 1)) σ.2.1 ∧ LaM (mi (o + 1)) σ.2.1) ∧ ∀ k, k < 2 → mi (o + 3) k = b2 (σ.2.2 k).isSome ∧ ∀ n, σ.2.2 k = some n → NtM (fun i => mi (o + 2) (1387 * k + i)) n ∧ LaM (fun i => mi (o + 2) (1387 * k + i)) n
/-- only places of station s between lo and hi may differ -/
def Fr (s lo hi : Nat) (f g : Rw) : Prop := ∀ i, ¬ (ow i = s ∧ lo ≤ i ∧ i < hi) → g i = f i
theorem Fr.rf {s lo hi : Nat} {f : Rw} : Fr s lo hi f f := fun _ _ => rfl
theorem Fr.tr {s lo hi : Nat} {f g h : Rw} (h1 : Fr s lo hi f g) (h2 : Fr s lo hi g h) : Fr s lo hi f h := fun i hi => (h2 i hi).trans (h1 i hi)
theorem Fr.wd {s lo hi lo' hi' : Nat} {f g : Rw} (h1 : Fr s lo hi f g) (a : lo' ≤ lo) (b : hi ≤ hi') : Fr s lo' hi' f g := fun i hi => h1 i (fun q => hi ⟨q.1, by omega, by omega⟩)
theorem Fr.out {s lo hi i : Nat} {f g : Rw} (h : Fr s lo hi f g) (hi' : i < lo ∨ hi ≤ i) : g i = f i := h i (by omega)
theorem Fr.oth {s lo hi i : Nat} {f g : Rw} (h : Fr s lo hi f g) (hi' : ow i ≠ s) : g i = f i := h i (fun q => hi' q.1)
theorem Fr.up {s lo hi k a : Nat} {v : Int32} {m : MI} (h1 : ow k = s) (h2 : lo ≤ k) (h3 : k < hi) : Fr s lo hi (m a) (up2 m a k v a) := fun i hi => up2_ne _ _ (Or.inr (fun e => hi (by subst e; exact ⟨h1, h2, h3⟩)))
theorem PkM.move {f g : Rw} {b c : Nat} {p : Pk} (h : PkM f b p) (hp : p.2.2.length ≤ 8) (hx : ∀ j, j < 11 → g (c + j) = f (b + j)) : PkM g c p := by
  refine ⟨?_, ?_, ?_, fun i w hi => ?_⟩
  · have := hx 0 (by omega); rw [Nat.add_zero, Nat.add_zero] at this; rw [this]; exact h.1
  · rw [hx 1 (by omega)]; exact h.2.1
  · rw [hx 2 (by omega)]; exact h.2.2.1
  · have hl := gl_lt hi
    rw [Nat.add_assoc, hx (3 + i) (by omega), ← Nat.add_assoc]; exact h.2.2.2 i w hi
theorem PkM.keep {f g : Rw} {b : Nat} {p : Pk} (h : PkM f b p) (hp : p.2.2.length ≤ 8) (hx : ∀ i, b ≤ i → i < b + 11 → g i = f i) : PkM g b p := h.move hp (fun j hj => hx _ (by omega) (by omega))
theorem SeM.keep {f g : Rw} {s : Nat} {e : Se} (hs : s < 6) (h : SeM f s e) (hk : okSe e) (hx : ∀ i, ow i = s → i < 60 → g i = f i) : SeM g s e := by
  obtain ⟨h1, ⟨h2, h3⟩, ⟨h4, h5⟩, h6, h7, h8⟩ := h
  have k : ∀ i, (i = s ∨ (6 + 2 * s ≤ i ∧ i < 8 + 2 * s) ∨ i = 18 + s ∨ (24 + 2 * s ≤ i ∧ i < 26 + 2 * s) ∨ i = 36 + s ∨ i = 42 + s ∨ i = 48 + s ∨ i = 54 + s) → g i = f i := fun i q => hx i (ow_se hs q).1 (ow_se hs q).2
  refine ⟨by rw [k s (by omega)]; exact h1, ⟨by rw [k (18 + s) (by omega)]; exact h2, fun i x hi => ?_⟩, ⟨by rw [k (36 + s) (by omega)]; exact h4, fun i x hi => ?_⟩, by rw [k (42 + s) (by omega)]; exact h6, by rw [k (48 + s) (by omega)]; exact h7, by rw [k (54 + s) (by omega)]; exact h8⟩
  · have := gl_lt hi; have := hk.2.1.1
    rw [k _ (by omega)]; exact h3 i x hi
  · have := gl_lt hi; have := hk.2.2.1.1
    rw [k _ (by omega)]; exact h5 i x hi
theorem TaM.keep {f g : Rw} {s : Nat} {t : Nat → Nat} (hs : s < 6) (h : TaM f s t) (hx : ∀ i, ow i = s → 96 ≤ i → i < 150 → g i = f i) : TaM g s t := fun w hw => by rw [hx _ (ow_ta hs hw) (by omega) (by omega)]; exact h w hw
theorem KpM.keep {f g : Rw} {s : Nat} {l : Kp} (hs : s < 6) (h : KpM f s l) (hl : l.length ≤ 12) (hp : ∀ q ∈ l, q.1.2.2.length ≤ 8) (hx : ∀ i, ow i = s → 150 ≤ i → i < 1020 → g i = f i) : KpM g s l := by
  have k : ∀ i, (i = 150 + s ∨ (156 + 144 * s ≤ i ∧ i < 300 + 144 * s)) → g i = f i := fun i q => hx i (ow_kp hs q).1 (ow_kp hs q).2.1 (ow_kp hs q).2.2
  refine ⟨by rw [k _ (by omega)]; exact h.1, fun i q hi => ?_⟩
  have := gl_lt hi
  obtain ⟨h1, h2⟩ := h.2 i q hi
  exact ⟨h1.keep (hp q (gl_mem hi)) (fun j q1 q2 => k j (by omega)), by rw [k _ (by omega)]; exact h2⟩
theorem KnM.keep {f g : Rw} {s : Nat} {l : Kn} (hs : s < 6) (h : KnM f s l) (hl : l.length ≤ 16) (hx : ∀ i, ow i = s → 1020 ≤ i → i < 1314 → g i = f i) : KnM g s l := by
  have k : ∀ i, (i = 1020 + s ∨ (1026 + 48 * s ≤ i ∧ i < 1074 + 48 * s)) → g i = f i := fun i q => hx i (ow_kn hs q).1 (ow_kn hs q).2.1 (ow_kn hs q).2.2
  refine ⟨by rw [k _ (by omega)]; exact h.1, fun i q hi => ?_⟩
  have := gl_lt hi
  obtain ⟨h1, h2, h3⟩ := h.2 i q hi
  exact ⟨by rw [k _ (by omega)]; exact h1, by rw [k _ (by omega)]; exact h2, by rw [k _ (by omega)]; exact h3⟩
theorem LsM.keep {f g : Rw} {s : Nat} {o : Option (Pk × Nat)} (hs : s < 6) (h : LsM f s o) (hp : ∀ q, o = some q → q.1.2.2.length ≤ 8) (hx : ∀ i, ow i = s → 1314 ≤ i → i < 1386 → g i = f i) : LsM g s o := by
  have k : ∀ i, (i = 1380 + s ∨ (1314 + 11 * s ≤ i ∧ i < 1325 + 11 * s)) → g i = f i := fun i q => hx i (ow_ls hs q).1 (ow_ls hs q).2.1 (ow_ls hs q).2.2
  intro q hq
  obtain ⟨h1, h2⟩ := h q hq
  exact ⟨h1.keep (hp q hq) (fun j q1 q2 => k j (by omega)), by rw [k _ (by omega)]; exact h2⟩
theorem okKp_w {l : Kp} {now : Nat} (h : okKp l now) : ∀ q ∈ l, q.1.2.2.length ≤ 8 := fun q hq => (h.2 q hq).1.2.2.1
theorem okLs_w {st : St} {now : Nat} (h : okSt st now) : ∀ q, st.2.2.2.2 = some q → q.1.2.2.length ≤ 8 := fun q hq => (h.2.2.2.2 q.1 q.2 hq).1.2.2.1
theorem StM.keep {f g : Rw} {s now : Nat} {st : St} (hs : s < 6) (h : StM f s st) (hok : okSt st now) (hx : ∀ i, ow i = s → g i = f i) : StM g s st :=
  ⟨h.1.keep hs hok.1 (fun i a _ => hx i a), h.2.1.keep hs (fun i a _ _ => hx i a), h.2.2.1.keep hs hok.2.2.1.1 (okKp_w hok.2.2.1) (fun i a _ _ => hx i a), h.2.2.2.1.keep hs hok.2.2.2.1.1 (fun i a _ _ => hx i a), h.2.2.2.2.keep hs (okLs_w hok) (fun i a _ _ => hx i a)⟩
theorem NrM.keep {f g : Rw} {nr : Nat → Nat → Bool} (h : NrM f nr) (hx : ∀ i, 60 ≤ i → i < 96 → g i = f i) : NrM g nr := fun a b ha hb => by rw [hx _ (by omega) (by omega)]; exact h a b ha hb
/-- one station's places change -/
theorem NtM.upd {f g : Rw} {n : Nt} {s : Nat} {st : St} (hs : s < 6) (h : NtM f n) (hok : okNt n) (hF : Fr s 0 1386 f g) (hS : StM g s st) : NtM g (upS n.1 s st, n.2) := by
  refine ⟨fun t ht => ?_, h.2.1.keep (fun i h1 h2 => hF.oth (by rw [ow_nr h1 h2]; omega)), by rw [hF.oth (by rw [ow_now]; omega)]; exact h.2.2⟩
  unfold upS
  by_cases e : t = s
  · subst e; simp only [if_true]; exact hS
  · simp only [if_neg e]
    exact (h.1 t ht).keep ht (hok.1 t ht) (fun i hi => hF.oth (by omega))
theorem LaM.upd {f g : Rw} {n : Nt} {s : Nat} {st : St} (hs : s < 6) (h : LaM f n) (hF : Fr s 0 1386 f g) (hS : st.2.2.2.2 = none → g (1380 + s) = -6) : LaM g (upS n.1 s st, n.2) := by
  intro t ht
  unfold upS
  by_cases e : t = s
  · subst e; simp only [if_true]; exact hS
  · simp only [if_neg e]
    intro hn
    rw [hF.oth (by rw [(ow_ls ht (Or.inl rfl)).1]; exact e)]; exact h t ht hn
section REF60
variable {z : Nat} {sh : SH} {mi : MI} {mr : MR} {o : Nat}
theorem m_slot {s k : Nat} : Mp mX10_slot 0 [.int (nI s), .int (nI k)] z sh mi mr (nI (156 + 12 * (12 * s + k))) := by
  refine Mv.of pnX10_slot (Nat.le_of_ble_eq_true rfl) rfl ?_
  refine r_sipush (v := nI 156) dX10_slot_0 (by decide) ?_
  refine r_bipush (v := nI 12) dX10_slot_3 (by decide) ?_
  refine r_bipush (v := nI 12) dX10_slot_5 (by decide) ?_
  refine r_iload_n 0 dX10_slot_7 rfl rfl ?_
  refine r_imulN dX10_slot_8 ?_
  refine r_iload_n 1 dX10_slot_9 rfl rfl ?_
  refine r_iaddN dX10_slot_10 ?_
  refine r_imulN dX10_slot_11 ?_
  refine r_iaddN dX10_slot_12 ?_
  refine r_iret dX10_slot_13 rfl (Nat.le_of_ble_eq_true rfl) (Nat.le_of_ble_eq_true rfl) ?_
  exact ⟨rfl, rfl, rfl, rfl, rfl⟩
theorem m_known {s k : Nat} : Mp mX10_known 0 [.int (nI s), .int (nI k)] z sh mi mr (nI (1026 + 3 * (16 * s + k))) := by
  refine Mv.of pnX10_known (Nat.le_of_ble_eq_true rfl) rfl ?_
  refine r_sipush (v := nI 1026) dX10_known_0 (by decide) ?_
  refine r_iconst (v := nI 3) dX10_known_3 (by decide) ?_
  refine r_bipush (v := nI 16) dX10_known_4 (by decide) ?_
  refine r_iload_n 0 dX10_known_6 rfl rfl ?_
  refine r_imulN dX10_known_7 ?_
  refine r_iload_n 1 dX10_known_8 rfl rfl ?_
  refine r_iaddN dX10_known_9 ?_
  refine r_imulN dX10_known_10 ?_
  refine r_iaddN dX10_known_11 ?_
  refine r_iret dX10_known_12 rfl (Nat.le_of_ble_eq_true rfl) (Nat.le_of_ble_eq_true rfl) ?_
  exact ⟨rfl, rfl, rfl, rfl, rfl⟩
theorem m_isSpent {v : Nat} (hv : v < 2 ^ 30) : Mp mX10_isSpent 0 [.int (nI v)] z sh mi mr (b2 (decide (v % 2 = 1))) := by
  refine Mv.of pnX10_isSpent (Nat.le_of_ble_eq_true rfl) rfl ?_
  refine r_iload_n 0 dX10_isSpent_0 rfl rfl ?_
  refine r_iconst (v := nI 2) dX10_isSpent_1 (by decide) ?_
  refine r_iremN dX10_isSpent_2 (by omega) (by omega) (by omega) ?_
  refine r_iconst (v := nI 1) dX10_isSpent_3 (by decide) ?_
  refine r_icmpN_ne 11 dX10_isSpent_4 (by decide) (by omega) (by omega) (fun h4 => ?_) (fun h4 => ?_)
  · refine r_iconst (v := nI 0) dX10_isSpent_11 (by decide) ?_
    refine r_zret dX10_isSpent_12 rfl (by first | exact b2_nar _ | decide) (Nat.le_of_ble_eq_true rfl) (Nat.le_of_ble_eq_true rfl) ?_
    refine ⟨rfl, rfl, rfl, ?_, rfl⟩
    first | (rw [show decide (v % 2 = 1) = true by simpa using h4]; rfl) | (rw [show decide (v % 2 = 1) = false by simpa using h4]; rfl)
  · refine r_iconst (v := nI 1) dX10_isSpent_7 (by decide) ?_
    refine r_goto 12 dX10_isSpent_8 (by decide) ?_
    refine r_zret dX10_isSpent_12 rfl (by first | exact b2_nar _ | decide) (Nat.le_of_ble_eq_true rfl) (Nat.le_of_ble_eq_true rfl) ?_
    refine ⟨rfl, rfl, rfl, ?_, rfl⟩
    first | (rw [show decide (v % 2 = 1) = true by simpa using h4]; rfl) | (rw [show decide (v % 2 = 1) = false by simpa using h4]; rfl)
theorem m_hopsOf {v : Nat} (hv : v < 2 ^ 30) : Mp mX10_hopsOf 0 [.int (nI v)] z sh mi mr (nI (v / 2 % 8)) := by
  refine Mv.of pnX10_hopsOf (Nat.le_of_ble_eq_true rfl) rfl ?_
  refine r_iload_n 0 dX10_hopsOf_0 rfl rfl ?_
  refine r_iconst (v := nI 2) dX10_hopsOf_1 (by decide) ?_
  refine r_idivN dX10_hopsOf_2 (by omega) (by omega) (by omega) ?_
  refine r_bipush (v := nI 8) dX10_hopsOf_3 (by decide) ?_
  refine r_iremN dX10_hopsOf_5 (by omega) (by omega) (by omega) ?_
  refine r_iret dX10_hopsOf_6 rfl (Nat.le_of_ble_eq_true rfl) (Nat.le_of_ble_eq_true rfl) ?_
  exact ⟨rfl, rfl, rfl, rfl, rfl⟩
theorem m_spW {w : Wd} (h : okW w) : Mp mX10_isSpent 0 [.int (nI (wc 27 w))] z sh mi mr (b2 w.2.2) := (m_isSpent (by have := wc_lt27 h; omega)).of (by rw [wc_mod2]; cases w.2.2 <;> rfl)
theorem m_hoW {w : Wd} (h : okW w) : Mp mX10_hopsOf 0 [.int (nI (wc 27 w))] z sh mi mr (nI w.2.1) := (m_hopsOf (by have := wc_lt27 h; omega)).of (by rw [wc_hops h.2])
theorem m_areNear (hL : LM sh mr o) {nr : Nat → Nat → Bool} (hN : NrM (mi (o + 1)) nr) {a b : Nat} (ha : a < 6) (hb : b < 6) : Mp mX10_areNear 0 [.ref o, .int (nI a), .int (nI b)] z sh mi mr (b2 (nr a b)) := by
  obtain ⟨l0, ⟨l1, l2⟩, -⟩ := id hL
  have hv := hN a b ha hb
  have hbn := bn_le (nr a b)
  refine Mv.of pnX10_areNear (Nat.le_of_ble_eq_true rfl) rfl ?_
  refine r_aload_n 0 dX10_areNear_0 rfl rfl ?_
  refine r_getR dX10_areNear_1 fl_RX10_7 rfl (by assumption) (by assumption) ?_
  refine r_bipush (v := nI 60) dX10_areNear_4 (by decide) ?_
  refine r_bipush (v := nI 6) dX10_areNear_6 (by decide) ?_
  refine r_iload_n 1 dX10_areNear_8 rfl rfl ?_
  refine r_imulN dX10_areNear_9 ?_
  refine r_iaddN dX10_areNear_10 ?_
  refine r_iload_n 2 dX10_areNear_11 rfl rfl ?_
  refine r_iaddN dX10_areNear_12 ?_
  refine r_ialdV dX10_areNear_13 (by assumption) (by omega) (by omega) (by first | assumption | exact up2_same _ _ _ _ | exact (Eq.trans (up2_ne _ _ (by omega)) (by first | assumption | exact up2_same _ _ _ _)) | exact (Eq.trans (up2_ne _ _ (by omega)) (Eq.trans (up2_ne _ _ (by omega)) (by first | assumption | exact up2_same _ _ _ _))) | exact (Eq.trans (up2_ne _ _ (by omega)) (Eq.trans (up2_ne _ _ (by omega)) (Eq.trans (up2_ne _ _ (by omega)) (by first | assumption | exact up2_same _ _ _ _)))) | exact (Eq.trans (up2_ne _ _ (by omega)) (Eq.trans (up2_ne _ _ (by omega)) (Eq.trans (up2_ne _ _ (by omega)) (Eq.trans (up2_ne _ _ (by omega)) (by first | assumption | exact up2_same _ _ _ _))))) | rfl) ?_
  refine r_iconst (v := nI 1) dX10_areNear_14 (by decide) ?_
  refine r_icmpN_ne 22 dX10_areNear_15 (by decide) (by omega) (by omega) (fun h15 => ?_) (fun h15 => ?_)
  · refine r_iconst (v := nI 0) dX10_areNear_22 (by decide) ?_
    refine r_zret dX10_areNear_23 rfl (by first | exact b2_nar _ | decide) (Nat.le_of_ble_eq_true rfl) (Nat.le_of_ble_eq_true rfl) ?_
    refine ⟨rfl, rfl, rfl, ?_, rfl⟩
    cases hq : nr a b <;> rw [hq] at h15 <;> first | rfl | exact absurd h15 (by decide)
  · refine r_iconst (v := nI 1) dX10_areNear_18 (by decide) ?_
    refine r_goto 23 dX10_areNear_19 (by decide) ?_
    refine r_zret dX10_areNear_23 rfl (by first | exact b2_nar _ | decide) (Nat.le_of_ble_eq_true rfl) (Nat.le_of_ble_eq_true rfl) ?_
    refine ⟨rfl, rfl, rfl, ?_, rfl⟩
    cases hq : nr a b <;> rw [hq] at h15 <;> first | rfl | exact absurd h15 (by decide)
theorem m_cnt (hL : LM sh mr o) {w s : Nat} (hw : w < 9) (hs : s < 6) {v : Nat} (hv : mi (o + 1) (96 + 6 * w + s) = nI v) : Mi mX10_count 0 [.ref o, .int (nI w), .int (nI s)] z sh mi mr (fun r m => r = none ∧ m = up2 mi (o + 1) (96 + 6 * w + s) (nI (v + 1))) := by
  obtain ⟨l0, ⟨l1, l2⟩, -⟩ := id hL
  refine Mv.of pnX10_count (Nat.le_of_ble_eq_true rfl) rfl ?_
  refine r_aload_n 0 dX10_count_0 rfl rfl ?_
  refine r_getR dX10_count_1 fl_RX10_7 rfl (by assumption) (by assumption) ?_
  refine r_bipush (v := nI 96) dX10_count_4 (by decide) ?_
  refine r_bipush (v := nI 6) dX10_count_6 (by decide) ?_
  refine r_iload_n 1 dX10_count_8 rfl rfl ?_
  refine r_imulN dX10_count_9 ?_
  refine r_iaddN dX10_count_10 ?_
  refine r_iload_n 2 dX10_count_11 rfl rfl ?_
  refine r_iaddN dX10_count_12 ?_
  refine r_dup2 dX10_count_13 rfl rfl ?_
  refine r_ialdV dX10_count_14 (by assumption) (by omega) (by omega) (by first | assumption | exact up2_same _ _ _ _ | exact (Eq.trans (up2_ne _ _ (by omega)) (by first | assumption | exact up2_same _ _ _ _)) | exact (Eq.trans (up2_ne _ _ (by omega)) (Eq.trans (up2_ne _ _ (by omega)) (by first | assumption | exact up2_same _ _ _ _))) | exact (Eq.trans (up2_ne _ _ (by omega)) (Eq.trans (up2_ne _ _ (by omega)) (Eq.trans (up2_ne _ _ (by omega)) (by first | assumption | exact up2_same _ _ _ _)))) | exact (Eq.trans (up2_ne _ _ (by omega)) (Eq.trans (up2_ne _ _ (by omega)) (Eq.trans (up2_ne _ _ (by omega)) (Eq.trans (up2_ne _ _ (by omega)) (by first | assumption | exact up2_same _ _ _ _))))) | rfl) ?_
  refine r_iconst (v := nI 1) dX10_count_15 (by decide) ?_
  refine r_iaddN dX10_count_16 ?_
  refine r_iast dX10_count_17 (by assumption) (by omega) (by omega) ?_
  refine r_vret dX10_count_18 rfl (Nat.le_of_ble_eq_true rfl) (Nat.le_of_ble_eq_true rfl) ?_
  exact ⟨rfl, rfl, rfl, rfl, rfl⟩
end REF60
