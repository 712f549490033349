section RTRI
variable {z : Nat} {sh : SH} {mi : MI} {mr : MR} {o : Nat}
def fv (x : Option Nat) : Int32 := match x with
  | some t => nI t
  | none => -6
theorem RR.ld {m : MI} {σ : Al} {N : Nat} (h : RR mi o σ) (hok : okA σ N) (h4 : m o 4 = mi o 4) (ho : ∀ x, (x = o + 3 ∨ x = o + 4) → m x = mi x) (h1 : ∀ i, i < 1387 → m (o + 1) i = mi (o + 1) i) (h2 : ∀ q, q < 2774 → m (o + 2) q = mi (o + 2) q) : RR m o σ := by
  refine ⟨h.1.keep h4 (ho _ (Or.inr rfl)), ⟨h.2.1.1.ext hok.2.1.1 h1, h.2.1.2.ext h1⟩, fun k hk => ?_⟩
  obtain ⟨r1, r2⟩ := h.2.2 k hk
  refine ⟨by rw [ho _ (Or.inl rfl)]; exact r1, fun n hn => ?_⟩
  obtain ⟨r3, r4⟩ := r2 n hn
  have hx : ∀ i, i < 1387 → m (o + 2) (1387 * k + i) = mi (o + 2) (1387 * k + i) := fun i hi => h2 _ (by omega)
  exact ⟨r3.ext (hok.2.2 k hk n hn).1 hx, r4.ext hx⟩
/-- outside the reference's scratch nothing changed, and the row of images is A -/
def BF (mi : MI) (o : Nat) (A : Rw) (m : MI) : Prop := (∀ x, (x ≤ o ∨ o + 10 ≤ x ∨ x = o + 3 ∨ x = o + 4) → m x = mi x) ∧ m (o + 2) = A
theorem BF.up {A : Rw} {m : MI} {a k : Nat} {v : Int32} (h : BF mi o A m) (ha : a = o + 1 ∨ a = o + 5 ∨ a = o + 9) : BF mi o A (up2 m a k v) := ⟨fun x hx => by rw [up2_row _ _ (by omega)]; exact h.1 x hx, by rw [up2_row _ _ (by omega)]; exact h.2⟩
theorem BF.to {A : Rw} {m m' : MI} (h : BF mi o A m) (hx : ∀ x, (x ≤ o ∨ o + 10 ≤ x ∨ (o + 2 ≤ x ∧ x ≤ o + 4)) → m' x = m x) : BF mi o A m' := ⟨fun x q => (hx x (by omega)).trans (h.1 x q), (hx _ (by omega)).trans h.2⟩
def nrW (nr : Nat → Nat → Bool) (w : Option Nat) (i a b : Nat) : Bool := nr a b && !(decide (some a = w) && decide (b < i)) && !(decide (some b = w) && decide (a < i))
theorem nrW_0 (nr : Nat → Nat → Bool) (w : Option Nat) (a b : Nat) : nrW nr w 0 a b = nr a b := by simp [nrW]
theorem nrW_6 (nr : Nat → Nat → Bool) (w : Option Nat) {a b : Nat} (ha : a < 6) (hb : b < 6) : nrW nr w 6 a b = (nr a b && decide (some a ≠ w) && decide (some b ≠ w)) := by simp [nrW, ha, hb]
def RP2 (f : Rw) (nr : Nat → Nat → Bool) (o : Nat) (w : Option Nat) (i : Nat) (m : MI) : Prop := (∀ q, (q < 60 ∨ (156 ≤ q ∧ q < 1020) ∨ 1026 ≤ q) → m (o + 1) q = f q) ∧ (∀ q, 96 ≤ q → q < 150 → m (o + 1) q = nI 0) ∧ (∀ j, j < i → m (o + 1) (150 + j) = nI 0 ∧ m (o + 1) (1020 + j) = nI 0 ∧ m (o + 9) j = -6) ∧ ∀ a b, a < 6 → b < 6 → m (o + 1) (60 + 6 * a + b) = nI (bn (nrW nr w i a b))
theorem nrW_s {nr : Nat → Nat → Bool} {q i a b : Nat} (h1 : ¬ (a = q ∧ b = i)) (h2 : ¬ (a = i ∧ b = q)) : nrW nr (some q) (i + 1) a b = nrW nr (some q) i a b := by
  unfold nrW
  have e1 : (decide (some a = some q) && decide (b < i + 1)) = (decide (some a = some q) && decide (b < i)) := by
    by_cases c : a = q
    · have : decide (b < i + 1) = decide (b < i) := by rw [decide_eq_decide]; omega
      rw [this]
    · simp [c]
  have e2 : (decide (some b = some q) && decide (a < i + 1)) = (decide (some b = some q) && decide (a < i)) := by
    by_cases c : b = q
    · have : decide (a < i + 1) = decide (a < i) := by rw [decide_eq_decide]; omega
      rw [this]
    · simp [c]
  rw [e1, e2]
theorem nrW_n (nr : Nat → Nat → Bool) (i a b : Nat) : nrW nr none i a b = nr a b := by simp [nrW]
theorem okT {n : Nt} {w : Option Nat} (hok : okNt n) : okNt (triN n w) := ⟨fun j hj => ⟨(hok.1 j hj).1, fun _ _ => Nat.le_refl 0, ⟨Nat.zero_le _, fun q hq => (by cases hq)⟩, ⟨Nat.zero_le _, fun q hq => (by cases hq), List.Pairwise.nil⟩, fun p t e => by cases e⟩, fun s t hs ht e => hok.2 s t hs ht e⟩
theorem RP2.nt {f : Rw} {n : Nt} {w : Option Nat} {m : MI} (hok : okNt n) (hN : NtM f n) (h : RP2 f n.2.1 o w 6 m) {v : Int32} (hv : v = nI 0) : NtM (up2 m (o + 1) 1386 v (o + 1)) (triN n w) := by
  obtain ⟨a1, a2, a3, a4⟩ := h
  have e : ∀ q, q ≠ 1386 → up2 m (o + 1) 1386 v (o + 1) q = m (o + 1) q := fun q hq => up2_ne _ _ (Or.inr hq)
  refine ⟨fun s hs => ⟨(hN.1 s hs).1.keep hs (hok.1 s hs).1 (fun i _ hi => by rw [e i (by omega), a1 i (by omega)]), fun u hu => ?_, ⟨?_, fun i q hi => by simp [triN] at hi⟩, ⟨?_, fun i q hi => by simp [triN] at hi⟩, fun q hq => by cases hq⟩, fun a b ha hb => ?_, by rw [up2_same, hv]; rfl⟩
  · rw [e _ (by omega), a2 _ (by omega) (by omega)]; rfl
  · rw [e _ (by omega), (a3 s hs).1]; rfl
  · rw [e _ (by omega), (a3 s hs).2.1]; rfl
  · rw [e _ (by omega), a4 a b ha hb, nrW_6 _ _ ha hb]; rfl
theorem RP2.step {f : Rw} {nr : Nat → Nat → Bool} {w : Option Nat} {i : Nat} {m m' : MI} (hi : i < 6) (h : RP2 f nr o w i m) (h9 : m' (o + 9) = up2 m (o + 9) i (-6) (o + 9)) (hx : ∀ q, q ≠ 150 + i → q ≠ 1020 + i → (q < 60 ∨ 96 ≤ q) → m' (o + 1) q = m (o + 1) q) (h1 : m' (o + 1) (150 + i) = nI 0) (h2 : m' (o + 1) (1020 + i) = nI 0) (hn : ∀ a b, a < 6 → b < 6 → m' (o + 1) (60 + 6 * a + b) = nI (bn (nrW nr w (i + 1) a b))) : RP2 f nr o w (i + 1) m' := by
  obtain ⟨a1, a2, a3, a4⟩ := h
  refine ⟨fun q hq => by rw [hx q (by omega) (by omega) (by omega)]; exact a1 q hq, fun q q1 q2 => by rw [hx q (by omega) (by omega) (by omega)]; exact a2 q q1 q2, fun j hj => ?_, hn⟩
  by_cases e : j = i
  · subst e; exact ⟨h1, h2, by rw [h9, up2_same]⟩
  · obtain ⟨b1, b2', b3⟩ := a3 j (by omega)
    exact ⟨by rw [hx _ (by omega) (by omega) (by omega)]; exact b1, by rw [hx _ (by omega) (by omega) (by omega)]; exact b2', by rw [h9, up2_ne _ _ (Or.inr e)]; exact b3⟩
def ReP (mi : MI) (o : Nat) (σ : Al) (w : Option Nat) (s : Nat) (f : Nm) (h : Nat) : MI → Prop := fun m => RR m o σ ∧ Oth mi m o (o + 11) ∧ m o 14 = nI (sum6 (fun j => ((tri σ.2.1 w s f h).1.1 j).2.1 0)) ∧ m o 15 = nI (sum6 (fun j => ((tri σ.2.1 w s f h).1.1 j).2.1 7)) ∧ ∀ j, j < 6 → m (o + 9) j = fv ((tri σ.2.1 w s f h).2 j)
theorem tri_ft {n : Nt} {ft : Nat → Option Nat} {m m' : MI} {v : Option Value} (h9 : ∀ j, j < 6 → m (o + 9) j = fv (ft j)) (hl : ∀ j, j < 6 → ft j = none → (n.1 j).2.2.2.2 = none) (hb : ∀ j t, j < 6 → ft j = some t → t < 2 ^ 31) (hT : TkP m o n v m') : (∀ j, j < 6 → m' (o + 9) j = fv (match ft j with
    | some t => some t
    | none => if ((tck n).1 j).2.2.2.2.isSome = true then some n.2.2 else none)) ∧ ∀ j, j < 6 → (match ft j with
    | some t => some t
    | none => if ((tck n).1 j).2.2.2.2.isSome = true then some n.2.2 else none) = none → ((tck n).1 j).2.2.2.2 = none := by
  constructor
  · intro j hj
    rw [hT.2.2.2.1 j hj, h9 j hj]
    cases hf : ft j with
    | some t =>
      have hn : ¬ (nI t) < 0 := nI_pos (hb j t hj hf)
      show (if hrd n j = true then (if fv (some t) < 0 then nI n.2.2 else fv (some t)) else fv (some t)) = fv (some t)
      by_cases hh : hrd n j = true
      · rw [if_pos hh]; exact if_neg hn
      · rw [if_neg hh]
    | none =>
      have hln := hl j hj hf
      by_cases hh : hrd n j = true
      · have hs : ((tck n).1 j).2.2.2.2.isSome = true := tck_last.2 hh
        rw [if_pos hh]
        show (if fv none < 0 then nI n.2.2 else fv none) = fv (if ((tck n).1 j).2.2.2.2.isSome = true then some n.2.2 else none)
        rw [if_pos hs]
        exact if_pos (by decide)
      · have hh' : hrd n j = false := by simpa using hh
        have hs : ((tck n).1 j).2.2.2.2 = none := (tck_last.1 hh').trans hln
        rw [if_neg hh]
        show fv none = fv (if ((tck n).1 j).2.2.2.2.isSome = true then some n.2.2 else none)
        rw [hs]; rfl
  · intro j hj hq
    cases hf : ft j with
    | some t => rw [hf] at hq; cases hq
    | none =>
      rw [hf] at hq
      cases hs : ((tck n).1 j).2.2.2.2 with
      | none => rfl
      | some y =>
        rw [hs] at hq
        have hq : (if (some y).isSome = true then some n.2.2 else none) = none := hq
        simp at hq
theorem m_reachFrom (hL : LM sh mr o) {σ : Al} {N : Nat} (hR : RR mi o σ) (hok : okA σ N) {s h : Nat} {f : Nm} {w : Option Nat} {x : Int32} (hs : s < 6) (hf : okL 3 f) (h1 : 1 ≤ h) (h7 : h ≤ 7) (hx : (w = none ∧ x = -6) ∨ ∃ q, q < 6 ∧ w = some q ∧ x = nI q) : Mi mX10_reachFrom 6 [.ref o, .int (nI s), .int (nI (en 27 f)), .int (nI h), .int x] z sh mi mr (fun v m => v = some (.int (nI (reaS σ.2.1 w s f h))) ∧ ReP mi o σ w s f h m) := by
  obtain ⟨l0, ⟨l1, l2⟩, ⟨l3, l4⟩, -, -, ⟨l9, l10⟩, -, -, -, ⟨l17, l18⟩, -⟩ := id hL
  have hen := okL_27 hf
  obtain ⟨t1, t2, t3, t4⟩ := tri0_ok (w := w) hok.2.1.1 hs hf h1 h7
  -- the end: the set, the sums, the row is loaded again
  have KE : ∀ (A : Rw) (m : MI) (ls : List Value), (∀ q, A q = if 1387 * 2 ≤ q ∧ q < 1387 * 2 + 1387 then mi (o + 1) (q - 1387 * 2) else mi (o + 2) q) → BF mi o A m → NtM (m (o + 1)) (tri σ.2.1 w s f h).1 → (∀ j, j < 6 → m (o + 9) j = fv ((tri σ.2.1 w s f h).2 j)) → (∀ j t, j < 6 → (tri σ.2.1 w s f h).2 j = some t → t < 2 ^ 31) → Wp yX10_reachFrom cX10_reachFrom 7 (some .int) (EI 6 z sh mr (fun v m => v = some (.int (nI (reaS σ.2.1 w s f h))) ∧ ReP mi o σ w s f h m)) 0 0 197 ([.ref o, .int (nI s), .int (nI (en 27 f)), .int (nI h), .int x] ++ ls) [] z sh m mr := by
    intro A m ls hA hB hNt h9 hb
    refine r_drop ?_
    have hre : reaS σ.2.1 w s f h = bs (fun j => ((tri σ.2.1 w s f h).2 j).isSome) := rfl
    have hRe : ∀ m', RR m' o σ ∧ Oth mi m' o (o + 11) ∧ m' o 14 = nI (sum6 (fun j => ((tri σ.2.1 w s f h).1.1 j).2.1 0)) ∧ m' o 15 = nI (sum6 (fun j => ((tri σ.2.1 w s f h).1.1 j).2.1 7)) ∧ (∀ j, j < 6 → m' (o + 9) j = fv ((tri σ.2.1 w s f h).2 j)) → ReP mi o σ w s f h m' := fun m' a => a
    generalize reaS σ.2.1 w s f h = RS at hre ⊢
    generalize ReP mi o σ w s f h = RQ at hRe ⊢
    generalize (tri σ.2.1 w s f h).1 = nt at hNt hRe
    generalize (tri σ.2.1 w s f h).2 = ft at h9 hb hre hRe
    have H : ∀ t i : Nat, i + t = 6 → Wp yX10_reachFrom cX10_reachFrom 7 (some .int) (EI 6 z sh mr (fun v m => v = some (.int (nI RS)) ∧ RQ m)) 0 0 203 [.ref o, .int (nI s), .int (nI (en 27 f)), .int (nI h), .int x, .int (nI (bs (fun j => decide (j < i) && (ft j).isSome))), .int (nI i)] [] z sh m mr := by
      intro t
      induction t with
      | zero =>
        intro i hi
        have hi : i = 6 := hi
        subst hi
        rw [bs_eq (g := fun j => (ft j).isSome) (fun q hq => by simp [hq]), ← hre]
        refine r_iload 6 dX10_reachFrom_203 rfl ?_
        refine r_bipush (v := nI 6) dX10_reachFrom_205 (by decide) ?_
        refine r_icmpN_ge 239 dX10_reachFrom_207 (by decide) (by omega) (by omega) (fun h207 => ?_) (fun h207 => ?_)
        · refine r_aload_n 0 dX10_reachFrom_239 rfl rfl ?_
          refine r_aload_n 0 dX10_reachFrom_240 rfl rfl ?_
          refine r_iconst (v := nI 0) dX10_reachFrom_241 (by decide) ?_
          refine r_callVp [_] dX10_reachFrom_242 ok_RX10_187 ivX10_sumOf (by assumption) ⟨_, _, rfl⟩ rfl rfl (Nat.le_of_ble_eq_true rfl) (by refine ⟨?_, ?_, ?_, ?_⟩ <;> exact Nat.le_of_ble_eq_true rfl) (m_sumOf hL (n := nt) (w := 0) (by omega) (fun s hs => (hNt.1 s hs).2.1 0 (by omega))) ?_
          refine r_putI dX10_reachFrom_245 fl_RX10_190 rfl rfl rfl (by assumption) ?_
          refine r_aload_n 0 dX10_reachFrom_248 rfl rfl ?_
          refine r_aload_n 0 dX10_reachFrom_249 rfl rfl ?_
          refine r_bipush (v := nI 7) dX10_reachFrom_250 (by decide) ?_
          refine r_callVp [_] dX10_reachFrom_252 ok_RX10_187 ivX10_sumOf (by assumption) ⟨_, _, rfl⟩ rfl rfl (Nat.le_of_ble_eq_true rfl) (by refine ⟨?_, ?_, ?_, ?_⟩ <;> exact Nat.le_of_ble_eq_true rfl) (m_sumOf hL (n := nt) (w := 7) (by omega) (fun s hs => by rw [up2_row _ _ (by omega)]; exact (hNt.1 s hs).2.1 7 (by omega))) ?_
          refine r_putI dX10_reachFrom_255 fl_RX10_193 rfl rfl rfl (by assumption) ?_
          refine r_aload_n 0 dX10_reachFrom_258 rfl rfl ?_
          refine r_iconst (v := nI 2) dX10_reachFrom_259 (by decide) ?_
          refine r_callVw [_] dX10_reachFrom_260 ok_RX10_196 ivX10_load (by assumption) ⟨_, _, rfl⟩ rfl rfl (Nat.le_of_ble_eq_true rfl) (by refine ⟨?_, ?_, ?_, ?_⟩ <;> exact Nat.le_of_ble_eq_true rfl) (m_load hL (k := 2) (by omega)) ?_
          intro mA ⟨u1, u2⟩
          refine r_iload 5 dX10_reachFrom_263 rfl ?_
          refine r_iret dX10_reachFrom_265 rfl (Nat.le_of_ble_eq_true rfl) (Nat.le_of_ble_eq_true rfl) ?_
          refine ⟨rfl, rfl, rfl, rfl, hRe mA ⟨hR.ld hok ?_ (fun y hy => ?_) (fun i hi => ?_) (fun q hq => ?_), fun y hy => ?_, ?_, ?_, fun j hj => ?_⟩⟩
          · rw [u2 o (by omega), up2_ne _ _ (Or.inr (by omega)), up2_ne _ _ (Or.inr (by omega)), hB.1 o (by omega)]
          · rw [u2 y (by omega), up2_row _ _ (by omega), up2_row _ _ (by omega), hB.1 y (by omega)]
          · rw [u1, if_pos hi, up2_row _ _ (by omega), up2_row _ _ (by omega), hB.2, hA, if_pos (by omega), show 1387 * 2 + i - 1387 * 2 = i by omega]
          · rw [u2 _ (by omega), up2_row _ _ (by omega), up2_row _ _ (by omega), hB.2, hA, if_neg (by omega)]
          · rw [u2 y (by omega), up2_row _ _ (by omega), up2_row _ _ (by omega), hB.1 y (by omega)]
          · rw [u2 o (by omega), up2_ne _ _ (Or.inr (by omega)), up2_same]
          · rw [u2 o (by omega), up2_same]
          · rw [u2 _ (by omega), up2_row _ _ (by omega), up2_row _ _ (by omega)]; exact h9 j hj
        · omega
      | succ t ih =>
        intro i hi
        have h9i := h9 i (by omega)
        have hih := ih (i + 1) (by omega)
        have hlt := bs_lt (fun j => decide (j < i) && (ft j).isSome)
        cases hft : ft i with
        | none =>
          rw [hft] at h9i
          have h9i' : m (o + 9) i = -6 := h9i
          have e : bs (fun j => decide (j < i + 1) && (ft j).isSome) = bs (fun j => decide (j < i) && (ft j).isSome) := bs_eq (fun q hq => by
            by_cases c : q = i
            · subst c; rw [hft]; simp
            · have : decide (q < i + 1) = decide (q < i) := by rw [decide_eq_decide]; omega
              rw [this])
          rw [e] at hih
          clear h9i
          refine r_iload 6 dX10_reachFrom_203 rfl ?_
          refine r_bipush (v := nI 6) dX10_reachFrom_205 (by decide) ?_
          refine r_icmpN_ge 239 dX10_reachFrom_207 (by decide) (by omega) (by omega) (fun h207 => ?_) (fun h207 => ?_)
          · omega
          · refine r_iload 5 dX10_reachFrom_210 rfl ?_
            refine r_aload_n 0 dX10_reachFrom_212 rfl rfl ?_
            refine r_getR dX10_reachFrom_213 fl_RX10_35 rfl (by assumption) (by assumption) ?_
            refine r_iload 6 dX10_reachFrom_216 rfl ?_
            refine r_ialdV dX10_reachFrom_218 (by assumption) (by omega) (by omega) (by first | assumption | exact up2_same _ _ _ _ | exact (Eq.trans (up2_ne _ _ (by omega)) (by first | assumption | exact up2_same _ _ _ _)) | exact (Eq.trans (up2_ne _ _ (by omega)) (Eq.trans (up2_ne _ _ (by omega)) (by first | assumption | exact up2_same _ _ _ _))) | exact (Eq.trans (up2_ne _ _ (by omega)) (Eq.trans (up2_ne _ _ (by omega)) (Eq.trans (up2_ne _ _ (by omega)) (by first | assumption | exact up2_same _ _ _ _)))) | exact (Eq.trans (up2_ne _ _ (by omega)) (Eq.trans (up2_ne _ _ (by omega)) (Eq.trans (up2_ne _ _ (by omega)) (Eq.trans (up2_ne _ _ (by omega)) (by first | assumption | exact up2_same _ _ _ _))))) | rfl) ?_
            refine r_if_lt 229 dX10_reachFrom_219 (by decide) (fun h219 => ?_) (fun h219 => ?_)
            · refine r_iconst (v := nI 0) dX10_reachFrom_229 (by decide) ?_
              refine r_iorN dX10_reachFrom_230 ?_
              refine r_istore 5 (ls2 := [_, _, _, _, _, _, _]) dX10_reachFrom_231 (by decide) (Nat.le_of_ble_eq_true rfl) rfl ?_
              refine r_iincN 6 (b := 1) (ls2 := [_, _, _, _, _, _, _]) dX10_reachFrom_233 rfl (by decide) (by decide) rfl ?_
              refine r_goto 203 dX10_reachFrom_236 (by decide) ?_
              rw [Nat.or_zero]
              exact hih
            · exact absurd (by decide) h219
        | some u =>
          rw [hft] at h9i
          have h9i' : m (o + 9) i = nI u := h9i
          have hu31 := hb i u (by omega) hft
          have e : bs (fun j => decide (j < i) && (ft j).isSome) ||| 1 * 2 ^ i = bs (fun j => decide (j < i + 1) && (ft j).isSome) := by
            rw [bs_or _ (by omega)]
            refine bs_eq (fun q hq => ?_)
            unfold upB
            by_cases c : q = i
            · subst c; rw [if_pos rfl, hft]; simp
            · have : decide (q < i + 1) = decide (q < i) := by rw [decide_eq_decide]; omega
              rw [if_neg c, this]
          rw [← e] at hih
          clear h9i
          have h64 : 2 ^ i ≤ 2 ^ 6 := Nat.pow_le_pow_right (by omega) (by omega)
          refine r_iload 6 dX10_reachFrom_203 rfl ?_
          refine r_bipush (v := nI 6) dX10_reachFrom_205 (by decide) ?_
          refine r_icmpN_ge 239 dX10_reachFrom_207 (by decide) (by omega) (by omega) (fun h207 => ?_) (fun h207 => ?_)
          · omega
          · refine r_iload 5 dX10_reachFrom_210 rfl ?_
            refine r_aload_n 0 dX10_reachFrom_212 rfl rfl ?_
            refine r_getR dX10_reachFrom_213 fl_RX10_35 rfl (by assumption) (by assumption) ?_
            refine r_iload 6 dX10_reachFrom_216 rfl ?_
            refine r_ialdV dX10_reachFrom_218 (by assumption) (by omega) (by omega) (by first | assumption | exact up2_same _ _ _ _ | exact (Eq.trans (up2_ne _ _ (by omega)) (by first | assumption | exact up2_same _ _ _ _)) | exact (Eq.trans (up2_ne _ _ (by omega)) (Eq.trans (up2_ne _ _ (by omega)) (by first | assumption | exact up2_same _ _ _ _))) | exact (Eq.trans (up2_ne _ _ (by omega)) (Eq.trans (up2_ne _ _ (by omega)) (Eq.trans (up2_ne _ _ (by omega)) (by first | assumption | exact up2_same _ _ _ _)))) | exact (Eq.trans (up2_ne _ _ (by omega)) (Eq.trans (up2_ne _ _ (by omega)) (Eq.trans (up2_ne _ _ (by omega)) (Eq.trans (up2_ne _ _ (by omega)) (by first | assumption | exact up2_same _ _ _ _))))) | rfl) ?_
            refine r_ifN_lt 229 dX10_reachFrom_219 (by decide) (by omega) ?_
            refine r_iconst (v := nI 1) dX10_reachFrom_222 (by decide) ?_
            refine r_iload 6 dX10_reachFrom_223 rfl ?_
            refine r_ishlN dX10_reachFrom_225 (by omega) (by omega) ?_
            refine r_goto 230 dX10_reachFrom_226 (by decide) ?_
            refine r_iorN dX10_reachFrom_230 ?_
            refine r_istore 5 (ls2 := [_, _, _, _, _, _, _]) dX10_reachFrom_231 (by decide) (Nat.le_of_ble_eq_true rfl) rfl ?_
            refine r_iincN 6 (b := 1) (ls2 := [_, _, _, _, _, _, _]) dX10_reachFrom_233 rfl (by decide) (by decide) rfl ?_
            refine r_goto 203 dX10_reachFrom_236 (by decide) ?_
            exact hih
    refine r_iconst (v := nI 0) dX10_reachFrom_197 (by decide) ?_
    refine r_istore 5 (ls2 := [_, _, _, _, _, _]) dX10_reachFrom_198 (by decide) (Nat.le_of_ble_eq_true rfl) rfl ?_
    refine r_iconst (v := nI 0) dX10_reachFrom_200 (by decide) ?_
    refine r_istore 6 (ls2 := [_, _, _, _, _, _, _]) dX10_reachFrom_201 (by decide) (Nat.le_of_ble_eq_true rfl) rfl ?_
    exact H 6 0 rfl
  -- ticks
  have KT : ∀ (A : Rw), (∀ q, A q = if 1387 * 2 ≤ q ∧ q < 1387 * 2 + 1387 then mi (o + 1) (q - 1387 * 2) else mi (o + 2) q) → ∀ (k : Nat) (nt : Nt) (ft : Nat → Option Nat) (m : MI) (ls : List Value), BF mi o A m → NtM (m (o + 1)) nt → okNt nt → (∀ j, j < 6 → TS h nt.2.2 (nt.1 j)) → (∀ j, j < 6 → m (o + 9) j = fv (ft j)) → (∀ j, j < 6 → ft j = none → (nt.1 j).2.2.2.2 = none) → (∀ j t, j < 6 → ft j = some t → t < 2 ^ 28) → nt.2.2 + k ≤ 100 → 22 ≤ nt.2.2 + k → triR k (nt, ft) = tri σ.2.1 w s f h → Wp yX10_reachFrom cX10_reachFrom 7 (some .int) (EI 6 z sh mr (fun v m => v = some (.int (nI (reaS σ.2.1 w s f h))) ∧ ReP mi o σ w s f h m)) 0 0 183 ([.ref o, .int (nI s), .int (nI (en 27 f)), .int (nI h), .int x] ++ ls) [] z sh m mr := by
    intro A hA k
    induction k with
    | zero =>
      intro nt ft m ls hB hNt hokN hTS h9 hl hb hle hge he
      have he : (nt, ft) = tri σ.2.1 w s f h := he
      have hk0 : keptA nt = 0 := triR_end h7 0 (nt, ft) hokN.1 hTS hge
      refine r_aload_n 0 dX10_reachFrom_183 rfl rfl ?_
      refine r_callVp [] dX10_reachFrom_184 ok_RX10_154 ivX10_keptByAll (by assumption) ⟨_, _, rfl⟩ rfl rfl (Nat.le_of_ble_eq_true rfl) (by refine ⟨?_, ?_, ?_, ?_⟩ <;> exact Nat.le_of_ble_eq_true rfl) (m_kept hL (n := nt) (fun s hs => (hNt.1 s hs).2.2.1.1)) ?_
      rw [hk0]
      refine r_ifN_le 197 dX10_reachFrom_187 (by decide) (by omega) (fun h187 => ?_) (fun h187 => ?_)
      · exact KE A m ls hA hB (by rw [← he]; exact hNt) (by rw [← he]; exact h9) (by rw [← he]; exact fun j t a b => by have := hb j t a b; omega)
      · omega
    | succ k ih =>
      intro nt ft m ls hB hNt hokN hTS h9 hl hb hle hge he
      have hkl : keptA nt ≤ 72 := by
        have := psum_le (f := fun s => (nt.1 s).2.2.1.length) (c := 12) (fun j hj => (hokN.1 j hj).2.2.1.1) 6 (Nat.le_refl _)
        rw [psum6] at this
        exact this
      by_cases hk0 : keptA nt = 0
      · have he : (nt, ft) = tri σ.2.1 w s f h := by rw [← he]; unfold triR; rw [if_pos hk0]
        refine r_aload_n 0 dX10_reachFrom_183 rfl rfl ?_
        refine r_callVp [] dX10_reachFrom_184 ok_RX10_154 ivX10_keptByAll (by assumption) ⟨_, _, rfl⟩ rfl rfl (Nat.le_of_ble_eq_true rfl) (by refine ⟨?_, ?_, ?_, ?_⟩ <;> exact Nat.le_of_ble_eq_true rfl) (m_kept hL (n := nt) (fun s hs => (hNt.1 s hs).2.2.1.1)) ?_
        rw [hk0]
        refine r_ifN_le 197 dX10_reachFrom_187 (by decide) (by omega) (fun h187 => ?_) (fun h187 => ?_)
        · exact KE A m ls hA hB (by rw [← he]; exact hNt) (by rw [← he]; exact h9) (by rw [← he]; exact fun j t a b => by have := hb j t a b; omega)
        · omega
      · have he : triR k (tck nt, fun s => match ft s with
            | some t => some t
            | none => if ((tck nt).1 s).2.2.2.2.isSome = true then some nt.2.2 else none) = tri σ.2.1 w s f h := by
          rw [← he]; conv => rhs; unfold triR
          rw [if_neg hk0]
          rfl
        refine r_aload_n 0 dX10_reachFrom_183 rfl rfl ?_
        refine r_callVp [] dX10_reachFrom_184 ok_RX10_154 ivX10_keptByAll (by assumption) ⟨_, _, rfl⟩ rfl rfl (Nat.le_of_ble_eq_true rfl) (by refine ⟨?_, ?_, ?_, ?_⟩ <;> exact Nat.le_of_ble_eq_true rfl) (m_kept hL (n := nt) (fun s hs => (hNt.1 s hs).2.2.1.1)) ?_
        refine r_ifN_le 197 dX10_reachFrom_187 (by decide) (by omega) (fun h187 => ?_) (fun h187 => ?_)
        · omega
        · refine r_aload_n 0 dX10_reachFrom_190 rfl rfl ?_
          refine r_callVi [] dX10_reachFrom_191 ok_RX10_151 ivX10_tick (by assumption) ⟨_, _, rfl⟩ rfl rfl (Nat.le_of_ble_eq_true rfl) (by refine ⟨?_, ?_, ?_, ?_⟩ <;> exact Nat.le_of_ble_eq_true rfl) (m_tick hL hNt hokN (by omega)) ?_
          intro vA mA uA
          have uA' := uA
          obtain ⟨rfl, u1, u2, u3, u4⟩ := uA
          obtain ⟨v1, v2⟩ := tri_ft h9 hl (fun j t a b => by have := hb j t a b; omega) uA'
          refine r_goto 183 dX10_reachFrom_194 (by decide) ?_
          refine ih (tck nt) _ mA ls (hB.to u4) u1 (okNt_tck hokN) (fun j hj => TS_tckS hokN.1 hTS hj) v1 v2 (fun j t hj ht => ?_) (by show nt.2.2 + 1 + k ≤ 100; omega) (by show 22 ≤ nt.2.2 + 1 + k; omega) he
          cases hq : ft j with
          | some t' =>
            simp only [hq] at ht
            cases ht; exact hb j t hj hq
          | none =>
            simp only [hq] at ht
            split at ht
            · cases ht; omega
            · cases ht
  have KS : ∀ (A : Rw) (m : MI), (∀ q, A q = if 1387 * 2 ≤ q ∧ q < 1387 * 2 + 1387 then mi (o + 1) (q - 1387 * 2) else mi (o + 2) q) → BF mi o A m → RP2 (mi (o + 1)) σ.2.1.2.1 o w 6 m → Wp yX10_reachFrom cX10_reachFrom 7 (some .int) (EI 6 z sh mr (fun v m => v = some (.int (nI (reaS σ.2.1 w s f h))) ∧ ReP mi o σ w s f h m)) 0 0 120 [.ref o, .int (nI s), .int (nI (en 27 f)), .int (nI h), .int x, .int (nI 6)] [] z sh m mr := by
    intro A m hA hB hP
    have hNt := hP.nt hok.2.1.1 hR.2.1.1 (v := nI 0) rfl
    have hokT := okT (w := w) hok.2.1.1
    have hlk := (hokT.1 s hs).lk
    have hc : up2 m (o + 1) 1386 (nI 0) (o + 1) (0 + s) = nI (en 27 (σ.2.1.1 s).1.1) := by rw [Nat.zero_add]; exact (hNt.1 s hs).1.1
    obtain ⟨m2, hm2⟩ : ∃ m2, m2 = up2 (up2 (up2 (up2 (up2 m (o + 1) 1386 (nI 0)) (o + 5) 0 (nI (en 27 (σ.2.1.1 s).1.1))) (o + 5) 1 (nI 1)) (o + 5) 2 (nI 1)) (o + 5) 3 (nI (16 * en 27 f + 2 * h)) := ⟨_, rfl⟩
    have e1 : m2 (o + 1) = up2 m (o + 1) 1386 (nI 0) (o + 1) := by rw [hm2, up2_row _ _ (by omega), up2_row _ _ (by omega), up2_row _ _ (by omega), up2_row _ _ (by omega)]
    have e9 : m2 (o + 9) = m (o + 9) := by rw [hm2, up2_row _ _ (by omega), up2_row _ _ (by omega), up2_row _ _ (by omega), up2_row _ _ (by omega), up2_row _ _ (by omega)]
    have hB2 : BF mi o A m2 := by rw [hm2]; exact ((((hB.up (Or.inl rfl)).up (Or.inr (Or.inl rfl))).up (Or.inr (Or.inl rfl))).up (Or.inr (Or.inl rfl))).up (Or.inr (Or.inl rfl))
    have hPk : PkM (m2 (o + 5)) 0 ((σ.2.1.1 s).1.1, [1], [(f, h, false)]) := by
      rw [hm2]
      refine ⟨?_, ?_, ?_, fun i u hi => ?_⟩
      · rw [up2_ne _ _ (Or.inr (by omega)), up2_ne _ _ (Or.inr (by omega)), up2_ne _ _ (Or.inr (by omega)), up2_same]
      · rw [up2_ne _ _ (Or.inr (by omega)), up2_ne _ _ (Or.inr (by omega)), up2_same]; rfl
      · rw [up2_ne _ _ (Or.inr (by omega)), up2_same]; rfl
      · have hi : [(f, h, false)][i]? = some u := hi
        have hil := gl_lt hi
        have hil : i = 0 := by simp at hil; exact hil
        subst hil
        cases hi
        show up2 _ (o + 5) 3 _ (o + 5) 3 = _
        rw [up2_same]; rfl
    have hNt2 : NtM (m2 (o + 1)) (triN σ.2.1 w) := by rw [e1]; exact hNt
    refine r_aload_n 0 dX10_reachFrom_120 rfl rfl ?_
    refine r_getR dX10_reachFrom_121 fl_RX10_7 rfl (by assumption) (by assumption) ?_
    refine r_sipush (v := nI 1386) dX10_reachFrom_124 (by decide) ?_
    refine r_iconst (v := nI 0) dX10_reachFrom_127 (by decide) ?_
    refine r_iast dX10_reachFrom_128 (by assumption) (by omega) (by omega) ?_
    refine r_aload_n 0 dX10_reachFrom_129 rfl rfl ?_
    refine r_getR dX10_reachFrom_130 fl_RX10_23 rfl (by assumption) (by assumption) ?_
    refine r_iconst (v := nI 0) dX10_reachFrom_133 (by decide) ?_
    refine r_aload_n 0 dX10_reachFrom_134 rfl rfl ?_
    refine r_getR dX10_reachFrom_135 fl_RX10_7 rfl (by assumption) (by assumption) ?_
    refine r_iconst (v := nI 0) dX10_reachFrom_138 (by decide) ?_
    refine r_iload_n 1 dX10_reachFrom_139 rfl rfl ?_
    refine r_iaddN dX10_reachFrom_140 ?_
    refine r_ialdV dX10_reachFrom_141 (by assumption) (by omega) (by omega) (by first | assumption | exact up2_same _ _ _ _ | exact (Eq.trans (up2_ne _ _ (by omega)) (by first | assumption | exact up2_same _ _ _ _)) | exact (Eq.trans (up2_ne _ _ (by omega)) (Eq.trans (up2_ne _ _ (by omega)) (by first | assumption | exact up2_same _ _ _ _))) | exact (Eq.trans (up2_ne _ _ (by omega)) (Eq.trans (up2_ne _ _ (by omega)) (Eq.trans (up2_ne _ _ (by omega)) (by first | assumption | exact up2_same _ _ _ _)))) | exact (Eq.trans (up2_ne _ _ (by omega)) (Eq.trans (up2_ne _ _ (by omega)) (Eq.trans (up2_ne _ _ (by omega)) (Eq.trans (up2_ne _ _ (by omega)) (by first | assumption | exact up2_same _ _ _ _))))) | rfl) ?_
    refine r_iast dX10_reachFrom_142 (by assumption) (by omega) (by omega) ?_
    refine r_aload_n 0 dX10_reachFrom_143 rfl rfl ?_
    refine r_getR dX10_reachFrom_144 fl_RX10_23 rfl (by assumption) (by assumption) ?_
    refine r_iconst (v := nI 1) dX10_reachFrom_147 (by decide) ?_
    refine r_iconst (v := nI 1) dX10_reachFrom_148 (by decide) ?_
    refine r_iast dX10_reachFrom_149 (by assumption) (by omega) (by omega) ?_
    refine r_aload_n 0 dX10_reachFrom_150 rfl rfl ?_
    refine r_getR dX10_reachFrom_151 fl_RX10_23 rfl (by assumption) (by assumption) ?_
    refine r_iconst (v := nI 2) dX10_reachFrom_154 (by decide) ?_
    refine r_iconst (v := nI 1) dX10_reachFrom_155 (by decide) ?_
    refine r_iast dX10_reachFrom_156 (by assumption) (by omega) (by omega) ?_
    refine r_aload_n 0 dX10_reachFrom_157 rfl rfl ?_
    refine r_getR dX10_reachFrom_158 fl_RX10_23 rfl (by assumption) (by assumption) ?_
    refine r_iconst (v := nI 3) dX10_reachFrom_161 (by decide) ?_
    refine r_bipush (v := nI 16) dX10_reachFrom_162 (by decide) ?_
    refine r_iload_n 2 dX10_reachFrom_164 rfl rfl ?_
    refine r_imulN dX10_reachFrom_165 ?_
    refine r_iconst (v := nI 2) dX10_reachFrom_166 (by decide) ?_
    refine r_iload_n 3 dX10_reachFrom_167 rfl rfl ?_
    refine r_imulN dX10_reachFrom_168 ?_
    refine r_iaddN dX10_reachFrom_169 ?_
    refine r_iast dX10_reachFrom_170 (by assumption) (by omega) (by omega) ?_
    rw [← hm2]
    refine r_aload_n 0 dX10_reachFrom_171 rfl rfl ?_
    refine r_iload_n 1 dX10_reachFrom_172 rfl rfl ?_
    refine r_iconst (v := nI 0) dX10_reachFrom_173 (by decide) ?_
    refine r_callVx [_, _] dX10_reachFrom_174 ok_RX10_113 ivX10_keep (by assumption) ⟨_, _, rfl⟩ rfl rfl (Nat.le_of_ble_eq_true rfl) (by refine ⟨?_, ?_, ?_, ?_⟩ <;> exact Nat.le_of_ble_eq_true rfl) (m_keepOk hL hs (l := []) (p := ((σ.2.1.1 s).1.1, [1], [(f, h, false)])) (hNt2.1 s hs).2.2.1 (by show 0 < 12; omega) (fun q hq => by cases hq) hPk (by show 1 ≤ 8; omega)) ?_
    intro mB ⟨uK, uF, uO⟩
    have uS := (hNt2.1 s hs).kp hs hlk uF uK
    have ulk : lk ((σ.2.1.1 s).1, (fun _ => 0), [] ++ [(((σ.2.1.1 s).1.1, [1], [(f, h, false)]), 0)], [], none) := ⟨hlk.1, ⟨by show 1 ≤ 12; omega, fun q hq => by rw [List.mem_singleton.mp hq]; show 1 ≤ 8; omega⟩, Nat.zero_le _, fun q hq => by cases hq⟩
    have uPk : PkM (mB (o + 5)) 0 ((σ.2.1.1 s).1.1, [1], [(f, h, false)]) := by rw [uO _ (by omega)]; exact hPk
    have uNow : mB (o + 1) 1386 = nI 0 := by rw [uF.out (by omega)]; exact hNt2.2.2
    refine r_pop dX10_reachFrom_177 rfl ?_
    refine r_aload_n 0 dX10_reachFrom_178 rfl rfl ?_
    refine r_iload_n 1 dX10_reachFrom_179 rfl rfl ?_
    refine r_callVw [_] dX10_reachFrom_180 ok_RX10_116 ivX10_begin (by assumption) ⟨_, _, rfl⟩ rfl rfl (Nat.le_of_ble_eq_true rfl) (by refine ⟨?_, ?_, ?_, ?_⟩ <;> exact Nat.le_of_ble_eq_true rfl) (m_begin hL hs (l := []) (p := ((σ.2.1.1 s).1.1, [1], [(f, h, false)])) uS.2.2.2.1 (hokT.1 s hs).2.2.2.1 uPk t4 uNow) ?_
    intro mC ⟨vK, vF, vO⟩
    have vS := uS.kn hs ulk vF vK
    refine KT A hA 30 (tri0 σ.2.1 w s f h) (fun _ => none) mC [.int (nI 6)] (hB2.to (fun y hy => by rw [vO y (by omega), uO y (by omega)])) (hNt2.upd hs hokT ((uF.lft (by omega)).tr (vF.lft (by omega))) vS) ⟨t1, fun a b ha hb e => ?_⟩ t2 (fun j hj => ?_) (fun j hj _ => ?_) (fun j t _ e => by cases e) (by show 0 + 30 ≤ 100; omega) (by show 22 ≤ 0 + 30; omega) rfl
    · have g : ∀ j, ((tri0 σ.2.1 w s f h).1 j).1.1 = (σ.2.1.1 j).1.1 := fun j => by (show (upS _ s _ j).1.1 = _; unfold upS; split <;> rename_i c; (rw [c]; rfl); rfl)
      rw [g, g] at e; exact hok.2.1.1.2 a b ha hb e
    · rw [vO _ (by omega), uO _ (by omega), e9]; exact (hP.2.2.1 j hj).2.2
    · show (upS _ s _ j).2.2.2.2 = none; unfold upS; split <;> rfl
  have H2 : ∀ (A : Rw), (∀ q, A q = if 1387 * 2 ≤ q ∧ q < 1387 * 2 + 1387 then mi (o + 1) (q - 1387 * 2) else mi (o + 2) q) → ∀ (t i : Nat) (m : MI), i + t = 6 → BF mi o A m → RP2 (mi (o + 1)) σ.2.1.2.1 o w i m → Wp yX10_reachFrom cX10_reachFrom 7 (some .int) (EI 6 z sh mr (fun v m => v = some (.int (nI (reaS σ.2.1 w s f h))) ∧ ReP mi o σ w s f h m)) 0 0 35 [.ref o, .int (nI s), .int (nI (en 27 f)), .int (nI h), .int x, .int (nI i)] [] z sh m mr := by
    intro A hA t
    induction t with
    | zero =>
      intro i m hi hB hP
      have hi : i = 6 := hi
      subst hi
      refine r_iload 5 dX10_reachFrom_35 rfl ?_
      refine r_bipush (v := nI 6) dX10_reachFrom_37 (by decide) ?_
      refine r_icmpN_ge 120 dX10_reachFrom_39 (by decide) (by omega) (by omega) (fun h39 => ?_) (fun h39 => ?_)
      · exact KS A m hA hB hP
      · omega
    | succ t ih =>
      intro i m hi hB hP
      have hi6 : i < 6 := by omega
      rcases hx with ⟨hw, hxx⟩ | ⟨q, hq6, hw, hxx⟩
      · subst hw hxx
        refine r_iload 5 dX10_reachFrom_35 rfl ?_
        refine r_bipush (v := nI 6) dX10_reachFrom_37 (by decide) ?_
        refine r_icmpN_ge 120 dX10_reachFrom_39 (by decide) (by omega) (by omega) (fun h39 => ?_) (fun h39 => ?_)
        · omega
        · refine r_aload_n 0 dX10_reachFrom_42 rfl rfl ?_
          refine r_getR dX10_reachFrom_43 fl_RX10_7 rfl (by assumption) (by assumption) ?_
          refine r_sipush (v := nI 150) dX10_reachFrom_46 (by decide) ?_
          refine r_iload 5 dX10_reachFrom_49 rfl ?_
          refine r_iaddN dX10_reachFrom_51 ?_
          refine r_iconst (v := nI 0) dX10_reachFrom_52 (by decide) ?_
          refine r_iast dX10_reachFrom_53 (by assumption) (by omega) (by omega) ?_
          refine r_aload_n 0 dX10_reachFrom_54 rfl rfl ?_
          refine r_getR dX10_reachFrom_55 fl_RX10_7 rfl (by assumption) (by assumption) ?_
          refine r_sipush (v := nI 1020) dX10_reachFrom_58 (by decide) ?_
          refine r_iload 5 dX10_reachFrom_61 rfl ?_
          refine r_iaddN dX10_reachFrom_63 ?_
          refine r_iconst (v := nI 0) dX10_reachFrom_64 (by decide) ?_
          refine r_iast dX10_reachFrom_65 (by assumption) (by omega) (by omega) ?_
          refine r_aload_n 0 dX10_reachFrom_66 rfl rfl ?_
          refine r_getR dX10_reachFrom_67 fl_RX10_35 rfl (by assumption) (by assumption) ?_
          refine r_iload 5 dX10_reachFrom_70 rfl ?_
          refine r_bipush (v := -6) dX10_reachFrom_72 (by decide) ?_
          refine r_iast dX10_reachFrom_74 (by assumption) (by omega) (by omega) ?_
          refine r_iload 4 dX10_reachFrom_75 rfl ?_
          refine r_if_lt 114 dX10_reachFrom_77 (by decide) (fun h77 => ?_) (fun h77 => ?_)
          · refine r_iincN 5 (b := 1) (ls2 := [_, _, _, _, _, _]) dX10_reachFrom_114 rfl (by decide) (by decide) rfl ?_
            refine r_goto 35 dX10_reachFrom_117 (by decide) ?_
            refine ih (i + 1) _ (by omega) (((hB.up (Or.inl rfl)).up (Or.inl rfl)).up (Or.inr (Or.inr rfl))) (hP.step hi6 ?_ (fun y y1 y2 y3 => ?_) ?_ ?_ (fun a b ha hb => ?_))
            · funext y
              by_cases e : y = i
              · rw [e, up2_same, up2_same]
              · rw [up2_ne _ _ (Or.inr e), up2_ne _ _ (Or.inr e), up2_row _ _ (by omega), up2_row _ _ (by omega)]
            · rw [up2_row _ _ (by omega), up2_ne _ _ (Or.inr y2), up2_ne _ _ (Or.inr y1)]
            · rw [up2_row _ _ (by omega), up2_ne _ _ (Or.inr (by omega)), up2_same]
            · rw [up2_row _ _ (by omega), up2_same]
            · rw [up2_row _ _ (by omega), up2_ne _ _ (Or.inr (by omega)), up2_ne _ _ (Or.inr (by omega)), hP.2.2.2 a b ha hb, nrW_n, nrW_n]
          · exact absurd (by decide) h77
      · subst hw hxx
        refine r_iload 5 dX10_reachFrom_35 rfl ?_
        refine r_bipush (v := nI 6) dX10_reachFrom_37 (by decide) ?_
        refine r_icmpN_ge 120 dX10_reachFrom_39 (by decide) (by omega) (by omega) (fun h39 => ?_) (fun h39 => ?_)
        · omega
        · refine r_aload_n 0 dX10_reachFrom_42 rfl rfl ?_
          refine r_getR dX10_reachFrom_43 fl_RX10_7 rfl (by assumption) (by assumption) ?_
          refine r_sipush (v := nI 150) dX10_reachFrom_46 (by decide) ?_
          refine r_iload 5 dX10_reachFrom_49 rfl ?_
          refine r_iaddN dX10_reachFrom_51 ?_
          refine r_iconst (v := nI 0) dX10_reachFrom_52 (by decide) ?_
          refine r_iast dX10_reachFrom_53 (by assumption) (by omega) (by omega) ?_
          refine r_aload_n 0 dX10_reachFrom_54 rfl rfl ?_
          refine r_getR dX10_reachFrom_55 fl_RX10_7 rfl (by assumption) (by assumption) ?_
          refine r_sipush (v := nI 1020) dX10_reachFrom_58 (by decide) ?_
          refine r_iload 5 dX10_reachFrom_61 rfl ?_
          refine r_iaddN dX10_reachFrom_63 ?_
          refine r_iconst (v := nI 0) dX10_reachFrom_64 (by decide) ?_
          refine r_iast dX10_reachFrom_65 (by assumption) (by omega) (by omega) ?_
          refine r_aload_n 0 dX10_reachFrom_66 rfl rfl ?_
          refine r_getR dX10_reachFrom_67 fl_RX10_35 rfl (by assumption) (by assumption) ?_
          refine r_iload 5 dX10_reachFrom_70 rfl ?_
          refine r_bipush (v := -6) dX10_reachFrom_72 (by decide) ?_
          refine r_iast dX10_reachFrom_74 (by assumption) (by omega) (by omega) ?_
          refine r_iload 4 dX10_reachFrom_75 rfl ?_
          refine r_ifN_lt 114 dX10_reachFrom_77 (by decide) (by omega) ?_
          refine r_aload_n 0 dX10_reachFrom_80 rfl rfl ?_
          refine r_getR dX10_reachFrom_81 fl_RX10_7 rfl (by assumption) (by assumption) ?_
          refine r_bipush (v := nI 60) dX10_reachFrom_84 (by decide) ?_
          refine r_bipush (v := nI 6) dX10_reachFrom_86 (by decide) ?_
          refine r_iload 5 dX10_reachFrom_88 rfl ?_
          refine r_imulN dX10_reachFrom_90 ?_
          refine r_iaddN dX10_reachFrom_91 ?_
          refine r_iload 4 dX10_reachFrom_92 rfl ?_
          refine r_iaddN dX10_reachFrom_94 ?_
          refine r_iconst (v := nI 0) dX10_reachFrom_95 (by decide) ?_
          refine r_iast dX10_reachFrom_96 (by assumption) (by omega) (by omega) ?_
          refine r_aload_n 0 dX10_reachFrom_97 rfl rfl ?_
          refine r_getR dX10_reachFrom_98 fl_RX10_7 rfl (by assumption) (by assumption) ?_
          refine r_bipush (v := nI 60) dX10_reachFrom_101 (by decide) ?_
          refine r_bipush (v := nI 6) dX10_reachFrom_103 (by decide) ?_
          refine r_iload 4 dX10_reachFrom_105 rfl ?_
          refine r_imulN dX10_reachFrom_107 ?_
          refine r_iaddN dX10_reachFrom_108 ?_
          refine r_iload 5 dX10_reachFrom_109 rfl ?_
          refine r_iaddN dX10_reachFrom_111 ?_
          refine r_iconst (v := nI 0) dX10_reachFrom_112 (by decide) ?_
          refine r_iast dX10_reachFrom_113 (by assumption) (by omega) (by omega) ?_
          refine r_iincN 5 (b := 1) (ls2 := [_, _, _, _, _, _]) dX10_reachFrom_114 rfl (by decide) (by decide) rfl ?_
          refine r_goto 35 dX10_reachFrom_117 (by decide) ?_
          refine ih (i + 1) _ (by omega) (((((hB.up (Or.inl rfl)).up (Or.inl rfl)).up (Or.inr (Or.inr rfl))).up (Or.inl rfl)).up (Or.inl rfl)) (hP.step hi6 ?_ (fun y y1 y2 y3 => ?_) ?_ ?_ (fun a b ha hb => ?_))
          · rw [up2_row _ _ (by omega), up2_row _ _ (by omega)]
            funext y
            by_cases e : y = i
            · rw [e, up2_same, up2_same]
            · rw [up2_ne _ _ (Or.inr e), up2_ne _ _ (Or.inr e), up2_row _ _ (by omega), up2_row _ _ (by omega)]
          · rw [up2_ne _ _ (Or.inr (by omega)), up2_ne _ _ (Or.inr (by omega)), up2_row _ _ (by omega), up2_ne _ _ (Or.inr y2), up2_ne _ _ (Or.inr y1)]
          · rw [up2_ne _ _ (Or.inr (by omega)), up2_ne _ _ (Or.inr (by omega)), up2_row _ _ (by omega), up2_ne _ _ (Or.inr (by omega)), up2_same]
          · rw [up2_ne _ _ (Or.inr (by omega)), up2_ne _ _ (Or.inr (by omega)), up2_row _ _ (by omega), up2_same]
          · by_cases c1 : a = q ∧ b = i
            · rw [c1.1, c1.2, up2_same]; simp [nrW, bn]
            · rw [up2_ne _ _ (Or.inr (by omega))]
              by_cases c2 : a = i ∧ b = q
              · rw [c2.1, c2.2, up2_same]; simp [nrW, bn]
              · rw [up2_ne _ _ (Or.inr (by omega)), up2_row _ _ (by omega), up2_ne _ _ (Or.inr (by omega)), up2_ne _ _ (Or.inr (by omega)), hP.2.2.2 a b ha hb, nrW_s c1 c2]
  have H1 : ∀ (A : Rw), (∀ q, A q = if 1387 * 2 ≤ q ∧ q < 1387 * 2 + 1387 then mi (o + 1) (q - 1387 * 2) else mi (o + 2) q) → ∀ (t i : Nat) (m : MI), i + t = 54 → BF mi o A m → (∀ q, m (o + 1) q = if 96 ≤ q ∧ q < 96 + i then nI 0 else mi (o + 1) q) → Wp yX10_reachFrom cX10_reachFrom 7 (some .int) (EI 6 z sh mr (fun v m => v = some (.int (nI (reaS σ.2.1 w s f h))) ∧ ReP mi o σ w s f h m)) 0 0 8 [.ref o, .int (nI s), .int (nI (en 27 f)), .int (nI h), .int x, .int (nI i)] [] z sh m mr := by
    intro A hA t
    induction t with
    | zero =>
      intro i m hi hB hm
      have hi : i = 54 := hi
      subst hi
      refine r_iload 5 dX10_reachFrom_8 rfl ?_
      refine r_bipush (v := nI 54) dX10_reachFrom_10 (by decide) ?_
      refine r_icmpN_ge 32 dX10_reachFrom_12 (by decide) (by omega) (by omega) (fun h12 => ?_) (fun h12 => ?_)
      · refine r_iconst (v := nI 0) dX10_reachFrom_32 (by decide) ?_
        refine r_istore 5 (ls2 := [_, _, _, _, _, _]) dX10_reachFrom_33 (by decide) (Nat.le_of_ble_eq_true rfl) rfl ?_
        refine H2 A hA 6 0 m rfl hB ⟨fun q hq => by rw [hm, if_neg (by omega)], fun q q1 q2 => by rw [hm, if_pos (by omega)], fun j hj => by omega, fun a b ha hb => ?_⟩
        rw [hm, if_neg (by omega), nrW_0]; exact hR.2.1.1.2.1 a b ha hb
      · omega
    | succ t ih =>
      intro i m hi hB hm
      refine r_iload 5 dX10_reachFrom_8 rfl ?_
      refine r_bipush (v := nI 54) dX10_reachFrom_10 (by decide) ?_
      refine r_icmpN_ge 32 dX10_reachFrom_12 (by decide) (by omega) (by omega) (fun h12 => ?_) (fun h12 => ?_)
      · omega
      · refine r_aload_n 0 dX10_reachFrom_15 rfl rfl ?_
        refine r_getR dX10_reachFrom_16 fl_RX10_7 rfl (by assumption) (by assumption) ?_
        refine r_bipush (v := nI 96) dX10_reachFrom_19 (by decide) ?_
        refine r_iload 5 dX10_reachFrom_21 rfl ?_
        refine r_iaddN dX10_reachFrom_23 ?_
        refine r_iconst (v := nI 0) dX10_reachFrom_24 (by decide) ?_
        refine r_iast dX10_reachFrom_25 (by assumption) (by omega) (by omega) ?_
        refine r_iincN 5 (b := 1) (ls2 := [_, _, _, _, _, _]) dX10_reachFrom_26 rfl (by decide) (by decide) rfl ?_
        refine r_goto 8 dX10_reachFrom_29 (by decide) ?_
        refine ih (i + 1) _ (by omega) (hB.up (Or.inl rfl)) (fun q => ?_)
        by_cases e : q = 96 + i
        · rw [e, up2_same, if_pos (by omega)]
        · rw [up2_ne _ _ (Or.inr e), hm]
          by_cases c : 96 ≤ q ∧ q < 96 + i
          · rw [if_pos c, if_pos (by omega)]
          · rw [if_neg c, if_neg (by omega)]
  refine Mv.of pnX10_reachFrom (Nat.le_of_ble_eq_true rfl) rfl ?_
  refine r_aload_n 0 dX10_reachFrom_0 rfl rfl ?_
  refine r_iconst (v := nI 2) dX10_reachFrom_1 (by decide) ?_
  refine r_callVw [_] dX10_reachFrom_2 ok_RX10_184 ivX10_save (by assumption) ⟨_, _, rfl⟩ rfl rfl (Nat.le_of_ble_eq_true rfl) (by refine ⟨?_, ?_, ?_, ?_⟩ <;> exact Nat.le_of_ble_eq_true rfl) (m_save hL (k := 2) (by omega)) ?_
  intro mA ⟨u1, u2⟩
  refine r_iconst (v := nI 0) dX10_reachFrom_5 (by decide) ?_
  refine r_istore 5 (ls2 := [_, _, _, _, _, _]) dX10_reachFrom_6 (by decide) (Nat.le_of_ble_eq_true rfl) rfl ?_
  exact H1 (mA (o + 2)) u1 54 0 mA rfl ⟨fun y hy => u2 y (by omega), rfl⟩ (fun q => by rw [if_neg (by omega), u2 _ (by omega)])
end RTRI
