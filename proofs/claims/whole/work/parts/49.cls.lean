section CLS
variable {z : Nat} {sh : SH} {mi : MI} {mr : MR} {x : Nat}
def LPW (sh : SH) (mr : MR) (x : Nat) : Prop := sh x = (9, 0) ∧ (mr x 0 = some (x + 1) ∧ LPd sh mr (x + 1)) ∧ (mr x 1 = some (x + 3) ∧ LNt sh mr (x + 3)) ∧ (mr x 2 = some (x + 264) ∧ LTr sh mr (x + 264)) ∧ (mr x 3 = some (x + 528) ∧ sh (x + 528) = (13, 2)) ∧ (mr x 4 = some (x + 529) ∧ LPk sh mr (x + 529)) ∧ (mr x 5 = some (x + 531) ∧ LWr sh mr (x + 531))
def ImC (z : Nat) (sh : SH) (mi : MI) (mr : MR) (x : Nat) (k : Nat) (o : Option Nt) : Prop := match o with
  | none => mr (x + 528) k = none
  | some n => ∃ y, mr (x + 528) k = some y ∧ x + 544 ≤ y ∧ y + 261 ≤ z ∧ LNt sh mr y ∧ NtC mi mr y n
def CR (z : Nat) (sh : SH) (mi : MI) (mr : MR) (x : Nat) (σ : Al) : Prop := LPW sh mr x ∧ PdC mi (x + 1) σ.1 ∧ NtC mi mr (x + 3) σ.2.1 ∧ (∀ s, s < 6 → KpR mr (x + 264 + 1 + 3 + 43 * s + 6)) ∧ (∀ k, k < 2 → ImC z sh mi mr x k (σ.2.2 k)) ∧ ∀ y0 y1, mr (x + 528) 0 = some y0 → mr (x + 528) 1 = some y1 → y0 + 261 ≤ y1 ∨ y1 + 261 ≤ y0
theorem LPd.mv {r : MR} {a : Nat} (h : MrOk sh mr r) (hL : LPd sh mr a) : LPd sh r a := ⟨hL.1, by rw [h a (by rw [hL.1]; decide)]; exact hL.2.1, hL.2.2⟩
theorem LWr.mv {r : MR} {a : Nat} (h : MrOk sh mr r) (hL : LWr sh mr a) : LWr sh r a := ⟨hL.1, by rw [h a (by rw [hL.1]; decide)]; exact hL.2.1, hL.2.2⟩
theorem LPW.mv {r : MR} (h : MrOk sh mr r) (hL : LPW sh mr x) : LPW sh r x := by
  obtain ⟨l0, ⟨l1, l2⟩, ⟨l3, l4⟩, ⟨l5, l6⟩, ⟨l7, l8⟩, ⟨l9, l10⟩, ⟨l11, l12⟩⟩ := hL
  have e := h x (by rw [l0]; decide)
  exact ⟨l0, ⟨by rw [e]; exact l1, l2.mv h⟩, ⟨by rw [e]; exact l3, l4.mv h⟩, ⟨by rw [e]; exact l5, l6.mv h⟩, ⟨by rw [e]; exact l7, l8⟩, ⟨by rw [e]; exact l9, l10.mv h⟩, ⟨by rw [e]; exact l11, l12.mv h⟩⟩
theorem NtC.keep2 {m m' : MI} {r r' : MR} {y : Nat} {n : Nt} (h : NtC m r y n) (hl : ∀ s, s < 6 → (n.1 s).2.2.1.length ≤ 12) (hx : ∀ q, y ≤ q → q < y + 261 → m' q = m q ∧ r' q = r q) : NtC m' r' y n := ⟨by rw [(hx y (by omega) (by omega)).1]; exact h.1, fun s hs => ⟨by rw [(hx (y + 2) (by omega) (by omega)).1]; exact (h.2 s hs).1, (h.2 s hs).2.keep2 (hl s hs) (fun q q1 q2 => (hx q (by omega) (by omega)).1) (hx _ (by omega) (by omega)).2⟩⟩
theorem KpR.keep {r r' : MR} {y : Nat} (h : KpR r y) (hx : r' (y + 1) = r (y + 1)) : KpR r' y := by unfold KpR at *; rw [hx]; exact h
theorem okNt_len {n : Nt} (h : okNt n) : ∀ s, s < 6 → (n.1 s).2.2.1.length ≤ 12 := fun s hs => (h.1 s hs).2.2.1.1
/-- rows of the class stay: it holds what it held -/
theorem CR.keep {σ : Al} {N : Nat} {m : MI} {r : MR} (h : CR z sh mi mr x σ) (hok : okA σ N) (hr : MrOk sh mr r) (hx : ∀ q, (x + 1 ≤ q ∧ q < x + 264 ∧ q ≠ x + 1) ∨ (x + 265 ≤ q ∧ q < x + 529) ∨ x + 544 ≤ q → (m q = mi q ∧ r q = mr q) ∨ (x + 265 ≤ q ∧ q < x + 526 ∧ r q = mr q)) (hp : m (x + 1) 1 = mi (x + 1) 1) : CR z sh m r x σ := by
  obtain ⟨h1, h2, h3, h4, h5, h6⟩ := h
  have g : ∀ q, (x + 1 ≤ q ∧ q < x + 264 ∧ q ≠ x + 1) ∨ x + 526 ≤ q ∧ q < x + 529 ∨ x + 544 ≤ q → m q = mi q ∧ r q = mr q := fun q hq => by
    rcases hx q (by omega) with e | e
    · exact e
    · omega
  have e528 := (g (x + 528) (by omega)).2
  refine ⟨h1.mv hr, h2.keep hp (g (x + 1 + 1) (by omega)).1, h3.keep2 (okNt_len hok.2.1.1) (fun q q1 q2 => g q (by omega)), fun s hs => (h4 s hs).keep ?_, fun k hk => ?_, ?_⟩
  · rcases hx (x + 264 + 1 + 3 + 43 * s + 6 + 1) (by omega) with e | e
    · exact e.2
    · exact e.2.2
  · have := h5 k hk
    unfold ImC at *
    cases ho : σ.2.2 k with
    | none => rw [ho] at this; simp only at this ⊢; rw [e528]; exact this
    | some n =>
      rw [ho] at this
      simp only at this ⊢
      obtain ⟨y, y1, y2, y3, y4, y5⟩ := this
      exact ⟨y, by rw [e528]; exact y1, y2, y3, y4.mv hr, y5.keep2 (okNt_len (hok.2.2 k hk n ho).1) (fun q q1 q2 => g q (by omega))⟩
  · rw [e528]; exact h6
theorem CR.pad {σ : Al} {N : Nat} {m : MI} {P : List Nat} (h : CR z sh mi mr x σ) (hok : okA σ N) (hP : PdC m (x + 1) P) (hx : ∀ q, q ≠ x + 1 → q ≠ x + 2 → m q = mi q) : CR z sh m mr x (P, σ.2) := by
  obtain ⟨h1, h2, h3, h4, h5, h6⟩ := h
  refine ⟨h1, hP, h3.keep (okNt_len hok.2.1.1) (fun q q1 q2 => hx q (by omega) (by omega)), h4, fun k hk => ?_, h6⟩
  have := h5 k hk
  unfold ImC at *
  cases ho : σ.2.2 k with
  | none => rw [ho] at this; simp only at this ⊢; exact this
  | some n =>
    rw [ho] at this
    simp only at this ⊢
    obtain ⟨y, y1, y2, y3, y4, y5⟩ := this
    exact ⟨y, y1, y2, y3, y4, y5.keep (okNt_len (hok.2.2 k hk n ho).1) (fun q q1 q2 => hx q (by omega) (by omega))⟩
theorem CR.net {σ : Al} {N : Nat} {m : MI} {r : MR} {n' : Nt} (h : CR z sh mi mr x σ) (hok : okA σ N) (hr : MrOk sh mr r) (hn : NtC m r (x + 3) n') (hx : ∀ q, (q < x + 3 ∨ x + 264 ≤ q) → m q = mi q ∧ r q = mr q) : CR z sh m r x (σ.1, n', σ.2.2) := by
  obtain ⟨h1, h2, h3, h4, h5, h6⟩ := h
  have e528 := (hx (x + 528) (by omega)).2
  refine ⟨h1.mv hr, h2.keep (by rw [(hx (x + 1) (by omega)).1]) (hx (x + 1 + 1) (by omega)).1, hn, fun s hs => (h4 s hs).keep (hx _ (by omega)).2, fun k hk => ?_, by rw [e528]; exact h6⟩
  have := h5 k hk
  unfold ImC at *
  show match σ.2.2 k with
    | none => _
    | some n => _
  cases ho : σ.2.2 k with
  | none => rw [ho] at this; simp only at this ⊢; rw [e528]; exact this
  | some n =>
    rw [ho] at this
    simp only at this ⊢
    obtain ⟨y, y1, y2, y3, y4, y5⟩ := this
    exact ⟨y, by rw [e528]; exact y1, y2, y3, y4.mv hr, y5.keep2 (okNt_len (hok.2.2 k hk n ho).1) (fun q q1 q2 => hx q (by omega))⟩
/-- the end of a call of the class -/
def PC (z : Nat) (sh : SH) (mi : MI) (mr : MR) (x : Nat) (p : Int32 × Al) : Option Value → MI → MR → Prop := fun v m r => v = some (.int p.1) ∧ CR z sh m r x p.2 ∧ ∀ q, x + 533 ≤ q → q < x + 544 → m q = mi q ∧ r q = mr q
theorem PC.same {σ : Al} {a : Int32} (h : CR z sh mi mr x σ) : PC z sh mi mr x (a, σ) (some (.int a)) mi mr := ⟨rfl, h, fun _ _ _ => ⟨rfl, rfl⟩⟩
theorem inB_lo {s a b : Int32} (h : s < a) : inB s a b = false := by unfold inB; simp [h]
theorem inB_hi {s a b : Int32} (h : ¬ s ≤ b) : inB s a b = false := by unfold inB; simp [Int32.not_le.mp h]
theorem inB_hi' {s a b : Int32} (h : b < s) : inB s a b = false := by unfold inB; simp [h]
theorem inB_ok {s a b : Int32} (h1 : ¬ s < a) (h2 : s ≤ b) : inB s a b = true := by unfold inB; simp [h1, Int32.not_lt.mpr h2]
theorem inB_ok' {s a b : Int32} (h1 : ¬ s < a) (h2 : ¬ b < s) : inB s a b = true := by unfold inB; simp [h1, h2]
theorem k_say {σ : Al} {N : Nat} (hC : CR z sh mi mr x σ) (hok : okA σ N) (s : Int32) : Mm mX9_say 1 [.ref x, .int s] z sh mi mr (PC z sh mi mr x (sp_say σ s)) := by
  obtain ⟨hLL, c2, c3, c4, c5, c6⟩ := id hC
  obtain ⟨l0, ⟨l1, l2⟩, ⟨l3, l4⟩, ⟨l5, l6⟩, ⟨l7, l8⟩, ⟨l9, l10⟩, ⟨l11, l12⟩⟩ := id hLL
  have pd0 := l2.1
  have pd1 := c2.1
  have h40 := hok.1.1
  have hnt := okNt_len hok.2.1.1
  obtain ⟨n0, n1, n2, n3, n4, n5⟩ := id l4
  have K15 : inB s (nI 33) (nI 126) = true → Wp yX9_say cX9_say 2 (some .int) (EM 1 z sh (PC z sh mi mr x (sp_say σ s))) 0 0 15 [.ref x, .int s] [] z sh mi mr := by
    intro hin
    obtain ⟨k, k1, k2, rfl⟩ := inB_ex (by omega) hin (by omega)
    have hkk : sk (nI k) = k := sk_nI (by omega)
    refine r_aload_n 0 dX9_say_15 rfl rfl ?_
    refine r_getR dX9_say_16 fl_RX9_10 rfl (by assumption) (by assumption) ?_
    refine r_getV dX9_say_19 fl_RX9_48 rfl (by assumption) (by first | assumption | exact up2_same _ _ _ _ | exact (Eq.trans (up2_ne _ _ (by omega)) (by first | assumption | exact up2_same _ _ _ _)) | exact (Eq.trans (up2_ne _ _ (by omega)) (Eq.trans (up2_ne _ _ (by omega)) (by first | assumption | exact up2_same _ _ _ _))) | exact (Eq.trans (up2_ne _ _ (by omega)) (Eq.trans (up2_ne _ _ (by omega)) (Eq.trans (up2_ne _ _ (by omega)) (by first | assumption | exact up2_same _ _ _ _)))) | exact (Eq.trans (up2_ne _ _ (by omega)) (Eq.trans (up2_ne _ _ (by omega)) (Eq.trans (up2_ne _ _ (by omega)) (Eq.trans (up2_ne _ _ (by omega)) (by first | assumption | exact up2_same _ _ _ _))))) | rfl) ?_
    refine r_bipush (v := nI 40) dX9_say_22 (by decide) ?_
    refine r_icmpN_lt 30 dX9_say_24 (by decide) (by omega) (by omega) (fun h24 => ?_) (fun h24 => ?_)
    · refine r_aload_n 0 dX9_say_30 rfl rfl ?_
      refine r_getR dX9_say_31 fl_RX9_10 rfl (by assumption) (by assumption) ?_
      refine r_iload_n 1 dX9_say_34 rfl rfl ?_
      refine r_callVw [_] dX9_say_35 ok_RX9_52 ivX5_add (by assumption) ⟨_, _, rfl⟩ rfl rfl (Nat.le_of_ble_eq_true rfl) (by refine ⟨?_, ?_, ?_, ?_⟩ <;> exact Nat.le_of_ble_eq_true rfl) (c_pdAdd l2 pd1 (by omega)) ?_
      intro m hm
      have m1 : m (x + 1) 1 = nI (σ.1.length + 1) := by rw [hm, up2_same]
      refine r_aload_n 0 dX9_say_38 rfl rfl ?_
      refine r_getR dX9_say_39 fl_RX9_10 rfl (by assumption) (by assumption) ?_
      refine r_getV dX9_say_42 fl_RX9_48 rfl (by assumption) (by first | assumption | exact up2_same _ _ _ _ | exact (Eq.trans (up2_ne _ _ (by omega)) (by first | assumption | exact up2_same _ _ _ _)) | exact (Eq.trans (up2_ne _ _ (by omega)) (Eq.trans (up2_ne _ _ (by omega)) (by first | assumption | exact up2_same _ _ _ _))) | exact (Eq.trans (up2_ne _ _ (by omega)) (Eq.trans (up2_ne _ _ (by omega)) (Eq.trans (up2_ne _ _ (by omega)) (by first | assumption | exact up2_same _ _ _ _)))) | exact (Eq.trans (up2_ne _ _ (by omega)) (Eq.trans (up2_ne _ _ (by omega)) (Eq.trans (up2_ne _ _ (by omega)) (Eq.trans (up2_ne _ _ (by omega)) (by first | assumption | exact up2_same _ _ _ _))))) | rfl) ?_
      refine r_iret dX9_say_45 rfl (Nat.le_of_ble_eq_true rfl) (Nat.le_of_ble_eq_true rfl) ?_
      have e : sp_say σ (nI k) = (nI (σ.1.length + 1), (σ.1 ++ [k], σ.2)) := by unfold sp_say; rw [if_pos hin, if_neg (by omega), hkk]
      rw [e]
      refine ⟨rfl, rfl, rfl, hC.pad hok ⟨?_, fun i y hy => ?_⟩ (fun q q1 q2 => by rw [hm, up2_row _ _ q1, up2_row _ _ (by omega)]), fun q q1 q2 => ⟨by rw [hm, up2_row _ _ (by omega), up2_row _ _ (by omega)], rfl⟩⟩
      · rw [m1]; simp
      · rw [hm, up2_row _ _ (by omega)]
        by_cases e' : i = σ.1.length
        · subst e'
          rw [List.getElem?_append_right (Nat.le_refl _), Nat.sub_self] at hy
          cases hy
          exact up2_same _ _ _ _
        · have hil := gl_lt hy
          rw [List.length_append] at hil
          simp at hil
          rw [List.getElem?_append_left (by omega)] at hy
          rw [up2_ne _ _ (Or.inr e')]; exact c2.2 i y hy
    · have e : sp_say σ (nI k) = (-4, σ) := by unfold sp_say; rw [if_pos hin, if_pos (by omega)]
      refine r_bipush (v := -4) dX9_say_27 (by decide) ?_
      refine r_iret dX9_say_29 rfl (Nat.le_refl _) (Nat.le_refl _) ?_
      rw [e]
      exact ⟨rfl, rfl, PC.same hC⟩
  refine Mv.of pnX9_say (Nat.le_of_ble_eq_true rfl) rfl ?_
  refine r_iload_n 1 dX9_say_0 rfl rfl ?_
  refine r_bipush (v := nI 33) dX9_say_1 (by decide) ?_
  refine r_icmp_lt 12 dX9_say_3 (by decide) (fun h3 => ?_) (fun h3 => ?_)
  · refine r_bipush (v := -2) dX9_say_12 (by decide) ?_
    refine r_iret dX9_say_14 rfl (Nat.le_of_ble_eq_true rfl) (Nat.le_of_ble_eq_true rfl) ?_
    have e : sp_say σ s = (-2, σ) := by unfold sp_say; rw [if_neg (by first | (rw [inB_lo h3]; decide) | (rw [inB_hi h9]; decide))]
    rw [e]
    exact ⟨rfl, rfl, PC.same hC⟩
  · refine r_iload_n 1 dX9_say_6 rfl rfl ?_
    refine r_bipush (v := nI 126) dX9_say_7 (by decide) ?_
    refine r_icmp_le 15 dX9_say_9 (by decide) (fun h9 => ?_) (fun h9 => ?_)
    · exact K15 (inB_ok h3 h9)
    · refine r_bipush (v := -2) dX9_say_12 (by decide) ?_
      refine r_iret dX9_say_14 rfl (Nat.le_of_ble_eq_true rfl) (Nat.le_of_ble_eq_true rfl) ?_
      have e : sp_say σ s = (-2, σ) := by unfold sp_say; rw [if_neg (by first | (rw [inB_lo h3]; decide) | (rw [inB_hi h9]; decide))]
      rw [e]
      exact ⟨rfl, rfl, PC.same hC⟩
theorem k_wipe {σ : Al} {N : Nat} (hC : CR z sh mi mr x σ) (hok : okA σ N) : Mm mX9_wipe 1 [.ref x] z sh mi mr (PC z sh mi mr x (sp_wipe σ)) := by
  obtain ⟨hLL, c2, c3, c4, c5, c6⟩ := id hC
  obtain ⟨l0, ⟨l1, l2⟩, ⟨l3, l4⟩, ⟨l5, l6⟩, ⟨l7, l8⟩, ⟨l9, l10⟩, ⟨l11, l12⟩⟩ := id hLL
  have pd0 := l2.1
  have pd1 := c2.1
  have h40 := hok.1.1
  have hnt := okNt_len hok.2.1.1
  obtain ⟨n0, n1, n2, n3, n4, n5⟩ := id l4
  refine Mv.of pnX9_wipe (Nat.le_of_ble_eq_true rfl) rfl ?_
  refine r_aload_n 0 dX9_wipe_0 rfl rfl ?_
  refine r_getR dX9_wipe_1 fl_RX9_10 rfl (by assumption) (by assumption) ?_
  refine r_getV dX9_wipe_4 fl_RX9_48 rfl (by assumption) (by first | assumption | exact up2_same _ _ _ _ | exact (Eq.trans (up2_ne _ _ (by omega)) (by first | assumption | exact up2_same _ _ _ _)) | exact (Eq.trans (up2_ne _ _ (by omega)) (Eq.trans (up2_ne _ _ (by omega)) (by first | assumption | exact up2_same _ _ _ _))) | exact (Eq.trans (up2_ne _ _ (by omega)) (Eq.trans (up2_ne _ _ (by omega)) (Eq.trans (up2_ne _ _ (by omega)) (by first | assumption | exact up2_same _ _ _ _)))) | exact (Eq.trans (up2_ne _ _ (by omega)) (Eq.trans (up2_ne _ _ (by omega)) (Eq.trans (up2_ne _ _ (by omega)) (Eq.trans (up2_ne _ _ (by omega)) (by first | assumption | exact up2_same _ _ _ _))))) | rfl) ?_
  refine r_istore_n 1 (ls2 := [_, _]) dX9_wipe_7 rfl (by decide) (Nat.le_of_ble_eq_true rfl) rfl ?_
  refine r_aload_n 0 dX9_wipe_8 rfl rfl ?_
  refine r_getR dX9_wipe_9 fl_RX9_10 rfl (by assumption) (by assumption) ?_
  refine r_callVw [] dX9_wipe_12 ok_RX9_56 ivX5_clear (by assumption) ⟨_, _, rfl⟩ rfl rfl (Nat.le_of_ble_eq_true rfl) (by refine ⟨?_, ?_, ?_, ?_⟩ <;> exact Nat.le_of_ble_eq_true rfl) (c_pdClear l2) ?_
  intro m hm
  refine r_iload_n 1 dX9_wipe_15 rfl rfl ?_
  refine r_iret dX9_wipe_16 rfl (Nat.le_of_ble_eq_true rfl) (Nat.le_of_ble_eq_true rfl) ?_
  refine ⟨rfl, rfl, rfl, hC.pad hok ⟨by rw [hm, up2_same]; rfl, fun i y hy => by simp at hy⟩ (fun q q1 q2 => by rw [hm, up2_row _ _ q1]), fun q q1 q2 => ⟨by rw [hm, up2_row _ _ (by omega)], rfl⟩⟩
theorem CR.scr {σ : Al} {N : Nat} {m : MI} (h : CR z sh mi mr x σ) (hok : okA σ N) (hF : FrA mi m (x + 1) (x + 529)) : CR z sh m mr x σ := h.keep hok MrOk.rf (fun q hq => Or.inl ⟨hF.1 q (by omega) (by omega) (by omega), rfl⟩) (hF.2 1 (by omega))
theorem k_fault {σ : Al} {N : Nat} (hC : CR z sh mi mr x σ) (hok : okA σ N) : Mm mX9_fault 5 [.ref x] z sh mi mr (PC z sh mi mr x (sp_fault σ)) := by
  obtain ⟨hLL, c2, c3, c4, c5, c6⟩ := id hC
  obtain ⟨l0, ⟨l1, l2⟩, ⟨l3, l4⟩, ⟨l5, l6⟩, ⟨l7, l8⟩, ⟨l9, l10⟩, ⟨l11, l12⟩⟩ := id hLL
  have pd0 := l2.1
  have pd1 := c2.1
  have h40 := hok.1.1
  have hnt := okNt_len hok.2.1.1
  obtain ⟨n0, n1, n2, n3, n4, n5⟩ := id l4
  refine Mv.of pnX9_fault (Nat.le_of_ble_eq_true rfl) rfl ?_
  cases hp : prs σ.1 with
  | inl j =>
    refine r_aload_n 0 dX9_fault_0 rfl rfl ?_
    refine r_getR dX9_fault_1 fl_RX9_10 rfl (by assumption) (by assumption) ?_
    refine r_aload_n 0 dX9_fault_4 rfl rfl ?_
    refine r_getR dX9_fault_5 fl_RX9_37 rfl (by assumption) (by assumption) ?_
    refine r_callVi [_] dX9_fault_8 ok_RX9_59 ivX5_readPacket (by assumption) ⟨_, _, rfl⟩ rfl rfl (Nat.le_of_ble_eq_true rfl) (by refine ⟨?_, ?_, ?_, ?_⟩ <;> exact Nat.le_of_ble_eq_true rfl) (c_readPacket l2 l10 (by omega) c2 hok.1) ?_
    intro v m ⟨hF, hv⟩
    rw [hp] at hv
    obtain rfl := hv
    refine r_iret dX9_fault_11 rfl (Nat.le_of_ble_eq_true rfl) (Nat.le_of_ble_eq_true rfl) ?_
    refine ⟨rfl, rfl, ?_, hC.scr hok hF, fun q q1 q2 => ⟨hF.1 q (by omega) (by omega) (by omega), rfl⟩⟩
    unfold sp_fault
    rw [hp]
  | inr p =>
    refine r_aload_n 0 dX9_fault_0 rfl rfl ?_
    refine r_getR dX9_fault_1 fl_RX9_10 rfl (by assumption) (by assumption) ?_
    refine r_aload_n 0 dX9_fault_4 rfl rfl ?_
    refine r_getR dX9_fault_5 fl_RX9_37 rfl (by assumption) (by assumption) ?_
    refine r_callVi [_] dX9_fault_8 ok_RX9_59 ivX5_readPacket (by assumption) ⟨_, _, rfl⟩ rfl rfl (Nat.le_of_ble_eq_true rfl) (by refine ⟨?_, ?_, ?_, ?_⟩ <;> exact Nat.le_of_ble_eq_true rfl) (c_readPacket l2 l10 (by omega) c2 hok.1) ?_
    intro v m ⟨hF, hv⟩
    rw [hp] at hv
    obtain ⟨rfl, hv1, hv2⟩ := hv
    refine r_iret dX9_fault_11 rfl (Nat.le_of_ble_eq_true rfl) (Nat.le_of_ble_eq_true rfl) ?_
    refine ⟨rfl, rfl, ?_, hC.scr hok hF, fun q q1 q2 => ⟨hF.1 q (by omega) (by omega) (by omega), rfl⟩⟩
    unfold sp_fault
    rw [hp]
theorem k_heard {σ : Al} {N : Nat} (hC : CR z sh mi mr x σ) (hok : okA σ N) (hN : N < 2 ^ 27) (s w : Int32) : Mm mX9_heard 1 [.ref x, .int s, .int w] z sh mi mr (PC z sh mi mr x (sp_heard σ s w)) := by
  obtain ⟨hLL, c2, c3, c4, c5, c6⟩ := id hC
  obtain ⟨l0, ⟨l1, l2⟩, ⟨l3, l4⟩, ⟨l5, l6⟩, ⟨l7, l8⟩, ⟨l9, l10⟩, ⟨l11, l12⟩⟩ := id hLL
  have pd0 := l2.1
  have pd1 := c2.1
  have h40 := hok.1.1
  have hnt := okNt_len hok.2.1.1
  obtain ⟨n0, n1, n2, n3, n4, n5⟩ := id l4
  refine Mv.of pnX9_heard (Nat.le_of_ble_eq_true rfl) rfl ?_
  cases hb : stB s with
  | false =>
    refine r_iload_n 1 dX9_heard_0 rfl rfl ?_
    refine r_callSp [_] dX9_heard_1 ok_RX9_63 isX9_isStation rfl rfl (Nat.le_of_ble_eq_true rfl) (by refine ⟨?_, ?_, ?_, ?_⟩ <;> exact Nat.le_of_ble_eq_true rfl) (c_isSt _) ?_
    rw [hb]
    refine r_ifB_ne 9 dX9_heard_4 (by decide) (fun h4 => ?_) (fun h4 => ?_)
    · cases h4
    · refine r_iconst (v := -1) dX9_heard_7 (by decide) ?_
      refine r_iret dX9_heard_8 rfl (Nat.le_of_ble_eq_true rfl) (Nat.le_of_ble_eq_true rfl) ?_
      refine ⟨rfl, rfl, ?_⟩
      have e : sp_heard σ s w = (-1, σ) := by unfold sp_heard; rw [if_pos hb]
      rw [e]
      exact PC.same hC
  | true =>
    obtain ⟨k, hk, rfl⟩ := st_ex hb
    have hkk : sk (nI k) = k := sk_nI (by omega)
    obtain ⟨s1, s2⟩ := n5 k hk
    obtain ⟨t0, ⟨t1, t2⟩, ⟨t3, t4⟩, ⟨t5, t6⟩, ⟨t7, t8⟩, ⟨t9, t10⟩, ⟨t11, t12⟩, ⟨t13, t14⟩, ⟨t15, t16⟩⟩ := id s2
    have hSt := (c3.2 k hk).2
    have hOk := hok.2.1.1.1 k hk
    have hle : ∀ j, j < 9 → (stA σ k).2.1 j < 2 ^ 31 := fun j hj => by have := hOk.2.1 j hj; have := hok.2.1.2.2; show (σ.2.1.1 k).2.1 j < _; omega
    have hkp : mi (x + 3 + 3 + 43 * k + 6) 2 = nI (stA σ k).2.2.1.length := hSt.2.2.1.1
    have hkn : mi (x + 3 + 3 + 43 * k + 33) 3 = nI (stA σ k).2.2.2.1.length := hSt.2.2.2.2.1.1
    have u0 := t8.1
    have u1 := t10.1
    by_cases hin : inB w (nI 0) (nI 10) = true
    · obtain ⟨j, j1, j2, rfl⟩ := inB_ex (by omega) hin (by omega)
      have hjj : sk (nI j) = j := sk_nI (by omega)
      rcases (show j < 9 ∨ j = 9 ∨ j = 10 by omega) with hj | hj | hj
      · have hT := hSt.2.1 j hj
        have e : sp_heard σ (nI k) (nI j) = (nI ((stA σ k).2.1 j), σ) := by unfold sp_heard; rw [hkk, if_neg (by rw [hb]; decide), if_neg (by rw [hin]; decide), if_neg (by rw [nI_eq (by omega) (by omega)]; omega), if_neg (by rw [nI_eq (by omega) (by omega)]; omega), hjj]
        rw [e]
        refine r_iload_n 1 dX9_heard_0 rfl rfl ?_
        refine r_callSp [_] dX9_heard_1 ok_RX9_63 isX9_isStation rfl rfl (Nat.le_of_ble_eq_true rfl) (by refine ⟨?_, ?_, ?_, ?_⟩ <;> exact Nat.le_of_ble_eq_true rfl) (c_isSt _) ?_
        rw [hb]
        refine r_ifB_ne 9 dX9_heard_4 (by decide) (fun h4 => ?_) (fun h4 => ?_)
        · refine r_iload_n 2 dX9_heard_9 rfl rfl ?_
          refine r_ifN_lt 19 dX9_heard_10 (by decide) (by omega) ?_
          refine r_iload_n 2 dX9_heard_13 rfl rfl ?_
          refine r_bipush (v := nI 10) dX9_heard_14 (by decide) ?_
          refine r_icmpN_le 22 dX9_heard_16 (by decide) (by omega) (by omega) (fun h16 => ?_) (fun h16 => ?_)
          · refine r_aload_n 0 dX9_heard_22 rfl rfl ?_
            refine r_getR dX9_heard_23 fl_RX9_19 rfl (by assumption) (by assumption) ?_
            refine r_getR dX9_heard_26 fl_RX9_71 rfl (by assumption) (by assumption) ?_
            refine r_iload_n 1 dX9_heard_29 rfl rfl ?_
            refine r_aald dX9_heard_30 (by assumption) (by decide) (by intro _; rfl) (by omega) (by omega) (by assumption) ?_
            refine r_astore_n 3 (ls2 := [_, _, _, _]) dX9_heard_31 rfl (by decide) (Nat.le_of_ble_eq_true rfl) rfl ?_
            refine r_iload_n 2 dX9_heard_32 rfl rfl ?_
            refine r_bipush (v := nI 9) dX9_heard_33 (by decide) ?_
            refine r_icmpN_ge 45 dX9_heard_35 (by decide) (by omega) (by omega) (fun h35 => ?_) (fun h35 => ?_)
            · omega
            · refine r_aload_n 3 dX9_heard_38 rfl rfl ?_
              refine r_getR dX9_heard_39 fl_RX9_142 rfl (by assumption) (by assumption) ?_
              refine r_iload_n 2 dX9_heard_42 rfl rfl ?_
              refine r_ialdV dX9_heard_43 (by assumption) (by omega) (by omega) (by first | assumption | exact up2_same _ _ _ _ | exact (Eq.trans (up2_ne _ _ (by omega)) (by first | assumption | exact up2_same _ _ _ _)) | exact (Eq.trans (up2_ne _ _ (by omega)) (Eq.trans (up2_ne _ _ (by omega)) (by first | assumption | exact up2_same _ _ _ _))) | exact (Eq.trans (up2_ne _ _ (by omega)) (Eq.trans (up2_ne _ _ (by omega)) (Eq.trans (up2_ne _ _ (by omega)) (by first | assumption | exact up2_same _ _ _ _)))) | exact (Eq.trans (up2_ne _ _ (by omega)) (Eq.trans (up2_ne _ _ (by omega)) (Eq.trans (up2_ne _ _ (by omega)) (Eq.trans (up2_ne _ _ (by omega)) (by first | assumption | exact up2_same _ _ _ _))))) | rfl) ?_
              refine r_iret dX9_heard_44 rfl (Nat.le_of_ble_eq_true rfl) (Nat.le_of_ble_eq_true rfl) ?_
              exact ⟨rfl, rfl, PC.same hC⟩
          · omega
        · cases h4
      · subst hj
        have e : sp_heard σ (nI k) (nI 9) = (nI (stA σ k).2.2.1.length, σ) := by unfold sp_heard; rw [hkk, if_neg (by rw [hb]; decide), if_neg (by rw [hin]; decide), if_pos rfl]
        rw [e]
        refine r_iload_n 1 dX9_heard_0 rfl rfl ?_
        refine r_callSp [_] dX9_heard_1 ok_RX9_63 isX9_isStation rfl rfl (Nat.le_of_ble_eq_true rfl) (by refine ⟨?_, ?_, ?_, ?_⟩ <;> exact Nat.le_of_ble_eq_true rfl) (c_isSt _) ?_
        rw [hb]
        refine r_ifB_ne 9 dX9_heard_4 (by decide) (fun h4 => ?_) (fun h4 => ?_)
        · refine r_iload_n 2 dX9_heard_9 rfl rfl ?_
          refine r_ifN_lt 19 dX9_heard_10 (by decide) (by omega) ?_
          refine r_iload_n 2 dX9_heard_13 rfl rfl ?_
          refine r_bipush (v := nI 10) dX9_heard_14 (by decide) ?_
          refine r_icmpN_le 22 dX9_heard_16 (by decide) (by omega) (by omega) (fun h16 => ?_) (fun h16 => ?_)
          · refine r_aload_n 0 dX9_heard_22 rfl rfl ?_
            refine r_getR dX9_heard_23 fl_RX9_19 rfl (by assumption) (by assumption) ?_
            refine r_getR dX9_heard_26 fl_RX9_71 rfl (by assumption) (by assumption) ?_
            refine r_iload_n 1 dX9_heard_29 rfl rfl ?_
            refine r_aald dX9_heard_30 (by assumption) (by decide) (by intro _; rfl) (by omega) (by omega) (by assumption) ?_
            refine r_astore_n 3 (ls2 := [_, _, _, _]) dX9_heard_31 rfl (by decide) (Nat.le_of_ble_eq_true rfl) rfl ?_
            refine r_iload_n 2 dX9_heard_32 rfl rfl ?_
            refine r_bipush (v := nI 9) dX9_heard_33 (by decide) ?_
            refine r_icmpN_ge 45 dX9_heard_35 (by decide) (by omega) (by omega) (fun h35 => ?_) (fun h35 => ?_)
            · refine r_iload_n 2 dX9_heard_45 rfl rfl ?_
              refine r_bipush (v := nI 9) dX9_heard_46 (by decide) ?_
              refine r_icmpN_ne 61 dX9_heard_48 (by decide) (by omega) (by omega) (fun h48 => ?_) (fun h48 => ?_)
              · omega
              · refine r_aload_n 3 dX9_heard_51 rfl rfl ?_
                refine r_getR dX9_heard_52 fl_RX9_122 rfl (by assumption) (by assumption) ?_
                refine r_getV dX9_heard_55 fl_RX9_126 rfl (by assumption) (by first | assumption | exact up2_same _ _ _ _ | exact (Eq.trans (up2_ne _ _ (by omega)) (by first | assumption | exact up2_same _ _ _ _)) | exact (Eq.trans (up2_ne _ _ (by omega)) (Eq.trans (up2_ne _ _ (by omega)) (by first | assumption | exact up2_same _ _ _ _))) | exact (Eq.trans (up2_ne _ _ (by omega)) (Eq.trans (up2_ne _ _ (by omega)) (Eq.trans (up2_ne _ _ (by omega)) (by first | assumption | exact up2_same _ _ _ _)))) | exact (Eq.trans (up2_ne _ _ (by omega)) (Eq.trans (up2_ne _ _ (by omega)) (Eq.trans (up2_ne _ _ (by omega)) (Eq.trans (up2_ne _ _ (by omega)) (by first | assumption | exact up2_same _ _ _ _))))) | rfl) ?_
                refine r_goto 68 dX9_heard_58 (by decide) ?_
                refine r_iret dX9_heard_68 rfl (Nat.le_of_ble_eq_true rfl) (Nat.le_of_ble_eq_true rfl) ?_
                exact ⟨rfl, rfl, PC.same hC⟩
            · omega
          · omega
        · cases h4
      · subst hj
        have e : sp_heard σ (nI k) (nI 10) = (nI (stA σ k).2.2.2.1.length, σ) := by unfold sp_heard; rw [hkk, if_neg (by rw [hb]; decide), if_neg (by rw [hin]; decide), if_neg (by decide), if_pos rfl]
        rw [e]
        refine r_iload_n 1 dX9_heard_0 rfl rfl ?_
        refine r_callSp [_] dX9_heard_1 ok_RX9_63 isX9_isStation rfl rfl (Nat.le_of_ble_eq_true rfl) (by refine ⟨?_, ?_, ?_, ?_⟩ <;> exact Nat.le_of_ble_eq_true rfl) (c_isSt _) ?_
        rw [hb]
        refine r_ifB_ne 9 dX9_heard_4 (by decide) (fun h4 => ?_) (fun h4 => ?_)
        · refine r_iload_n 2 dX9_heard_9 rfl rfl ?_
          refine r_ifN_lt 19 dX9_heard_10 (by decide) (by omega) ?_
          refine r_iload_n 2 dX9_heard_13 rfl rfl ?_
          refine r_bipush (v := nI 10) dX9_heard_14 (by decide) ?_
          refine r_icmpN_le 22 dX9_heard_16 (by decide) (by omega) (by omega) (fun h16 => ?_) (fun h16 => ?_)
          · refine r_aload_n 0 dX9_heard_22 rfl rfl ?_
            refine r_getR dX9_heard_23 fl_RX9_19 rfl (by assumption) (by assumption) ?_
            refine r_getR dX9_heard_26 fl_RX9_71 rfl (by assumption) (by assumption) ?_
            refine r_iload_n 1 dX9_heard_29 rfl rfl ?_
            refine r_aald dX9_heard_30 (by assumption) (by decide) (by intro _; rfl) (by omega) (by omega) (by assumption) ?_
            refine r_astore_n 3 (ls2 := [_, _, _, _]) dX9_heard_31 rfl (by decide) (Nat.le_of_ble_eq_true rfl) rfl ?_
            refine r_iload_n 2 dX9_heard_32 rfl rfl ?_
            refine r_bipush (v := nI 9) dX9_heard_33 (by decide) ?_
            refine r_icmpN_ge 45 dX9_heard_35 (by decide) (by omega) (by omega) (fun h35 => ?_) (fun h35 => ?_)
            · refine r_iload_n 2 dX9_heard_45 rfl rfl ?_
              refine r_bipush (v := nI 9) dX9_heard_46 (by decide) ?_
              refine r_icmpN_ne 61 dX9_heard_48 (by decide) (by omega) (by omega) (fun h48 => ?_) (fun h48 => ?_)
              · refine r_aload_n 3 dX9_heard_61 rfl rfl ?_
                refine r_getR dX9_heard_62 fl_RX9_145 rfl (by assumption) (by assumption) ?_
                refine r_getV dX9_heard_65 fl_RX9_149 rfl (by assumption) (by first | assumption | exact up2_same _ _ _ _ | exact (Eq.trans (up2_ne _ _ (by omega)) (by first | assumption | exact up2_same _ _ _ _)) | exact (Eq.trans (up2_ne _ _ (by omega)) (Eq.trans (up2_ne _ _ (by omega)) (by first | assumption | exact up2_same _ _ _ _))) | exact (Eq.trans (up2_ne _ _ (by omega)) (Eq.trans (up2_ne _ _ (by omega)) (Eq.trans (up2_ne _ _ (by omega)) (by first | assumption | exact up2_same _ _ _ _)))) | exact (Eq.trans (up2_ne _ _ (by omega)) (Eq.trans (up2_ne _ _ (by omega)) (Eq.trans (up2_ne _ _ (by omega)) (Eq.trans (up2_ne _ _ (by omega)) (by first | assumption | exact up2_same _ _ _ _))))) | rfl) ?_
                refine r_iret dX9_heard_68 rfl (Nat.le_of_ble_eq_true rfl) (Nat.le_of_ble_eq_true rfl) ?_
                exact ⟨rfl, rfl, PC.same hC⟩
              · omega
            · omega
          · omega
        · cases h4
    · have e : sp_heard σ (nI k) w = (-2, σ) := by unfold sp_heard; rw [if_neg (by rw [hb]; decide), if_pos (by simpa using hin)]
      rw [e]
      refine r_iload_n 1 dX9_heard_0 rfl rfl ?_
      refine r_callSp [_] dX9_heard_1 ok_RX9_63 isX9_isStation rfl rfl (Nat.le_of_ble_eq_true rfl) (by refine ⟨?_, ?_, ?_, ?_⟩ <;> exact Nat.le_of_ble_eq_true rfl) (c_isSt _) ?_
      rw [hb]
      refine r_ifB_ne 9 dX9_heard_4 (by decide) (fun h4 => ?_) (fun h4 => ?_)
      · refine r_iload_n 2 dX9_heard_9 rfl rfl ?_
        refine r_if_lt 19 dX9_heard_10 (by decide) (fun h10 => ?_) (fun h10 => ?_)
        · refine r_bipush (v := -2) dX9_heard_19 (by decide) ?_
          refine r_iret dX9_heard_21 rfl (Nat.le_of_ble_eq_true rfl) (Nat.le_of_ble_eq_true rfl) ?_
          exact ⟨rfl, rfl, PC.same hC⟩
        · refine r_iload_n 2 dX9_heard_13 rfl rfl ?_
          refine r_bipush (v := nI 10) dX9_heard_14 (by decide) ?_
          refine r_icmp_le 22 dX9_heard_16 (by decide) (fun h16 => ?_) (fun h16 => ?_)
          · exact absurd (inB_ok (by rw [nI_zero] at h10; exact h10) h16) hin
          · refine r_bipush (v := -2) dX9_heard_19 (by decide) ?_
            refine r_iret dX9_heard_21 rfl (Nat.le_of_ble_eq_true rfl) (Nat.le_of_ble_eq_true rfl) ?_
            exact ⟨rfl, rfl, PC.same hC⟩
      · cases h4
end CLS
