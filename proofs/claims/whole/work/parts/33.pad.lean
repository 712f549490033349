section PAD
variable {z : Nat} {sh : SH} {mi : MI} {mr : MR} {a : Nat}
def LPd (sh : SH) (mr : MR) (a : Nat) : Prop := sh a = (5, 0) ∧ mr a 0 = some (a + 1) ∧ sh (a + 1) = (11, 40)
def PdC (mi : MI) (a : Nat) (P : List Nat) : Prop := mi a 1 = nI P.length ∧ ∀ i x, P[i]? = some x → mi (a + 1) i = nI x
def okD (P : List Nat) : Prop := P.length ≤ 40 ∧ ∀ x ∈ P, 33 ≤ x ∧ x ≤ 126
theorem sg_in {P : List Nat} {i x : Nat} (h : P[i]? = some x) : sg P i = x := by unfold sg; rw [List.getD_eq_getElem?_getD, h]; rfl
theorem sg_out {P : List Nat} {i : Nat} (h : P.length ≤ i) : sg P i = 0 := by unfold sg; rw [List.getD_eq_getElem?_getD, List.getElem?_eq_none h]; rfl
theorem sg_lt {P : List Nat} (h : okD P) (i : Nat) : sg P i ≤ 126 := by
  rcases Nat.lt_or_ge i P.length with q | q
  · obtain ⟨x, hx⟩ := gl_ex q
    rw [sg_in hx]; exact (h.2 x (gl_mem hx)).2
  · rw [sg_out q]; omega
theorem sg_pos {P : List Nat} {i : Nat} (h : sg P i ≠ 0) : i < P.length := by
  rcases Nat.lt_or_ge i P.length with q | q
  · exact q
  · exact absurd (sg_out q) h
theorem up2_id {α : Type} {f : Nat → Nat → α} {a k : Nat} {v : α} (h : f a k = v) : up2 f a k v = f := by
  funext x j
  unfold up2
  by_cases e : x = a ∧ j = k
  · rw [if_pos e, e.1, e.2, h]
  · rw [if_neg e]
theorem up2_up2 {α : Type} (f : Nat → Nat → α) (a k : Nat) (v w : α) : up2 (up2 f a k v) a k w = up2 f a k w := by
  funext x j
  unfold up2
  by_cases e : x = a ∧ j = k
  · rw [if_pos e, if_pos e]
  · rw [if_neg e, if_neg e, if_neg e]
theorem PdC.keep {m m' : MI} {P : List Nat} (h : PdC m a P) (h1 : m' a 1 = m a 1) (h2 : m' (a + 1) = m (a + 1)) : PdC m' a P := by
  unfold PdC at *
  rw [h1, h2]; exact h
theorem PdC.at {m : MI} {P : List Nat} {v : Int32} (h : PdC m a P) : PdC (up2 m a 2 v) a P := h.keep (up2_ne _ _ (Or.inr (by omega))) (up2_row _ _ (by omega))
theorem c_pdAdd (hL : LPd sh mr a) {n : Nat} {x : Int32} (hn : mi a 1 = nI n) (h2 : n < 40) : Mi mX5_add 0 [.ref a, .int x] z sh mi mr (fun v mi' => v = none ∧ mi' = up2 (up2 mi (a + 1) n x) a 1 (nI (n + 1))) := by
  obtain ⟨l0, l1, l2⟩ := id hL
  refine Mv.of pnX5_add (Nat.le_of_ble_eq_true rfl) rfl ?_
  refine r_aload_n 0 dX5_add_0 rfl rfl ?_
  refine r_getV dX5_add_1 fl_RX5_15 rfl (by assumption) (by first | assumption | exact up2_same _ _ _ _ | exact (Eq.trans (up2_ne _ _ (by omega)) (by first | assumption | exact up2_same _ _ _ _)) | exact (Eq.trans (up2_ne _ _ (by omega)) (Eq.trans (up2_ne _ _ (by omega)) (by first | assumption | exact up2_same _ _ _ _))) | exact (Eq.trans (up2_ne _ _ (by omega)) (Eq.trans (up2_ne _ _ (by omega)) (Eq.trans (up2_ne _ _ (by omega)) (by first | assumption | exact up2_same _ _ _ _)))) | exact (Eq.trans (up2_ne _ _ (by omega)) (Eq.trans (up2_ne _ _ (by omega)) (Eq.trans (up2_ne _ _ (by omega)) (Eq.trans (up2_ne _ _ (by omega)) (by first | assumption | exact up2_same _ _ _ _))))) | rfl) ?_
  refine r_bipush (v := nI 40) dX5_add_4 (by decide) ?_
  refine r_icmpN_ge 29 dX5_add_6 (by decide) (by omega) (by omega) (fun h6 => ?_) (fun h6 => ?_)
  · first | omega | (refine r_vret dX5_add_29 rfl (Nat.le_refl _) (Nat.le_refl _) ?_; exact ⟨rfl, rfl, rfl, rfl, rfl⟩)
  · refine r_aload_n 0 dX5_add_9 rfl rfl ?_
    refine r_getR dX5_add_10 fl_RX5_9 rfl (by assumption) (by assumption) ?_
    refine r_aload_n 0 dX5_add_13 rfl rfl ?_
    refine r_getV dX5_add_14 fl_RX5_15 rfl (by assumption) (by first | assumption | exact up2_same _ _ _ _ | exact (Eq.trans (up2_ne _ _ (by omega)) (by first | assumption | exact up2_same _ _ _ _)) | exact (Eq.trans (up2_ne _ _ (by omega)) (Eq.trans (up2_ne _ _ (by omega)) (by first | assumption | exact up2_same _ _ _ _))) | exact (Eq.trans (up2_ne _ _ (by omega)) (Eq.trans (up2_ne _ _ (by omega)) (Eq.trans (up2_ne _ _ (by omega)) (by first | assumption | exact up2_same _ _ _ _)))) | exact (Eq.trans (up2_ne _ _ (by omega)) (Eq.trans (up2_ne _ _ (by omega)) (Eq.trans (up2_ne _ _ (by omega)) (Eq.trans (up2_ne _ _ (by omega)) (by first | assumption | exact up2_same _ _ _ _))))) | rfl) ?_
    refine r_iload_n 1 dX5_add_17 rfl rfl ?_
    refine r_iast dX5_add_18 (by assumption) (by omega) (by omega) ?_
    refine r_aload_n 0 dX5_add_19 rfl rfl ?_
    refine r_dup dX5_add_20 rfl ?_
    refine r_getV dX5_add_21 fl_RX5_15 rfl (by assumption) (by first | assumption | exact up2_same _ _ _ _ | exact (Eq.trans (up2_ne _ _ (by omega)) (by first | assumption | exact up2_same _ _ _ _)) | exact (Eq.trans (up2_ne _ _ (by omega)) (Eq.trans (up2_ne _ _ (by omega)) (by first | assumption | exact up2_same _ _ _ _))) | exact (Eq.trans (up2_ne _ _ (by omega)) (Eq.trans (up2_ne _ _ (by omega)) (Eq.trans (up2_ne _ _ (by omega)) (by first | assumption | exact up2_same _ _ _ _)))) | exact (Eq.trans (up2_ne _ _ (by omega)) (Eq.trans (up2_ne _ _ (by omega)) (Eq.trans (up2_ne _ _ (by omega)) (Eq.trans (up2_ne _ _ (by omega)) (by first | assumption | exact up2_same _ _ _ _))))) | rfl) ?_
    refine r_iconst (v := nI 1) dX5_add_24 (by decide) ?_
    refine r_iaddN dX5_add_25 ?_
    refine r_putI dX5_add_26 fl_RX5_15 rfl rfl rfl (by assumption) ?_
    first | omega | (refine r_vret dX5_add_29 rfl (Nat.le_refl _) (Nat.le_refl _) ?_; exact ⟨rfl, rfl, rfl, rfl, rfl⟩)
theorem c_pdClear (hL : LPd sh mr a) : Mi mX5_clear 0 [.ref a] z sh mi mr (fun v mi' => v = none ∧ mi' = up2 mi a 1 (nI 0)) := by
  obtain ⟨l0, l1, l2⟩ := id hL
  refine Mv.of pnX5_clear (Nat.le_of_ble_eq_true rfl) rfl ?_
  refine r_aload_n 0 dX5_clear_0 rfl rfl ?_
  refine r_iconst (v := nI 0) dX5_clear_1 (by decide) ?_
  refine r_putI dX5_clear_2 fl_RX5_15 rfl rfl rfl (by assumption) ?_
  refine r_vret dX5_clear_5 rfl (Nat.le_of_ble_eq_true rfl) (Nat.le_of_ble_eq_true rfl) ?_
  exact ⟨rfl, rfl, rfl, rfl, rfl⟩
theorem c_peek (hL : LPd sh mr a) {P : List Nat} (hC : PdC mi a P) (hok : okD P) {i : Nat} (hi : mi a 2 = nI i) (hi2 : i < 100) : Mp mX5_peek 0 [.ref a] z sh mi mr (nI (sg P i)) := by
  obtain ⟨l0, l1, l2⟩ := id hL
  obtain ⟨p1, p2⟩ := id hC
  have h40 := hok.1
  refine Mv.of pnX5_peek (Nat.le_of_ble_eq_true rfl) rfl ?_
  rcases Nat.lt_or_ge i P.length with q | q
  · obtain ⟨x, hx⟩ := gl_ex q
    have hv := p2 i x hx
    have hsg := sg_in hx
    refine r_aload_n 0 dX5_peek_0 rfl rfl ?_
    refine r_getV dX5_peek_1 fl_RX5_19 rfl (by assumption) (by first | assumption | exact up2_same _ _ _ _ | exact (Eq.trans (up2_ne _ _ (by omega)) (by first | assumption | exact up2_same _ _ _ _)) | exact (Eq.trans (up2_ne _ _ (by omega)) (Eq.trans (up2_ne _ _ (by omega)) (by first | assumption | exact up2_same _ _ _ _))) | exact (Eq.trans (up2_ne _ _ (by omega)) (Eq.trans (up2_ne _ _ (by omega)) (Eq.trans (up2_ne _ _ (by omega)) (by first | assumption | exact up2_same _ _ _ _)))) | exact (Eq.trans (up2_ne _ _ (by omega)) (Eq.trans (up2_ne _ _ (by omega)) (Eq.trans (up2_ne _ _ (by omega)) (Eq.trans (up2_ne _ _ (by omega)) (by first | assumption | exact up2_same _ _ _ _))))) | rfl) ?_
    refine r_ifN_lt 39 dX5_peek_4 (by decide) (by omega) ?_
    refine r_aload_n 0 dX5_peek_7 rfl rfl ?_
    refine r_getV dX5_peek_8 fl_RX5_19 rfl (by assumption) (by first | assumption | exact up2_same _ _ _ _ | exact (Eq.trans (up2_ne _ _ (by omega)) (by first | assumption | exact up2_same _ _ _ _)) | exact (Eq.trans (up2_ne _ _ (by omega)) (Eq.trans (up2_ne _ _ (by omega)) (by first | assumption | exact up2_same _ _ _ _))) | exact (Eq.trans (up2_ne _ _ (by omega)) (Eq.trans (up2_ne _ _ (by omega)) (Eq.trans (up2_ne _ _ (by omega)) (by first | assumption | exact up2_same _ _ _ _)))) | exact (Eq.trans (up2_ne _ _ (by omega)) (Eq.trans (up2_ne _ _ (by omega)) (Eq.trans (up2_ne _ _ (by omega)) (Eq.trans (up2_ne _ _ (by omega)) (by first | assumption | exact up2_same _ _ _ _))))) | rfl) ?_
    refine r_aload_n 0 dX5_peek_11 rfl rfl ?_
    refine r_getV dX5_peek_12 fl_RX5_15 rfl (by assumption) (by first | assumption | exact up2_same _ _ _ _ | exact (Eq.trans (up2_ne _ _ (by omega)) (by first | assumption | exact up2_same _ _ _ _)) | exact (Eq.trans (up2_ne _ _ (by omega)) (Eq.trans (up2_ne _ _ (by omega)) (by first | assumption | exact up2_same _ _ _ _))) | exact (Eq.trans (up2_ne _ _ (by omega)) (Eq.trans (up2_ne _ _ (by omega)) (Eq.trans (up2_ne _ _ (by omega)) (by first | assumption | exact up2_same _ _ _ _)))) | exact (Eq.trans (up2_ne _ _ (by omega)) (Eq.trans (up2_ne _ _ (by omega)) (Eq.trans (up2_ne _ _ (by omega)) (Eq.trans (up2_ne _ _ (by omega)) (by first | assumption | exact up2_same _ _ _ _))))) | rfl) ?_
    refine r_icmpN_ge 39 dX5_peek_15 (by decide) (by omega) (by omega) (fun h15 => ?_) (fun h15 => ?_)
    · omega
    · refine r_aload_n 0 dX5_peek_18 rfl rfl ?_
      refine r_getV dX5_peek_19 fl_RX5_19 rfl (by assumption) (by first | assumption | exact up2_same _ _ _ _ | exact (Eq.trans (up2_ne _ _ (by omega)) (by first | assumption | exact up2_same _ _ _ _)) | exact (Eq.trans (up2_ne _ _ (by omega)) (Eq.trans (up2_ne _ _ (by omega)) (by first | assumption | exact up2_same _ _ _ _))) | exact (Eq.trans (up2_ne _ _ (by omega)) (Eq.trans (up2_ne _ _ (by omega)) (Eq.trans (up2_ne _ _ (by omega)) (by first | assumption | exact up2_same _ _ _ _)))) | exact (Eq.trans (up2_ne _ _ (by omega)) (Eq.trans (up2_ne _ _ (by omega)) (Eq.trans (up2_ne _ _ (by omega)) (Eq.trans (up2_ne _ _ (by omega)) (by first | assumption | exact up2_same _ _ _ _))))) | rfl) ?_
      refine r_bipush (v := nI 40) dX5_peek_22 (by decide) ?_
      refine r_icmpN_ge 39 dX5_peek_24 (by decide) (by omega) (by omega) (fun h24 => ?_) (fun h24 => ?_)
      · omega
      · refine r_aload_n 0 dX5_peek_27 rfl rfl ?_
        refine r_getR dX5_peek_28 fl_RX5_9 rfl (by assumption) (by assumption) ?_
        refine r_aload_n 0 dX5_peek_31 rfl rfl ?_
        refine r_getV dX5_peek_32 fl_RX5_19 rfl (by assumption) (by first | assumption | exact up2_same _ _ _ _ | exact (Eq.trans (up2_ne _ _ (by omega)) (by first | assumption | exact up2_same _ _ _ _)) | exact (Eq.trans (up2_ne _ _ (by omega)) (Eq.trans (up2_ne _ _ (by omega)) (by first | assumption | exact up2_same _ _ _ _))) | exact (Eq.trans (up2_ne _ _ (by omega)) (Eq.trans (up2_ne _ _ (by omega)) (Eq.trans (up2_ne _ _ (by omega)) (by first | assumption | exact up2_same _ _ _ _)))) | exact (Eq.trans (up2_ne _ _ (by omega)) (Eq.trans (up2_ne _ _ (by omega)) (Eq.trans (up2_ne _ _ (by omega)) (Eq.trans (up2_ne _ _ (by omega)) (by first | assumption | exact up2_same _ _ _ _))))) | rfl) ?_
        refine r_ialdV dX5_peek_35 (by assumption) (by omega) (by omega) (by first | assumption | exact up2_same _ _ _ _ | exact (Eq.trans (up2_ne _ _ (by omega)) (by first | assumption | exact up2_same _ _ _ _)) | exact (Eq.trans (up2_ne _ _ (by omega)) (Eq.trans (up2_ne _ _ (by omega)) (by first | assumption | exact up2_same _ _ _ _))) | exact (Eq.trans (up2_ne _ _ (by omega)) (Eq.trans (up2_ne _ _ (by omega)) (Eq.trans (up2_ne _ _ (by omega)) (by first | assumption | exact up2_same _ _ _ _)))) | exact (Eq.trans (up2_ne _ _ (by omega)) (Eq.trans (up2_ne _ _ (by omega)) (Eq.trans (up2_ne _ _ (by omega)) (Eq.trans (up2_ne _ _ (by omega)) (by first | assumption | exact up2_same _ _ _ _))))) | rfl) ?_
        refine r_goto 40 dX5_peek_36 (by decide) ?_
        refine r_iret dX5_peek_40 rfl (Nat.le_of_ble_eq_true rfl) (Nat.le_of_ble_eq_true rfl) ?_
        exact ⟨rfl, rfl, rfl, by rw [hsg], rfl⟩
  · have hsg := sg_out q
    refine r_aload_n 0 dX5_peek_0 rfl rfl ?_
    refine r_getV dX5_peek_1 fl_RX5_19 rfl (by assumption) (by first | assumption | exact up2_same _ _ _ _ | exact (Eq.trans (up2_ne _ _ (by omega)) (by first | assumption | exact up2_same _ _ _ _)) | exact (Eq.trans (up2_ne _ _ (by omega)) (Eq.trans (up2_ne _ _ (by omega)) (by first | assumption | exact up2_same _ _ _ _))) | exact (Eq.trans (up2_ne _ _ (by omega)) (Eq.trans (up2_ne _ _ (by omega)) (Eq.trans (up2_ne _ _ (by omega)) (by first | assumption | exact up2_same _ _ _ _)))) | exact (Eq.trans (up2_ne _ _ (by omega)) (Eq.trans (up2_ne _ _ (by omega)) (Eq.trans (up2_ne _ _ (by omega)) (Eq.trans (up2_ne _ _ (by omega)) (by first | assumption | exact up2_same _ _ _ _))))) | rfl) ?_
    refine r_ifN_lt 39 dX5_peek_4 (by decide) (by omega) ?_
    refine r_aload_n 0 dX5_peek_7 rfl rfl ?_
    refine r_getV dX5_peek_8 fl_RX5_19 rfl (by assumption) (by first | assumption | exact up2_same _ _ _ _ | exact (Eq.trans (up2_ne _ _ (by omega)) (by first | assumption | exact up2_same _ _ _ _)) | exact (Eq.trans (up2_ne _ _ (by omega)) (Eq.trans (up2_ne _ _ (by omega)) (by first | assumption | exact up2_same _ _ _ _))) | exact (Eq.trans (up2_ne _ _ (by omega)) (Eq.trans (up2_ne _ _ (by omega)) (Eq.trans (up2_ne _ _ (by omega)) (by first | assumption | exact up2_same _ _ _ _)))) | exact (Eq.trans (up2_ne _ _ (by omega)) (Eq.trans (up2_ne _ _ (by omega)) (Eq.trans (up2_ne _ _ (by omega)) (Eq.trans (up2_ne _ _ (by omega)) (by first | assumption | exact up2_same _ _ _ _))))) | rfl) ?_
    refine r_aload_n 0 dX5_peek_11 rfl rfl ?_
    refine r_getV dX5_peek_12 fl_RX5_15 rfl (by assumption) (by first | assumption | exact up2_same _ _ _ _ | exact (Eq.trans (up2_ne _ _ (by omega)) (by first | assumption | exact up2_same _ _ _ _)) | exact (Eq.trans (up2_ne _ _ (by omega)) (Eq.trans (up2_ne _ _ (by omega)) (by first | assumption | exact up2_same _ _ _ _))) | exact (Eq.trans (up2_ne _ _ (by omega)) (Eq.trans (up2_ne _ _ (by omega)) (Eq.trans (up2_ne _ _ (by omega)) (by first | assumption | exact up2_same _ _ _ _)))) | exact (Eq.trans (up2_ne _ _ (by omega)) (Eq.trans (up2_ne _ _ (by omega)) (Eq.trans (up2_ne _ _ (by omega)) (Eq.trans (up2_ne _ _ (by omega)) (by first | assumption | exact up2_same _ _ _ _))))) | rfl) ?_
    refine r_icmpN_ge 39 dX5_peek_15 (by decide) (by omega) (by omega) (fun h15 => ?_) (fun h15 => ?_)
    · refine r_iconst (v := nI 0) dX5_peek_39 (by decide) ?_
      refine r_iret dX5_peek_40 rfl (Nat.le_of_ble_eq_true rfl) (Nat.le_of_ble_eq_true rfl) ?_
      exact ⟨rfl, rfl, rfl, by rw [hsg], rfl⟩
    · omega
theorem c_take (hL : LPd sh mr a) {P : List Nat} (hC : PdC mi a P) (hok : okD P) {i s : Nat} (hi : mi a 2 = nI i) (hi2 : i < 100) (hs : s < 200) : Mi mX5_take 1 [.ref a, .int (nI s)] z sh mi mr (fun v mi' => v = some (.int (b2 (decide (sg P i = s)))) ∧ mi' = up2 mi a 2 (nI (i + bn (decide (sg P i = s))))) := by
  obtain ⟨l0, l1, l2⟩ := id hL
  have hsl := sg_lt hok i
  refine Mv.of pnX5_take (Nat.le_of_ble_eq_true rfl) rfl ?_
  refine r_aload_n 0 dX5_take_0 rfl rfl ?_
  refine r_callVp [] dX5_take_1 ok_RX5_45 ivX5_peek (by assumption) ⟨_, _, rfl⟩ rfl rfl (Nat.le_of_ble_eq_true rfl) (by refine ⟨?_, ?_, ?_, ?_⟩ <;> exact Nat.le_of_ble_eq_true rfl) (c_peek hL hC hok hi hi2) ?_
  refine r_iload_n 1 dX5_take_4 rfl rfl ?_
  refine r_icmpN_eq 10 dX5_take_5 (by decide) (by omega) (by omega) (fun h5 => ?_) (fun h5 => ?_)
  · refine r_aload_n 0 dX5_take_10 rfl rfl ?_
    refine r_dup dX5_take_11 rfl ?_
    refine r_getV dX5_take_12 fl_RX5_19 rfl (by assumption) (by first | assumption | exact up2_same _ _ _ _ | exact (Eq.trans (up2_ne _ _ (by omega)) (by first | assumption | exact up2_same _ _ _ _)) | exact (Eq.trans (up2_ne _ _ (by omega)) (Eq.trans (up2_ne _ _ (by omega)) (by first | assumption | exact up2_same _ _ _ _))) | exact (Eq.trans (up2_ne _ _ (by omega)) (Eq.trans (up2_ne _ _ (by omega)) (Eq.trans (up2_ne _ _ (by omega)) (by first | assumption | exact up2_same _ _ _ _)))) | exact (Eq.trans (up2_ne _ _ (by omega)) (Eq.trans (up2_ne _ _ (by omega)) (Eq.trans (up2_ne _ _ (by omega)) (Eq.trans (up2_ne _ _ (by omega)) (by first | assumption | exact up2_same _ _ _ _))))) | rfl) ?_
    refine r_iconst (v := nI 1) dX5_take_15 (by decide) ?_
    refine r_iaddN dX5_take_16 ?_
    refine r_putI dX5_take_17 fl_RX5_19 rfl rfl rfl (by assumption) ?_
    refine r_iconst (v := nI 1) dX5_take_20 (by decide) ?_
    refine r_zret dX5_take_21 rfl (by first | exact b2_nar _ | decide) (Nat.le_of_ble_eq_true rfl) (Nat.le_of_ble_eq_true rfl) ?_
    refine ⟨rfl, rfl, rfl, ?_, ?_⟩
    · first | (rw [show decide (sg P i = s) = true by simpa using h5]; rfl) | (rw [show decide (sg P i = s) = false by simpa using h5]; rfl)
    · first | rw [show decide (sg P i = s) = true by simpa using h5]; rfl | (rw [show decide (sg P i = s) = false by simpa using h5]; exact (up2_id hi).symm)
  · refine r_iconst (v := nI 0) dX5_take_8 (by decide) ?_
    refine r_zret dX5_take_9 rfl (by first | exact b2_nar _ | decide) (Nat.le_of_ble_eq_true rfl) (Nat.le_of_ble_eq_true rfl) ?_
    refine ⟨rfl, rfl, rfl, ?_, ?_⟩
    · first | (rw [show decide (sg P i = s) = true by simpa using h5]; rfl) | (rw [show decide (sg P i = s) = false by simpa using h5]; rfl)
    · first | rw [show decide (sg P i = s) = true by simpa using h5]; rfl | (rw [show decide (sg P i = s) = false by simpa using h5]; exact (up2_id hi).symm)
theorem lets_len (f : Nat) : ∀ (k : Nat) (P : List Nat) (i : Nat), (lets f k P i).length ≤ k
  | 0, _, _ => Nat.le_refl _
  | k + 1, P, i => by
    unfold lets
    split
    · simp; exact lets_len f k P (i + 1)
    · simp
theorem lets_ok (f : Nat) : ∀ (k : Nat) (P : List Nat) (i : Nat), ∀ x ∈ lets f k P i, 1 ≤ x ∧ x ≤ 26
  | 0, _, _, x, hx => by simp [lets] at hx
  | k + 1, P, i, x, hx => by
    unfold lets at hx
    split at hx
    · rcases List.mem_cons.mp hx with h | h
      · omega
      · exact lets_ok f k P (i + 1) x h
    · simp at hx
theorem lets_in {f : Nat} (hf : 0 < f) : ∀ (k : Nat) (P : List Nat) (i : Nat), lets f k P i ≠ [] → i + (lets f k P i).length ≤ P.length
  | 0, _, _, h => absurd rfl h
  | k + 1, P, i, h => by
    unfold lets at h ⊢
    split at h
    · rename_i hc
      have hl := sg_pos (P := P) (i := i) (by omega)
      rw [if_pos hc, List.length_cons]
      by_cases he : lets f k P (i + 1) = []
      · rw [he]; simp; omega
      · have := lets_in hf k P (i + 1) he
        omega
    · exact absurd rfl h
theorem lets_okL {f k : Nat} {P : List Nat} {i : Nat} (h : lets f k P i ≠ []) : okL k (lets f k P i) := ⟨List.length_pos_iff.mpr h, lets_len f k P i, lets_ok f k P i⟩
theorem lets_en {f k : Nat} {P : List Nat} {i : Nat} : en 32 (lets f k P i) = 0 ↔ lets f k P i = [] := by
  constructor
  · intro h
    by_cases he : lets f k P i = []
    · exact he
    · have := en_pos (b := 32) he (lets_ok f k P i)
      omega
  · intro h; rw [h]; rfl
theorem nI_neg1 : ∀ s f : Nat, s < 200 → f < 200 → s < f → nI s - nI f + nI 1 < nI 1 := by
  intro s f hs hf h
  rw [Int32.lt_iff_toInt_lt]
  have e : nI s - nI f + nI 1 = nI (s + 1) - nI f := by
    rw [← nI_add, Int32.sub_eq_add_neg, Int32.sub_eq_add_neg, Int32.add_assoc, Int32.add_comm (-nI f), ← Int32.add_assoc]
  rw [e, pk_sub_toInt (by omega) (by omega), nI_toInt (by omega)]
  omega
theorem c_readLetters (hL : LPd sh mr a) {P : List Nat} (hC : PdC mi a P) (hok : okD P) {i f k : Nat} (hi : mi a 2 = nI i) (hi2 : i ≤ 50) (hk : k ≤ 4) (hf0 : 0 < f) (hf : f ≤ 100) : Mi mX5_readLetters 1 [.ref a, .int (nI f), .int (nI k)] z sh mi mr (fun v mi' => v = some (.int (nI (en 32 (lets f k P i)))) ∧ mi' = up2 mi a 2 (nI (i + (lets f k P i).length))) := by
  obtain ⟨l0, l1, l2⟩ := id hL
  have H : ∀ (t j : Nat) (acc : Nm) (ls : List Value), j + t = k → lets f k P i = acc ++ lets f t P (i + j) → acc.length = j → Wp yX5_readLetters cX5_readLetters 6 (some .int) (EI 1 z sh mr (fun v mi' => v = some (.int (nI (en 32 (lets f k P i)))) ∧ mi' = up2 mi a 2 (nI (i + (lets f k P i).length)))) 0 0 5 ([.ref a, .int (nI f), .int (nI k), .int (nI (en 32 acc)), .int (nI j)] ++ ls) [] z sh (up2 mi a 2 (nI (i + j))) mr := by
    intro t
    induction t with
    | zero =>
      intro j acc ls hj he hl
      refine r_drop ?_
      refine r_iload 4 dX5_readLetters_5 rfl ?_
      refine r_iload_n 2 dX5_readLetters_7 rfl rfl ?_
      refine r_icmpN_ge 59 dX5_readLetters_8 (by decide) (by omega) (by omega) (fun h8 => ?_) (fun h8 => ?_)
      · refine r_iload_n 3 dX5_readLetters_59 rfl rfl ?_
        refine r_iret dX5_readLetters_60 rfl (Nat.le_of_ble_eq_true rfl) (Nat.le_of_ble_eq_true rfl) ?_
        refine ⟨rfl, rfl, rfl, ?_, ?_⟩
        · rw [he]; simp [lets]
        · rw [he]; simp [lets, hl]
      · omega
    | succ t ih =>
      intro j acc ls hj he hl
      refine r_drop ?_
      have hC' : PdC (up2 mi a 2 (nI (i + j))) a P := hC.at
      have hsl := sg_lt hok (i + j)
      have hacc : en 32 acc < 32 ^ j := by
        refine en_lt (by omega) j acc hl (fun x hx => lets_ok f k P i x ?_)
        rw [he]; exact List.mem_append_left _ hx
      have hp4 : 32 ^ j ≤ 32 ^ 3 := Nat.pow_le_pow_right (by omega) (by omega)
      have hkeep : ¬ (f ≤ sg P (i + j) ∧ sg P (i + j) ≤ f + 25) → lets f k P i = acc := fun h => by
        rw [he]; unfold lets; rw [if_neg h, List.append_nil]
      by_cases hs : f ≤ sg P (i + j)
      · have hgo : sg P (i + j) ≤ f + 25 → lets f k P i = (acc ++ [sg P (i + j) - f + 1]) ++ lets f t P (i + (j + 1)) := fun h => by
          rw [he]; conv => lhs; unfold lets
          rw [if_pos ⟨hs, h⟩, List.append_assoc]; rfl
        refine r_iload 4 dX5_readLetters_5 rfl ?_
        refine r_iload_n 2 dX5_readLetters_7 rfl rfl ?_
        refine r_icmpN_ge 59 dX5_readLetters_8 (by decide) (by omega) (by omega) (fun h8 => ?_) (fun h8 => ?_)
        · omega
        · refine r_aload_n 0 dX5_readLetters_11 rfl rfl ?_
          refine r_callVp [] dX5_readLetters_12 ok_RX5_45 ivX5_peek (by assumption) ⟨_, _, rfl⟩ rfl rfl (Nat.le_of_ble_eq_true rfl) (by refine ⟨?_, ?_, ?_, ?_⟩ <;> exact Nat.le_of_ble_eq_true rfl) (c_peek hL hC' hok (up2_same _ _ _ _) (by omega)) ?_
          refine r_iload_n 1 dX5_readLetters_15 rfl rfl ?_
          refine r_isubN dX5_readLetters_16 (by omega) ?_
          refine r_iconst (v := nI 1) dX5_readLetters_17 (by decide) ?_
          refine r_iaddN dX5_readLetters_18 ?_
          refine r_istore 5 (ls2 := [_, _, _, _, _, _]) dX5_readLetters_19 (by decide) (Nat.le_of_ble_eq_true rfl) rfl ?_
          refine r_iload 5 dX5_readLetters_21 rfl ?_
          refine r_iconst (v := nI 1) dX5_readLetters_23 (by decide) ?_
          refine r_icmpN_lt 34 dX5_readLetters_24 (by decide) (by omega) (by omega) (fun h24 => ?_) (fun h24 => ?_)
          · refine r_iload_n 3 dX5_readLetters_34 rfl rfl ?_
            refine r_iret dX5_readLetters_35 rfl (Nat.le_of_ble_eq_true rfl) (Nat.le_of_ble_eq_true rfl) ?_
            have hk2 := hkeep (by omega)
            exact ⟨rfl, rfl, rfl, by rw [hk2], by rw [hk2, hl]⟩
          · refine r_iload 5 dX5_readLetters_27 rfl ?_
            refine r_bipush (v := nI 26) dX5_readLetters_29 (by decide) ?_
            refine r_icmpN_le 36 dX5_readLetters_31 (by decide) (by omega) (by omega) (fun h31 => ?_) (fun h31 => ?_)
            · refine r_iload_n 3 dX5_readLetters_36 rfl rfl ?_
              refine r_iconst (v := nI 5) dX5_readLetters_37 (by decide) ?_
              refine r_ishlN dX5_readLetters_38 (by omega) (by omega) ?_
              refine r_iload 5 dX5_readLetters_39 rfl ?_
              refine r_iorN dX5_readLetters_41 ?_
              refine r_istore_n 3 (ls2 := [_, _, _, _, _, _]) dX5_readLetters_42 rfl (by decide) (Nat.le_of_ble_eq_true rfl) rfl ?_
              refine r_aload_n 0 dX5_readLetters_43 rfl rfl ?_
              refine r_dup dX5_readLetters_44 rfl ?_
              refine r_getV dX5_readLetters_45 fl_RX5_19 rfl (by assumption) (by first | assumption | exact up2_same _ _ _ _ | exact (Eq.trans (up2_ne _ _ (by omega)) (by first | assumption | exact up2_same _ _ _ _)) | exact (Eq.trans (up2_ne _ _ (by omega)) (Eq.trans (up2_ne _ _ (by omega)) (by first | assumption | exact up2_same _ _ _ _))) | exact (Eq.trans (up2_ne _ _ (by omega)) (Eq.trans (up2_ne _ _ (by omega)) (Eq.trans (up2_ne _ _ (by omega)) (by first | assumption | exact up2_same _ _ _ _)))) | exact (Eq.trans (up2_ne _ _ (by omega)) (Eq.trans (up2_ne _ _ (by omega)) (Eq.trans (up2_ne _ _ (by omega)) (Eq.trans (up2_ne _ _ (by omega)) (by first | assumption | exact up2_same _ _ _ _))))) | rfl) ?_
              refine r_iconst (v := nI 1) dX5_readLetters_48 (by decide) ?_
              refine r_iaddN dX5_readLetters_49 ?_
              refine r_putI dX5_readLetters_50 fl_RX5_19 rfl rfl rfl (by assumption) ?_
              rw [show en 32 acc * 2 ^ 5 ||| sg P (i + j) - f + 1 = en 32 (acc ++ [sg P (i + j) - f + 1]) by rw [or_low (by omega : sg P (i + j) - f + 1 < 2 ^ 5), en_snoc]]
              refine r_iincN 4 (b := 1) (ls2 := [_, _, _, _, _, _]) dX5_readLetters_53 rfl (by decide) (by decide) rfl ?_
              refine r_goto 5 dX5_readLetters_56 (by decide) ?_
              rw [up2_up2]
              exact ih (j + 1) (acc ++ [sg P (i + j) - f + 1]) [_] (by omega) (hgo (by omega)) (by simp [hl])
            · refine r_iload_n 3 dX5_readLetters_34 rfl rfl ?_
              refine r_iret dX5_readLetters_35 rfl (Nat.le_of_ble_eq_true rfl) (Nat.le_of_ble_eq_true rfl) ?_
              have hk2 := hkeep (by omega)
              exact ⟨rfl, rfl, rfl, by rw [hk2], by rw [hk2, hl]⟩
      · have hk2 := hkeep (by omega)
        refine r_iload 4 dX5_readLetters_5 rfl ?_
        refine r_iload_n 2 dX5_readLetters_7 rfl rfl ?_
        refine r_icmpN_ge 59 dX5_readLetters_8 (by decide) (by omega) (by omega) (fun h8 => ?_) (fun h8 => ?_)
        · omega
        · refine r_aload_n 0 dX5_readLetters_11 rfl rfl ?_
          refine r_callVp [] dX5_readLetters_12 ok_RX5_45 ivX5_peek (by assumption) ⟨_, _, rfl⟩ rfl rfl (Nat.le_of_ble_eq_true rfl) (by refine ⟨?_, ?_, ?_, ?_⟩ <;> exact Nat.le_of_ble_eq_true rfl) (c_peek hL hC' hok (up2_same _ _ _ _) (by omega)) ?_
          refine r_iload_n 1 dX5_readLetters_15 rfl rfl ?_
          refine r_isub dX5_readLetters_16 ?_
          refine r_iconst (v := nI 1) dX5_readLetters_17 (by decide) ?_
          refine r_iadd dX5_readLetters_18 ?_
          refine r_istore 5 (ls2 := [_, _, _, _, _, _]) dX5_readLetters_19 (by decide) (Nat.le_of_ble_eq_true rfl) rfl ?_
          refine r_iload 5 dX5_readLetters_21 rfl ?_
          refine r_iconst (v := nI 1) dX5_readLetters_23 (by decide) ?_
          refine r_icmp_lt 34 dX5_readLetters_24 (by decide) (fun h24 => ?_) (fun h24 => ?_)
          · refine r_iload_n 3 dX5_readLetters_34 rfl rfl ?_
            refine r_iret dX5_readLetters_35 rfl (Nat.le_of_ble_eq_true rfl) (Nat.le_of_ble_eq_true rfl) ?_
            exact ⟨rfl, rfl, rfl, by rw [hk2], by rw [hk2, hl]⟩
          · exact absurd (nI_neg1 _ _ (by omega) (by omega) (by omega)) h24
  refine Mv.of pnX5_readLetters (Nat.le_of_ble_eq_true rfl) rfl ?_
  refine r_iconst (v := nI 0) dX5_readLetters_0 (by decide) ?_
  refine r_istore_n 3 (ls2 := [_, _, _, _]) dX5_readLetters_1 rfl (by decide) (Nat.le_of_ble_eq_true rfl) rfl ?_
  refine r_iconst (v := nI 0) dX5_readLetters_2 (by decide) ?_
  refine r_istore 4 (ls2 := [_, _, _, _, _]) dX5_readLetters_3 (by decide) (Nat.le_of_ble_eq_true rfl) rfl ?_
  refine r_mem (up2_id (by rw [hi]; rfl)).symm (H k 0 [] [] (by omega) (by simp) rfl)
theorem c_isHops (x : Int32) : Mp mX9_isHops 0 [.int x] z sh mi mr (b2 (inB x (nI 1) (nI 7))) := by
  refine Mv.of pnX9_isHops (Nat.le_of_ble_eq_true rfl) rfl ?_
  refine r_iload_n 0 dX9_isHops_0 rfl rfl ?_
  refine r_iconst (v := nI 1) dX9_isHops_1 (by decide) ?_
  refine r_icmp_lt 15 dX9_isHops_2 (by decide) (fun h2 => ?_) (fun h2 => ?_)
  · refine r_iconst (v := nI 0) dX9_isHops_15 (by decide) ?_
    refine r_zret dX9_isHops_16 rfl (by first | exact b2_nar _ | decide) (Nat.le_of_ble_eq_true rfl) (Nat.le_of_ble_eq_true rfl) ?_
    refine ⟨rfl, rfl, rfl, ?_, rfl⟩
    simp only [inB]; simp only [h2, decide_true, decide_false]; try simp only [h8, decide_true, decide_false]
    rfl
  · refine r_iload_n 0 dX9_isHops_5 rfl rfl ?_
    refine r_bipush (v := nI 7) dX9_isHops_6 (by decide) ?_
    refine r_icmp_gt 15 dX9_isHops_8 (by decide) (fun h8 => ?_) (fun h8 => ?_)
    · refine r_iconst (v := nI 0) dX9_isHops_15 (by decide) ?_
      refine r_zret dX9_isHops_16 rfl (by first | exact b2_nar _ | decide) (Nat.le_of_ble_eq_true rfl) (Nat.le_of_ble_eq_true rfl) ?_
      refine ⟨rfl, rfl, rfl, ?_, rfl⟩
      simp only [inB]; simp only [h2, decide_true, decide_false]; try simp only [h8, decide_true, decide_false]
      rfl
    · refine r_iconst (v := nI 1) dX9_isHops_11 (by decide) ?_
      refine r_goto 16 dX9_isHops_12 (by decide) ?_
      refine r_zret dX9_isHops_16 rfl (by first | exact b2_nar _ | decide) (Nat.le_of_ble_eq_true rfl) (Nat.le_of_ble_eq_true rfl) ?_
      refine ⟨rfl, rfl, rfl, ?_, rfl⟩
      simp only [inB]; simp only [h2, decide_true, decide_false]; try simp only [h8, decide_true, decide_false]
      rfl
theorem c_readName (hL : LPd sh mr a) {P : List Nat} (hC : PdC mi a P) (hok : okD P) : Mi mX5_readName 2 [.ref a] z sh mi mr (fun v mi' => v = some (.int (match prsN P with | some nm => nI (en 32 nm) | none => nI 0)) ∧ mi' = up2 mi a 2 (nI (lets 65 3 P 0).length)) := by
  obtain ⟨l0, l1, l2⟩ := id hL
  have h3 := lets_len 65 3 P 0
  have hC' : PdC (up2 mi a 2 (nI 0)) a P := hC.at
  have h40 := hok.1
  have p1 : up2 mi a 2 (nI (lets 65 3 P 0).length) a 1 = nI P.length := by rw [up2_ne _ _ (Or.inr (by omega))]; exact hC.1
  have p2 : up2 mi a 2 (nI (lets 65 3 P 0).length) a 2 = nI (lets 65 3 P 0).length := up2_same _ _ _ _
  have hin : lets 65 3 P 0 ≠ [] → (lets 65 3 P 0).length ≤ P.length := fun h => by have := lets_in (by omega : 0 < 65) 3 P 0 h; omega
  refine Mv.of pnX5_readName (Nat.le_of_ble_eq_true rfl) rfl ?_
  refine r_aload_n 0 dX5_readName_0 rfl rfl ?_
  refine r_iconst (v := nI 0) dX5_readName_1 (by decide) ?_
  refine r_putI dX5_readName_2 fl_RX5_19 rfl rfl rfl (by assumption) ?_
  refine r_aload_n 0 dX5_readName_5 rfl rfl ?_
  refine r_bipush (v := nI 65) dX5_readName_6 (by decide) ?_
  refine r_iconst (v := nI 3) dX5_readName_8 (by decide) ?_
  refine r_callVx [_, _] dX5_readName_9 ok_RX5_22 ivX5_readLetters (by assumption) ⟨_, _, rfl⟩ rfl rfl (Nat.le_of_ble_eq_true rfl) (by refine ⟨?_, ?_, ?_, ?_⟩ <;> exact Nat.le_of_ble_eq_true rfl) (c_readLetters hL hC' hok (up2_same _ _ _ _) (by omega) (by omega) (by omega) (by omega)) ?_
  intro m hm
  rw [up2_up2, Nat.zero_add] at hm
  subst hm
  refine r_istore_n 1 (ls2 := [_, _]) dX5_readName_12 rfl (by decide) (Nat.le_of_ble_eq_true rfl) rfl ?_
  refine r_aload_n 0 dX5_readName_13 rfl rfl ?_
  refine r_getV dX5_readName_14 fl_RX5_19 rfl (by assumption) (by first | assumption | exact up2_same _ _ _ _ | exact (Eq.trans (up2_ne _ _ (by omega)) (by first | assumption | exact up2_same _ _ _ _)) | exact (Eq.trans (up2_ne _ _ (by omega)) (Eq.trans (up2_ne _ _ (by omega)) (by first | assumption | exact up2_same _ _ _ _))) | exact (Eq.trans (up2_ne _ _ (by omega)) (Eq.trans (up2_ne _ _ (by omega)) (Eq.trans (up2_ne _ _ (by omega)) (by first | assumption | exact up2_same _ _ _ _)))) | exact (Eq.trans (up2_ne _ _ (by omega)) (Eq.trans (up2_ne _ _ (by omega)) (Eq.trans (up2_ne _ _ (by omega)) (Eq.trans (up2_ne _ _ (by omega)) (by first | assumption | exact up2_same _ _ _ _))))) | rfl) ?_
  refine r_aload_n 0 dX5_readName_17 rfl rfl ?_
  refine r_getV dX5_readName_18 fl_RX5_15 rfl (by assumption) (by first | assumption | exact up2_same _ _ _ _ | exact (Eq.trans (up2_ne _ _ (by omega)) (by first | assumption | exact up2_same _ _ _ _)) | exact (Eq.trans (up2_ne _ _ (by omega)) (Eq.trans (up2_ne _ _ (by omega)) (by first | assumption | exact up2_same _ _ _ _))) | exact (Eq.trans (up2_ne _ _ (by omega)) (Eq.trans (up2_ne _ _ (by omega)) (Eq.trans (up2_ne _ _ (by omega)) (by first | assumption | exact up2_same _ _ _ _)))) | exact (Eq.trans (up2_ne _ _ (by omega)) (Eq.trans (up2_ne _ _ (by omega)) (Eq.trans (up2_ne _ _ (by omega)) (Eq.trans (up2_ne _ _ (by omega)) (by first | assumption | exact up2_same _ _ _ _))))) | rfl) ?_
  refine r_icmpN_ne 28 dX5_readName_21 (by decide) (by omega) (by omega) (fun h21 => ?_) (fun h21 => ?_)
  · refine r_iconst (v := nI 0) dX5_readName_28 (by decide) ?_
    refine r_iret dX5_readName_29 rfl (Nat.le_of_ble_eq_true rfl) (Nat.le_of_ble_eq_true rfl) ?_
    refine ⟨rfl, rfl, rfl, ?_, rfl⟩
    unfold prsN
    by_cases he : lets 65 3 P 0 = []
    · (rw [if_pos (Or.inl he)]) <;> (rw [he]; rfl)
    · have := hin he
      first | rw [if_neg (by omega)] | (rw [if_neg (by rintro (h | h); (exact he h); omega)]; done) | (rw [if_pos (Or.inr (by omega))])
  · refine r_iload_n 1 dX5_readName_24 rfl rfl ?_
    refine r_goto 29 dX5_readName_25 (by decide) ?_
    refine r_iret dX5_readName_29 rfl (Nat.le_of_ble_eq_true rfl) (Nat.le_of_ble_eq_true rfl) ?_
    refine ⟨rfl, rfl, rfl, ?_, rfl⟩
    unfold prsN
    by_cases he : lets 65 3 P 0 = []
    · (rw [if_pos (Or.inl he)]) <;> (rw [he]; rfl)
    · have := hin he
      first | rw [if_neg (by omega)] | (rw [if_neg (by rintro (h | h); (exact he h); omega)]; done) | (rw [if_pos (Or.inr (by omega))])
def RWp (mi : MI) (a b n : Nat) (r : Option Wd × Nat) (v : Option Value) (mi' : MI) : Prop := match r with
  | (none, j) => v = some (.int (nI 0)) ∧ mi' = up2 mi a 2 (nI j)
  | (some w, j) => v = some (.int (nI 1)) ∧ mi' = up2 (up2 (up2 mi a 2 (nI j)) (b + 1) n (nI (wc 32 w))) b 1 (nI (n + 1))
theorem hopsB : ∀ s, s < 127 → inB (nI s - nI 48) (nI 1) (nI 7) = decide (49 ≤ s ∧ s ≤ 55) := by decide +kernel
theorem c_readWord (hL : LPd sh mr a) {b : Nat} (hB : LPk sh mr b) (hab : b + 1 < a ∨ a + 1 < b) {P : List Nat} (hC : PdC mi a P) (hok : okD P) {i n : Nat} (hi : mi a 2 = nI i) (hi2 : i ≤ 42) (hn : mi b 1 = nI n) (hn5 : n < 8) : Mi mX5_readWord 2 [.ref a, .ref b] z sh mi mr (RWp mi a b n (rdW P i)) := by
  obtain ⟨l0, l1, l2⟩ := id hL
  obtain ⟨k0, k1, k2⟩ := id hB
  have h3 := lets_len 65 3 P i
  have h40 := hok.1
  have hC' : ∀ v, PdC (up2 mi a 2 v) a P := fun v => hC.at
  have hnb : ∀ v, up2 mi a 2 v b 1 = nI n := fun v => by rw [up2_row _ _ (by omega)]; exact hn
  refine Mv.of pnX5_readWord (Nat.le_of_ble_eq_true rfl) rfl ?_
  by_cases he : lets 65 3 P i = []
  · have hr : rdW P i = (none, i) := by unfold rdW; simp [he]
    refine r_aload_n 0 dX5_readWord_0 rfl rfl ?_
    refine r_bipush (v := nI 65) dX5_readWord_1 (by decide) ?_
    refine r_iconst (v := nI 3) dX5_readWord_3 (by decide) ?_
    refine r_callVx [_, _] dX5_readWord_4 ok_RX5_22 ivX5_readLetters (by assumption) ⟨_, _, rfl⟩ rfl rfl (Nat.le_of_ble_eq_true rfl) (by refine ⟨?_, ?_, ?_, ?_⟩ <;> exact Nat.le_of_ble_eq_true rfl) (c_readLetters hL hC hok hi (by omega) (by omega) (by omega) (by omega)) ?_
    intro m hm
    subst hm
    rw [he, en_nil]
    refine r_istore_n 2 (ls2 := [_, _, _]) dX5_readWord_7 rfl (by decide) (Nat.le_of_ble_eq_true rfl) rfl ?_
    refine r_iload_n 2 dX5_readWord_8 rfl rfl ?_
    refine r_ifN_ne 14 dX5_readWord_9 (by decide) (by omega) (fun h9 => ?_) (fun h9 => ?_)
    · exact absurd rfl h9
    · refine r_iconst (v := nI 0) dX5_readWord_12 (by decide) ?_
      refine r_zret dX5_readWord_13 rfl (by first | exact b2_nar _ | decide) (Nat.le_of_ble_eq_true rfl) (Nat.le_of_ble_eq_true rfl) ?_
      refine ⟨rfl, rfl, rfl, ?_⟩
      rw [hr]
      exact ⟨rfl, rfl⟩
  · have hokl := lets_okL he
    have hlt := okL_32 hokl
    have hpos := okL_pos (b := 32) hokl
    have hin := lets_in (by omega : 0 < 65) 3 P i he
    generalize hj : i + (lets 65 3 P i).length = j at hin
    have hs1 := sg_lt hok (j + 1)
    have hfin : ∀ (h q : Nat), h ≤ 7 → q ≤ 45 → rdW P i = (some (lets 65 3 P i, h, decide (sg P q = 42)), q + bn (decide (sg P q = 42))) → Wp yX5_readWord cX5_readWord 4 (some .boolean) (EI 2 z sh mr (RWp mi a b n (rdW P i))) 0 0 52 [.ref a, .ref b, .int (nI (en 32 (lets 65 3 P i))), .int (nI h)] [] z sh (up2 mi a 2 (nI q)) mr := by
      intro h q hh hq hr
      refine r_aload_n 1 dX5_readWord_52 rfl rfl ?_
      refine r_iload_n 2 dX5_readWord_53 rfl rfl ?_
      refine r_iload_n 3 dX5_readWord_54 rfl rfl ?_
      refine r_aload_n 0 dX5_readWord_55 rfl rfl ?_
      refine r_bipush (v := nI 42) dX5_readWord_56 (by decide) ?_
      refine r_callVx [_] dX5_readWord_58 ok_RX5_34 ivX5_take (by assumption) ⟨_, _, rfl⟩ rfl rfl (Nat.le_of_ble_eq_true rfl) (by refine ⟨?_, ?_, ?_, ?_⟩ <;> exact Nat.le_of_ble_eq_true rfl) (c_take hL (hC' _) hok (up2_same _ _ _ _) (by omega) (by omega)) ?_
      intro m hm
      rw [up2_up2] at hm
      subst hm
      refine r_callVw [_, _, _] dX5_readWord_61 ok_RX5_55 ivX4_addWord (by assumption) ⟨_, _, rfl⟩ rfl rfl (Nat.le_of_ble_eq_true rfl) (by refine ⟨?_, ?_, ?_, ?_⟩ <;> exact Nat.le_of_ble_eq_true rfl) (c_addWord hB (hnb _) (by omega) hlt hh) ?_
      intro m hm
      subst hm
      refine r_iconst (v := nI 1) dX5_readWord_64 (by decide) ?_
      refine r_zret dX5_readWord_65 rfl (by first | exact b2_nar _ | decide) (Nat.le_of_ble_eq_true rfl) (Nat.le_of_ble_eq_true rfl) ?_
      refine ⟨rfl, rfl, rfl, ?_⟩
      rw [hr]
      exact ⟨rfl, rfl⟩
    have K25 : sg P j = 45 → Wp yX5_readWord cX5_readWord 4 (some .boolean) (EI 2 z sh mr (RWp mi a b n (rdW P i))) 0 0 25 [.ref a, .ref b, .int (nI (en 32 (lets 65 3 P i))), .int (nI 0)] [] z sh (up2 mi a 2 (nI (j + 1))) mr := by
      intro hd
      refine r_aload_n 0 dX5_readWord_25 rfl rfl ?_
      refine r_callVp [] dX5_readWord_26 ok_RX5_45 ivX5_peek (by assumption) ⟨_, _, rfl⟩ rfl rfl (Nat.le_of_ble_eq_true rfl) (by refine ⟨?_, ?_, ?_, ?_⟩ <;> exact Nat.le_of_ble_eq_true rfl) (c_peek hL (hC' _) hok (up2_same _ _ _ _) (by omega)) ?_
      refine r_bipush (v := nI 48) dX5_readWord_29 (by decide) ?_
      refine r_isub dX5_readWord_31 ?_
      refine r_istore_n 3 (ls2 := [_, _, _, _]) dX5_readWord_32 rfl (by decide) (Nat.le_of_ble_eq_true rfl) rfl ?_
      refine r_iload_n 3 dX5_readWord_33 rfl rfl ?_
      refine r_callSNp [_] dX5_readWord_34 ok_RX5_52 isX9_isHops rfl rfl (Nat.le_of_ble_eq_true rfl) (by refine ⟨?_, ?_, ?_, ?_⟩ <;> exact Nat.le_of_ble_eq_true rfl) (c_isHops _) ?_
      rw [hopsB _ (by omega)]
      refine r_ifB_ne 42 dX5_readWord_37 (by decide) (fun h37 => ?_) (fun h37 => ?_)
      · refine r_aload_n 0 dX5_readWord_42 rfl rfl ?_
        refine r_dup dX5_readWord_43 rfl ?_
        refine r_getV dX5_readWord_44 fl_RX5_19 rfl (by assumption) (by first | assumption | exact up2_same _ _ _ _ | exact (Eq.trans (up2_ne _ _ (by omega)) (by first | assumption | exact up2_same _ _ _ _)) | exact (Eq.trans (up2_ne _ _ (by omega)) (Eq.trans (up2_ne _ _ (by omega)) (by first | assumption | exact up2_same _ _ _ _))) | exact (Eq.trans (up2_ne _ _ (by omega)) (Eq.trans (up2_ne _ _ (by omega)) (Eq.trans (up2_ne _ _ (by omega)) (by first | assumption | exact up2_same _ _ _ _)))) | exact (Eq.trans (up2_ne _ _ (by omega)) (Eq.trans (up2_ne _ _ (by omega)) (Eq.trans (up2_ne _ _ (by omega)) (Eq.trans (up2_ne _ _ (by omega)) (by first | assumption | exact up2_same _ _ _ _))))) | rfl) ?_
        refine r_iconst (v := nI 1) dX5_readWord_47 (by decide) ?_
        refine r_iaddN dX5_readWord_48 ?_
        refine r_putI dX5_readWord_49 fl_RX5_19 rfl rfl rfl (by assumption) ?_
        have hh : 49 ≤ sg P (j + 1) ∧ sg P (j + 1) ≤ 55 := by simpa using h37
        have hr : rdW P i = (some (lets 65 3 P i, sg P (j + 1) - 48, decide (sg P (j + 2) = 42)), j + 2 + bn (decide (sg P (j + 2) = 42))) := by unfold rdW; simp only [hj]; rw [if_neg he, if_pos hd, if_pos hh]
        rw [up2_up2, pk_sub (by omega : 48 ≤ sg P (j + 1))]
        exact hfin (sg P (j + 1) - 48) (j + 2) (by omega) (by omega) hr
      · have hh : ¬ (49 ≤ sg P (j + 1) ∧ sg P (j + 1) ≤ 55) := by simpa using h37
        have hr : rdW P i = (none, j + 1) := by unfold rdW; simp only [hj]; rw [if_neg he, if_pos hd, if_neg hh]
        refine r_iconst (v := nI 0) dX5_readWord_40 (by decide) ?_
        refine r_zret dX5_readWord_41 rfl (by decide) (Nat.le_refl _) (Nat.le_refl _) ?_
        refine ⟨rfl, rfl, rfl, ?_⟩
        rw [hr]
        exact ⟨rfl, rfl⟩
    refine r_aload_n 0 dX5_readWord_0 rfl rfl ?_
    refine r_bipush (v := nI 65) dX5_readWord_1 (by decide) ?_
    refine r_iconst (v := nI 3) dX5_readWord_3 (by decide) ?_
    refine r_callVx [_, _] dX5_readWord_4 ok_RX5_22 ivX5_readLetters (by assumption) ⟨_, _, rfl⟩ rfl rfl (Nat.le_of_ble_eq_true rfl) (by refine ⟨?_, ?_, ?_, ?_⟩ <;> exact Nat.le_of_ble_eq_true rfl) (c_readLetters hL hC hok hi (by omega) (by omega) (by omega) (by omega)) ?_
    intro m hm
    subst hm
    rw [hj]
    refine r_istore_n 2 (ls2 := [_, _, _]) dX5_readWord_7 rfl (by decide) (Nat.le_of_ble_eq_true rfl) rfl ?_
    refine r_iload_n 2 dX5_readWord_8 rfl rfl ?_
    refine r_ifN_ne 14 dX5_readWord_9 (by decide) (by omega) (fun h9 => ?_) (fun h9 => ?_)
    · refine r_iconst (v := nI 0) dX5_readWord_14 (by decide) ?_
      refine r_istore_n 3 (ls2 := [_, _, _, _]) dX5_readWord_15 rfl (by decide) (Nat.le_of_ble_eq_true rfl) rfl ?_
      refine r_aload_n 0 dX5_readWord_16 rfl rfl ?_
      refine r_bipush (v := nI 45) dX5_readWord_17 (by decide) ?_
      refine r_callVx [_] dX5_readWord_19 ok_RX5_34 ivX5_take (by assumption) ⟨_, _, rfl⟩ rfl rfl (Nat.le_of_ble_eq_true rfl) (by refine ⟨?_, ?_, ?_, ?_⟩ <;> exact Nat.le_of_ble_eq_true rfl) (c_take hL (hC' _) hok (up2_same _ _ _ _) (by omega) (by omega)) ?_
      intro m hm
      rw [up2_up2] at hm
      subst hm
      refine r_ifB_eq 52 dX5_readWord_22 (by decide) (fun h22 => ?_) (fun h22 => ?_)
      · have hd : ¬ sg P j = 45 := by simpa using h22
        rw [h22]
        exact hfin 0 j (by omega) (by omega) (by unfold rdW; simp only [hj]; rw [if_neg he, if_neg hd])
      · rw [h22]
        exact K25 (by simpa using h22)
    · omega
end PAD
