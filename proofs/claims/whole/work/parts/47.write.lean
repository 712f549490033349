-- a packet, written
def sgn (f : Nat) (l : Nm) : List Nat := l.map (fun x => f + x - 1)
def wrW (w : Wd) : List Nat := sgn 65 w.1 ++ ((if 0 < w.2.1 then [45, 48 + w.2.1] else []) ++ (if w.2.2 = true then [42] else []))
def jw : List Wd → Nat → List Nat
  | [], _ => []
  | w :: t, k => (if 0 < k then [44] else []) ++ (wrW w ++ jw t (k + 1))
def wrP (p : Pk) : List Nat := sgn 65 p.1 ++ (62 :: (jw p.2.2 0 ++ (58 :: sgn 97 p.2.1)))
def odq (f d : Nat) : List Nat := if 0 < d then [f + d - 1] else []
theorem wrW_len {w : Wd} (h : okW w) : (wrW w).length ≤ 6 := by
  unfold wrW sgn
  have := h.1.2.1
  simp only [List.length_append, List.length_map]
  split <;> split <;> simp <;> omega
theorem jw_len : ∀ (ws : List Wd) (k : Nat), (∀ w ∈ ws, okW w) → (jw ws k).length + (if k = 0 ∧ ws ≠ [] then 1 else 0) ≤ 7 * ws.length
  | [], k, _ => by simp [jw]
  | w :: t, k, h => by
    have h1 := wrW_len (h w (by simp))
    have h2 := jw_len t (k + 1) (fun x hx => h x (by simp [hx]))
    rw [if_neg (by omega)] at h2
    unfold jw
    simp only [List.length_append, List.length_cons]
    split
    · rw [if_neg (by omega)]; simp; omega
    · rw [if_pos (by simp; omega)]; simp; omega
theorem wrP_len {p : Pk} (h : okP p) : (wrP p).length ≤ 64 := by
  unfold wrP sgn
  have h1 := h.1.2.1
  have h2 := h.2.1.2.1
  have h3 := jw_len p.2.2 0 h.2.2.2
  have h4 := h.2.2.1
  simp only [List.length_append, List.length_cons, List.length_map]
  by_cases he : p.2.2 = []
  · rw [he]; simp [jw]; omega
  · rw [if_pos ⟨rfl, he⟩] at h3; omega
theorem od_en {b f : Nat} (hb : 27 ≤ b) (hb2 : b ≤ 32) {l : Nm} (h : okL 4 l) : odq f (en b l / (b * b * b) % b) ++ (odq f (en b l / (b * b) % b) ++ (odq f (en b l / b % b) ++ odq f (en b l % b))) = sgn f l := by
  have hd : ∀ x y, x < b → (y * b + x) % b = x ∧ (y * b + x) / b = y := fun x y hx => by
    constructor
    · rw [Nat.add_comm, Nat.add_mul_mod_self_right]; exact Nat.mod_eq_of_lt hx
    · rw [Nat.add_comm, Nat.add_mul_div_right _ _ (by omega), Nat.div_eq_of_lt hx]; omega
  have d2 : ∀ v, v / (b * b) = v / b / b := fun v => by rw [Nat.div_div_eq_div_mul]
  have d3 : ∀ v, v / (b * b * b) = v / b / b / b := fun v => by rw [Nat.div_div_eq_div_mul, Nat.div_div_eq_div_mul, Nat.mul_assoc]
  rw [d2, d3]
  have o : ∀ x, 1 ≤ x → odq f x = [f + x - 1] := fun x hx => by unfold odq; rw [if_pos (by omega)]
  have o0 : odq f 0 = [] := rfl
  have z1 : 0 % b = 0 := Nat.zero_mod b
  have z2 : 0 / b = 0 := Nat.zero_div b
  match l, h with
  | [], h => exact absurd h.1 (by simp)
  | [x], h =>
    have hx := h.2.2 x (by simp)
    have e : en b [x] = 0 * b + x := by simp [en]
    obtain ⟨e1, e2⟩ := hd x 0 (by omega)
    rw [e, e1, e2, z2, z2, z1, o0, o x hx.1]; rfl
  | [x, y], h =>
    have hx := h.2.2 x (by simp)
    have hy := h.2.2 y (by simp)
    have e : en b [x, y] = (0 * b + x) * b + y := by simp [en]
    obtain ⟨e1, e2⟩ := hd y (0 * b + x) (by omega)
    obtain ⟨e3, e4⟩ := hd x 0 (by omega)
    rw [e, e1, e2, e3, e4, z2, z1, o0, o x hx.1, o y hy.1]; rfl
  | [x, y, v], h =>
    have hx := h.2.2 x (by simp)
    have hy := h.2.2 y (by simp)
    have hv := h.2.2 v (by simp)
    have e : en b [x, y, v] = ((0 * b + x) * b + y) * b + v := by simp [en]
    obtain ⟨e1, e2⟩ := hd v ((0 * b + x) * b + y) (by omega)
    obtain ⟨e3, e4⟩ := hd y (0 * b + x) (by omega)
    obtain ⟨e5, e6⟩ := hd x 0 (by omega)
    rw [e, e1, e2, e3, e4, e5, e6, z1, o0, o x hx.1, o y hy.1, o v hv.1]; rfl
  | [x, y, v, u], h =>
    have hx := h.2.2 x (by simp)
    have hy := h.2.2 y (by simp)
    have hv := h.2.2 v (by simp)
    have hu := h.2.2 u (by simp)
    have e : en b [x, y, v, u] = (((0 * b + x) * b + y) * b + v) * b + u := by simp [en]
    obtain ⟨e1, e2⟩ := hd u (((0 * b + x) * b + y) * b + v) (by omega)
    obtain ⟨e3, e4⟩ := hd v ((0 * b + x) * b + y) (by omega)
    obtain ⟨e5, e6⟩ := hd y (0 * b + x) (by omega)
    obtain ⟨e7, e8⟩ := hd x 0 (by omega)
    rw [e, e1, e2, e3, e4, e5, e6, e7, o x hx.1, o y hy.1, o v hv.1, o u hu.1]; rfl
  | _ :: _ :: _ :: _ :: _ :: t, h => exact absurd h.2.1 (by simp)
theorem okL_34 {l : Nm} (h : okL 3 l) : okL 4 l := ⟨h.1, by have := h.2.1; omega, h.2.2⟩
section WRITE
variable {z : Nat} {sh : SH} {mi : MI} {mr : MR} {a : Nat}
def LWr (sh : SH) (mr : MR) (a : Nat) : Prop := sh a = (8, 0) ∧ mr a 0 = some (a + 1) ∧ sh (a + 1) = (11, 64)
def WrC (mi : MI) (a : Nat) (D : List Nat) : Prop := mi a 1 = nI D.length ∧ ∀ i x, D[i]? = some x → mi (a + 1) i = nI x
theorem WrC.keep {m m' : MI} {D : List Nat} (h : WrC m a D) (h1 : m' a = m a) (h2 : m' (a + 1) = m (a + 1)) : WrC m' a D := by
  unfold WrC at *; rw [h1, h2]; exact h
theorem c_wrPut (hL : LWr sh mr a) {D : List Nat} (hW : WrC mi a D) (hl : D.length < 64) {x : Nat} : Mi mX8_put 0 [.ref a, .int (nI x)] z sh mi mr (fun v m => v = none ∧ WrC m a (D ++ [x]) ∧ Oth mi m a (a + 2)) := by
  obtain ⟨l0, l1, l2⟩ := id hL
  obtain ⟨w1, w2⟩ := id hW
  refine Mv.of pnX8_put (Nat.le_of_ble_eq_true rfl) rfl ?_
  refine r_aload_n 0 dX8_put_0 rfl rfl ?_
  refine r_getV dX8_put_1 fl_RX8_15 rfl (by assumption) (by first | assumption | exact up2_same _ _ _ _ | exact (Eq.trans (up2_ne _ _ (by omega)) (by first | assumption | exact up2_same _ _ _ _)) | exact (Eq.trans (up2_ne _ _ (by omega)) (Eq.trans (up2_ne _ _ (by omega)) (by first | assumption | exact up2_same _ _ _ _))) | exact (Eq.trans (up2_ne _ _ (by omega)) (Eq.trans (up2_ne _ _ (by omega)) (Eq.trans (up2_ne _ _ (by omega)) (by first | assumption | exact up2_same _ _ _ _)))) | exact (Eq.trans (up2_ne _ _ (by omega)) (Eq.trans (up2_ne _ _ (by omega)) (Eq.trans (up2_ne _ _ (by omega)) (Eq.trans (up2_ne _ _ (by omega)) (by first | assumption | exact up2_same _ _ _ _))))) | rfl) ?_
  refine r_bipush (v := nI 64) dX8_put_4 (by decide) ?_
  refine r_icmpN_ge 29 dX8_put_6 (by decide) (by omega) (by omega) (fun h6 => ?_) (fun h6 => ?_)
  · first | omega | (refine r_vret dX8_put_29 rfl (Nat.le_refl _) (Nat.le_refl _) ?_; refine ⟨rfl, rfl, rfl, rfl, ⟨by rw [up2_same, List.length_append]; rfl, fun i y hy => ?_⟩, (Oth.rf.up (by omega) (by omega)).up (by omega) (by omega)⟩; (by_cases e : i = D.length; (subst e; rw [List.getElem?_append_right (Nat.le_refl _), Nat.sub_self] at hy; cases hy; rw [up2_row _ _ (by omega), up2_same]); (have hil := gl_lt hy; rw [List.length_append] at hil; simp at hil; rw [List.getElem?_append_left (by omega)] at hy; rw [up2_row _ _ (by omega), up2_ne _ _ (Or.inr e)]; exact w2 i y hy)))
  · refine r_aload_n 0 dX8_put_9 rfl rfl ?_
    refine r_getR dX8_put_10 fl_RX8_9 rfl (by assumption) (by assumption) ?_
    refine r_aload_n 0 dX8_put_13 rfl rfl ?_
    refine r_getV dX8_put_14 fl_RX8_15 rfl (by assumption) (by first | assumption | exact up2_same _ _ _ _ | exact (Eq.trans (up2_ne _ _ (by omega)) (by first | assumption | exact up2_same _ _ _ _)) | exact (Eq.trans (up2_ne _ _ (by omega)) (Eq.trans (up2_ne _ _ (by omega)) (by first | assumption | exact up2_same _ _ _ _))) | exact (Eq.trans (up2_ne _ _ (by omega)) (Eq.trans (up2_ne _ _ (by omega)) (Eq.trans (up2_ne _ _ (by omega)) (by first | assumption | exact up2_same _ _ _ _)))) | exact (Eq.trans (up2_ne _ _ (by omega)) (Eq.trans (up2_ne _ _ (by omega)) (Eq.trans (up2_ne _ _ (by omega)) (Eq.trans (up2_ne _ _ (by omega)) (by first | assumption | exact up2_same _ _ _ _))))) | rfl) ?_
    refine r_iload_n 1 dX8_put_17 rfl rfl ?_
    refine r_iast dX8_put_18 (by assumption) (by omega) (by omega) ?_
    refine r_aload_n 0 dX8_put_19 rfl rfl ?_
    refine r_dup dX8_put_20 rfl ?_
    refine r_getV dX8_put_21 fl_RX8_15 rfl (by assumption) (by first | assumption | exact up2_same _ _ _ _ | exact (Eq.trans (up2_ne _ _ (by omega)) (by first | assumption | exact up2_same _ _ _ _)) | exact (Eq.trans (up2_ne _ _ (by omega)) (Eq.trans (up2_ne _ _ (by omega)) (by first | assumption | exact up2_same _ _ _ _))) | exact (Eq.trans (up2_ne _ _ (by omega)) (Eq.trans (up2_ne _ _ (by omega)) (Eq.trans (up2_ne _ _ (by omega)) (by first | assumption | exact up2_same _ _ _ _)))) | exact (Eq.trans (up2_ne _ _ (by omega)) (Eq.trans (up2_ne _ _ (by omega)) (Eq.trans (up2_ne _ _ (by omega)) (Eq.trans (up2_ne _ _ (by omega)) (by first | assumption | exact up2_same _ _ _ _))))) | rfl) ?_
    refine r_iconst (v := nI 1) dX8_put_24 (by decide) ?_
    refine r_iaddN dX8_put_25 ?_
    refine r_putI dX8_put_26 fl_RX8_15 rfl rfl rfl (by assumption) ?_
    first | omega | (refine r_vret dX8_put_29 rfl (Nat.le_refl _) (Nat.le_refl _) ?_; refine ⟨rfl, rfl, rfl, rfl, ⟨by rw [up2_same, List.length_append]; rfl, fun i y hy => ?_⟩, (Oth.rf.up (by omega) (by omega)).up (by omega) (by omega)⟩; (by_cases e : i = D.length; (subst e; rw [List.getElem?_append_right (Nat.le_refl _), Nat.sub_self] at hy; cases hy; rw [up2_row _ _ (by omega), up2_same]); (have hil := gl_lt hy; rw [List.length_append] at hil; simp at hil; rw [List.getElem?_append_left (by omega)] at hy; rw [up2_row _ _ (by omega), up2_ne _ _ (Or.inr e)]; exact w2 i y hy)))
def outC (f v : Nat) : Nat → List Nat
  | 0 => odq f (v / 2 ^ (5 * 0) % 32)
  | i + 1 => odq f (v / 2 ^ (5 * (i + 1)) % 32) ++ outC f v i
theorem outC_0 (f v : Nat) : outC f v 0 = odq f (v / 2 ^ (5 * 0) % 32) := rfl
theorem outC_s (f v i : Nat) : outC f v (i + 1) = odq f (v / 2 ^ (5 * (i + 1)) % 32) ++ outC f v i := rfl
theorem odq_p {f d : Nat} (h : 0 < d) : odq f d = [f + d - 1] := by unfold odq; rw [if_pos h]
theorem odq_z {f d : Nat} (h : d = 0) : odq f d = [] := by unfold odq; rw [if_neg (by omega)]
theorem outC_en {f : Nat} {l : Nm} (h : okL 4 l) : outC f (en 32 l) 3 = sgn f l := by
  rw [← od_en (b := 32) (f := f) (by omega) (by omega) h]
  show odq f (en 32 l / 2 ^ (5 * 3) % 32) ++ (odq f (en 32 l / 2 ^ (5 * 2) % 32) ++ (odq f (en 32 l / 2 ^ (5 * 1) % 32) ++ odq f (en 32 l / 2 ^ (5 * 0) % 32))) = _
  rw [show (2 : Nat) ^ (5 * 3) = 32 * 32 * 32 by decide, show (2 : Nat) ^ (5 * 2) = 32 * 32 by decide, show (2 : Nat) ^ (5 * 1) = 32 by decide, show (2 : Nat) ^ (5 * 0) = 1 by decide, Nat.div_one]
theorem c_wrLet (hL : LWr sh mr a) {D : List Nat} (hW : WrC mi a D) {f : Nat} (hf : f ≤ 100) (hf1 : 1 ≤ f) {l : Nm} (hl : okL 4 l) (hlen : (D ++ sgn f l).length ≤ 64) : Mi mX8_putLetters 1 [.ref a, .int (nI (en 32 l)), .int (nI f)] z sh mi mr (fun v m => v = none ∧ WrC m a (D ++ sgn f l) ∧ Oth mi m a (a + 2)) := by
  obtain ⟨l0, l1, l2⟩ := id hL
  have hv := okT_32 hl
  rw [← outC_en hl] at hlen ⊢
  generalize hve : en 32 l = v at *
  have hT0 : D ++ outC f v 3 = D ++ outC f v 3 := rfl
  generalize hT : D ++ outC f v 3 = T at hlen hT0 ⊢
  have H : ∀ (i : Nat) (E : List Nat) (m : MI) (ls : List Value), i ≤ 3 → WrC m a E → T = E ++ outC f v i → Oth mi m a (a + 2) → Wp yX8_putLetters cX8_putLetters 5 none (EI 1 z sh mr (fun v' m => v' = none ∧ WrC m a T ∧ Oth mi m a (a + 2))) 0 0 2 ([.ref a, .int (nI v), .int (nI f), .int (nI i)] ++ ls) [] z sh m mr := by
    intro i
    induction i with
    | zero =>
      intro E m ls hi hE he hO
      refine r_drop ?_
      have hmod : v / 2 ^ (5 * 0) &&& 31 = v / 2 ^ (5 * 0) % 32 := and_mod _ 5
      have hdl : v / 2 ^ (5 * 0) % 32 < 32 := Nat.mod_lt _ (by omega)
      have hdl2 : v / 2 ^ (5 * 0) ≤ v := Nat.div_le_self _ _
      have hfin : ∀ (m' : MI) (E' : List Nat) (ls' : List Value), WrC m' a E' → T = E' → Oth mi m' a (a + 2) → Wp yX8_putLetters cX8_putLetters 5 none (EI 1 z sh mr (fun v' m => v' = none ∧ WrC m a T ∧ Oth mi m a (a + 2))) 0 0 2 ([.ref a, .int (nI v), .int (nI f), .int (-1)] ++ ls') [] z sh m' mr := by
        intro m' E' ls' g1 g2 g3
        refine r_drop ?_
        refine r_iload_n 3 dX8_putLetters_2 rfl rfl ?_
        refine r_if_lt 37 dX8_putLetters_3 (by decide) (fun h3 => ?_) (fun h3 => ?_)
        · refine r_vret dX8_putLetters_37 rfl (Nat.le_of_ble_eq_true rfl) (Nat.le_of_ble_eq_true rfl) ?_
          exact ⟨rfl, rfl, rfl, rfl, by rw [g2]; exact g1, g3⟩
        · exact absurd (by decide) h3
      refine r_iload_n 3 dX8_putLetters_2 rfl rfl ?_
      refine r_ifN_lt 37 dX8_putLetters_3 (by decide) (by omega) ?_
      refine r_iload_n 1 dX8_putLetters_6 rfl rfl ?_
      refine r_iconst (v := nI 5) dX8_putLetters_7 (by decide) ?_
      refine r_iload_n 3 dX8_putLetters_8 rfl rfl ?_
      refine r_imulN dX8_putLetters_9 ?_
      refine r_ishrN dX8_putLetters_10 (by omega) (by omega) ?_
      refine r_bipush (v := nI 31) dX8_putLetters_11 (by decide) ?_
      refine r_iandN dX8_putLetters_13 ?_
      rw [hmod]
      refine r_istore 4 (ls2 := [_, _, _, _, _]) dX8_putLetters_14 (by decide) (Nat.le_of_ble_eq_true rfl) rfl ?_
      refine r_iload 4 dX8_putLetters_16 rfl ?_
      refine r_ifN_le 31 dX8_putLetters_18 (by decide) (by omega) (fun h18 => ?_) (fun h18 => ?_)
      · refine r_iinc 3 (ls2 := [_, _, _, _, _]) dX8_putLetters_31 rfl rfl (by decide) rfl ?_
        refine r_goto 2 dX8_putLetters_34 (by decide) ?_
        first | (refine hfin m E [_] hE ?_ hO; rw [he, outC_0, odq_z h18, List.append_nil]) | (refine hfin m2 _ [_] g1 ?_ (hO.trans g2); rw [he, outC_0, odq_p h18])
      · refine r_aload_n 0 dX8_putLetters_21 rfl rfl ?_
        refine r_iload_n 2 dX8_putLetters_22 rfl rfl ?_
        refine r_iload 4 dX8_putLetters_23 rfl ?_
        refine r_iaddN dX8_putLetters_25 ?_
        refine r_iconst (v := nI 1) dX8_putLetters_26 (by decide) ?_
        refine r_isubN dX8_putLetters_27 (by omega) ?_
        refine r_callVw [_] dX8_putLetters_28 ok_RX8_28 ivX8_put (by assumption) ⟨_, _, rfl⟩ rfl rfl (Nat.le_of_ble_eq_true rfl) (by refine ⟨?_, ?_, ?_, ?_⟩ <;> exact Nat.le_of_ble_eq_true rfl) (c_wrPut hL hE (by have h3 := congrArg List.length he; (first | rw [outC_0, odq_p h18] at h3 | rw [outC_s, odq_p h18] at h3); simp at h3; omega)) ?_
        intro m2 ⟨g1, g2⟩
        refine r_iinc 3 (ls2 := [_, _, _, _, _]) dX8_putLetters_31 rfl rfl (by decide) rfl ?_
        refine r_goto 2 dX8_putLetters_34 (by decide) ?_
        first | (refine hfin m E [_] hE ?_ hO; rw [he, outC_0, odq_z h18, List.append_nil]) | (refine hfin m2 _ [_] g1 ?_ (hO.trans g2); rw [he, outC_0, odq_p h18])
    | succ i ih =>
      intro E m ls hi hE he hO
      refine r_drop ?_
      have hmod : v / 2 ^ (5 * (i + 1)) &&& 31 = v / 2 ^ (5 * (i + 1)) % 32 := and_mod _ 5
      have hdl : v / 2 ^ (5 * (i + 1)) % 32 < 32 := Nat.mod_lt _ (by omega)
      have hdl2 : v / 2 ^ (5 * (i + 1)) ≤ v := Nat.div_le_self _ _
      have hdec : nI (i + 1) + Int32.ofInt (-1) = nI i := sb_m1 (by omega)
      refine r_iload_n 3 dX8_putLetters_2 rfl rfl ?_
      refine r_ifN_lt 37 dX8_putLetters_3 (by decide) (by omega) ?_
      refine r_iload_n 1 dX8_putLetters_6 rfl rfl ?_
      refine r_iconst (v := nI 5) dX8_putLetters_7 (by decide) ?_
      refine r_iload_n 3 dX8_putLetters_8 rfl rfl ?_
      refine r_imulN dX8_putLetters_9 ?_
      refine r_ishrN dX8_putLetters_10 (by omega) (by omega) ?_
      refine r_bipush (v := nI 31) dX8_putLetters_11 (by decide) ?_
      refine r_iandN dX8_putLetters_13 ?_
      rw [hmod]
      refine r_istore 4 (ls2 := [_, _, _, _, _]) dX8_putLetters_14 (by decide) (Nat.le_of_ble_eq_true rfl) rfl ?_
      refine r_iload 4 dX8_putLetters_16 rfl ?_
      refine r_ifN_le 31 dX8_putLetters_18 (by decide) (by omega) (fun h18 => ?_) (fun h18 => ?_)
      · refine r_iinc 3 (ls2 := [_, _, _, _, _]) dX8_putLetters_31 rfl rfl (by decide) rfl ?_
        refine r_goto 2 dX8_putLetters_34 (by decide) ?_
        rw [hdec]
        first | (refine ih E m [_] (by omega) hE ?_ hO; rw [he, outC_s, odq_z h18, List.nil_append]) | (refine ih _ m2 [_] (by omega) g1 ?_ (hO.trans g2); rw [he, outC_s, odq_p h18, List.append_assoc])
      · refine r_aload_n 0 dX8_putLetters_21 rfl rfl ?_
        refine r_iload_n 2 dX8_putLetters_22 rfl rfl ?_
        refine r_iload 4 dX8_putLetters_23 rfl ?_
        refine r_iaddN dX8_putLetters_25 ?_
        refine r_iconst (v := nI 1) dX8_putLetters_26 (by decide) ?_
        refine r_isubN dX8_putLetters_27 (by omega) ?_
        refine r_callVw [_] dX8_putLetters_28 ok_RX8_28 ivX8_put (by assumption) ⟨_, _, rfl⟩ rfl rfl (Nat.le_of_ble_eq_true rfl) (by refine ⟨?_, ?_, ?_, ?_⟩ <;> exact Nat.le_of_ble_eq_true rfl) (c_wrPut hL hE (by have h3 := congrArg List.length he; (first | rw [outC_0, odq_p h18] at h3 | rw [outC_s, odq_p h18] at h3); simp at h3; omega)) ?_
        intro m2 ⟨g1, g2⟩
        refine r_iinc 3 (ls2 := [_, _, _, _, _]) dX8_putLetters_31 rfl rfl (by decide) rfl ?_
        refine r_goto 2 dX8_putLetters_34 (by decide) ?_
        rw [hdec]
        first | (refine ih E m [_] (by omega) hE ?_ hO; rw [he, outC_s, odq_z h18, List.nil_append]) | (refine ih _ m2 [_] (by omega) g1 ?_ (hO.trans g2); rw [he, outC_s, odq_p h18, List.append_assoc])
  refine Mv.of pnX8_putLetters (Nat.le_of_ble_eq_true rfl) rfl ?_
  refine r_iconst (v := nI 3) dX8_putLetters_0 (by decide) ?_
  refine r_istore_n 3 (ls2 := [_, _, _, _]) dX8_putLetters_1 rfl (by decide) (Nat.le_of_ble_eq_true rfl) rfl ?_
  exact H 3 D mi [] (by omega) hW hT.symm Oth.rf
theorem c_wrWord (hL : LWr sh mr a) {b : Nat} (hB : LPk sh mr b) (hab : b + 2 ≤ a ∨ a + 2 ≤ b) {p : Pk} (hP : PkC mi b p) (hp : okP p) {i : Nat} {w : Wd} (hw : p.2.2[i]? = some w) {D : List Nat} (hW : WrC mi a D) (hlen : (D ++ wrW w).length ≤ 64) : Mi mX8_putWord 2 [.ref a, .ref b, .int (nI i)] z sh mi mr (fun v m => v = none ∧ WrC m a (D ++ wrW w) ∧ Oth mi m a (a + 2)) := by
  obtain ⟨l0, l1, l2⟩ := id hL
  obtain ⟨k0, k1, k2⟩ := id hB
  obtain ⟨p1, p2, p3, p4⟩ := id hP
  have h8 := hp.2.2.1
  have hil := gl_lt hw
  have hv := p4 i w hw
  have hwk := hp.2.2.2 w (gl_mem hw)
  have hvl := wc_lt hwk
  have e1 := wc_div16 (b := 32) hwk.2
  have e2 := wc_hops (b := 32) hwk.2
  have e3 := wc_mod2 32 w
  have hw7 := hwk.2
  unfold wrW at hlen ⊢
  have hkeep : ∀ m, Oth mi m a (a + 2) → m b = mi b ∧ m (b + 1) = mi (b + 1) := fun m h => ⟨h b (by omega), h (b + 1) (by omega)⟩
  have hb1 : ∀ m, Oth mi m a (a + 2) → m b 1 = nI p.2.2.length := fun m h => by rw [(hkeep m h).1]; exact p1
  have hbv : ∀ m, Oth mi m a (a + 2) → m (b + 1) i = nI (wc 32 w) := fun m h => by rw [(hkeep m h).2]; exact hv
  have hl1 : (D ++ sgn 65 w.1).length ≤ 64 := by rw [List.length_append] at hlen ⊢; rw [List.length_append] at hlen; omega
  have K37 : ∀ (m : MI) (E : List Nat), WrC m a E → Oth mi m a (a + 2) → D ++ (sgn 65 w.1 ++ ((if 0 < w.2.1 then [45, 48 + w.2.1] else []) ++ (if w.2.2 = true then [42] else []))) = E ++ (if w.2.2 = true then [42] else []) → Wp yX8_putWord cX8_putWord 3 none (EI 2 z sh mr (fun v m => v = none ∧ WrC m a (D ++ (sgn 65 w.1 ++ ((if 0 < w.2.1 then [45, 48 + w.2.1] else []) ++ (if w.2.2 = true then [42] else [])))) ∧ Oth mi m a (a + 2))) 0 0 37 [.ref a, .ref b, .int (nI i)] [] z sh m mr := by
    intro m E hE hO he
    have hel := congrArg List.length he
    refine r_aload_n 1 dX8_putWord_37 rfl rfl ?_
    refine r_iload_n 2 dX8_putWord_38 rfl rfl ?_
    refine r_callVp [_] dX8_putWord_39 ok_RX8_47 ivX4_isSpentAt (by assumption) ⟨_, _, rfl⟩ rfl rfl (Nat.le_of_ble_eq_true rfl) (by refine ⟨?_, ?_, ?_, ?_⟩ <;> exact Nat.le_of_ble_eq_true rfl) (c_isSpentAt hB (hb1 m hO) h8 hil (hbv m hO) (by omega)) ?_
    rw [e3]
    refine r_ifB_eq 51 dX8_putWord_42 (by decide) (fun h42 => ?_) (fun h42 => ?_)
    · first | (have hw2 : ¬ w.2.2 = true := fun e => by rw [e] at h42; simp [bn] at h42); refine r_vret dX8_putWord_51 rfl (Nat.le_refl _) (Nat.le_refl _) ?_; refine ⟨rfl, rfl, rfl, rfl, ?_, hO⟩; rw [he, if_neg hw2, List.append_nil]; exact hE | (have hw2 : w.2.2 = true := (bn_ne _).mp (by simp at h42; omega); refine r_vret dX8_putWord_51 rfl (Nat.le_refl _) (Nat.le_refl _) ?_; refine ⟨rfl, rfl, rfl, rfl, ?_, hO.trans g2⟩; rw [he, if_pos hw2]; exact g1)
    · refine r_aload_n 0 dX8_putWord_45 rfl rfl ?_
      refine r_bipush (v := nI 42) dX8_putWord_46 (by decide) ?_
      refine r_callVw [_] dX8_putWord_48 ok_RX8_28 ivX8_put (by assumption) ⟨_, _, rfl⟩ rfl rfl (Nat.le_of_ble_eq_true rfl) (by refine ⟨?_, ?_, ?_, ?_⟩ <;> exact Nat.le_of_ble_eq_true rfl) (c_wrPut hL hE (by have hw2 : w.2.2 = true := (bn_ne _).mp (by simp at h42; omega); rw [if_pos hw2] at hel hlen; simp only [List.length_append, List.length_cons, List.length_nil] at hel hlen; omega)) ?_
      intro m2 ⟨g1, g2⟩
      first | (have hw2 : ¬ w.2.2 = true := fun e => by rw [e] at h42; simp [bn] at h42); refine r_vret dX8_putWord_51 rfl (Nat.le_refl _) (Nat.le_refl _) ?_; refine ⟨rfl, rfl, rfl, rfl, ?_, hO⟩; rw [he, if_neg hw2, List.append_nil]; exact hE | (have hw2 : w.2.2 = true := (bn_ne _).mp (by simp at h42; omega); refine r_vret dX8_putWord_51 rfl (Nat.le_refl _) (Nat.le_refl _) ?_; refine ⟨rfl, rfl, rfl, rfl, ?_, hO.trans g2⟩; rw [he, if_pos hw2]; exact g1)
  refine Mv.of pnX8_putWord (Nat.le_of_ble_eq_true rfl) rfl ?_
  refine r_aload_n 0 dX8_putWord_0 rfl rfl ?_
  refine r_aload_n 1 dX8_putWord_1 rfl rfl ?_
  refine r_iload_n 2 dX8_putWord_2 rfl rfl ?_
  refine r_callVp [_] dX8_putWord_3 ok_RX8_40 ivX4_nameAt (by assumption) ⟨_, _, rfl⟩ rfl rfl (Nat.le_of_ble_eq_true rfl) (by refine ⟨?_, ?_, ?_, ?_⟩ <;> exact Nat.le_of_ble_eq_true rfl) (c_nameAt hB p1 h8 hil hv (by omega)) ?_
  rw [e1]
  refine r_bipush (v := nI 65) dX8_putWord_6 (by decide) ?_
  refine r_callVw [_, _] dX8_putWord_8 ok_RX8_24 ivX8_putLetters (by assumption) ⟨_, _, rfl⟩ rfl rfl (Nat.le_of_ble_eq_true rfl) (by refine ⟨?_, ?_, ?_, ?_⟩ <;> exact Nat.le_of_ble_eq_true rfl) (c_wrLet hL hW (by omega) (by omega) (okL_34 hwk.1) hl1) ?_
  intro m ⟨g1, g2⟩
  refine r_aload_n 1 dX8_putWord_11 rfl rfl ?_
  refine r_iload_n 2 dX8_putWord_12 rfl rfl ?_
  refine r_callVp [_] dX8_putWord_13 ok_RX8_44 ivX4_hopsAt (by assumption) ⟨_, _, rfl⟩ rfl rfl (Nat.le_of_ble_eq_true rfl) (by refine ⟨?_, ?_, ?_, ?_⟩ <;> exact Nat.le_of_ble_eq_true rfl) (c_hopsAt hB (hb1 m g2) h8 hil (hbv m g2) (by omega)) ?_
  rw [e2]
  refine r_ifN_le 37 dX8_putWord_16 (by decide) (by omega) (fun h16 => ?_) (fun h16 => ?_)
  · first | (refine K37 m _ g1 g2 ?_; rw [if_neg (by omega)]; simp) | (refine K37 m3 _ d1 (hO2.trans d2) ?_; rw [if_pos h16]; simp)
  · refine r_aload_n 0 dX8_putWord_19 rfl rfl ?_
    refine r_bipush (v := nI 45) dX8_putWord_20 (by decide) ?_
    refine r_callVw [_] dX8_putWord_22 ok_RX8_28 ivX8_put (by assumption) ⟨_, _, rfl⟩ rfl rfl (Nat.le_of_ble_eq_true rfl) (by refine ⟨?_, ?_, ?_, ?_⟩ <;> exact Nat.le_of_ble_eq_true rfl) (c_wrPut hL g1 (by rw [if_pos h16] at hlen; simp at hlen; simp; omega)) ?_
    intro m2 ⟨f1, f2⟩
    have hO2 := g2.trans f2
    refine r_aload_n 0 dX8_putWord_25 rfl rfl ?_
    refine r_bipush (v := nI 48) dX8_putWord_26 (by decide) ?_
    refine r_aload_n 1 dX8_putWord_28 rfl rfl ?_
    refine r_iload_n 2 dX8_putWord_29 rfl rfl ?_
    refine r_callVp [_] dX8_putWord_30 ok_RX8_44 ivX4_hopsAt (by assumption) ⟨_, _, rfl⟩ rfl rfl (Nat.le_of_ble_eq_true rfl) (by refine ⟨?_, ?_, ?_, ?_⟩ <;> exact Nat.le_of_ble_eq_true rfl) (c_hopsAt hB (hb1 m2 hO2) h8 hil (hbv m2 hO2) (by omega)) ?_
    rw [e2]
    refine r_iaddN dX8_putWord_33 ?_
    refine r_callVw [_] dX8_putWord_34 ok_RX8_28 ivX8_put (by assumption) ⟨_, _, rfl⟩ rfl rfl (Nat.le_of_ble_eq_true rfl) (by refine ⟨?_, ?_, ?_, ?_⟩ <;> exact Nat.le_of_ble_eq_true rfl) (c_wrPut hL f1 (by rw [if_pos h16] at hlen; simp at hlen; simp; omega)) ?_
    intro m3 ⟨d1, d2⟩
    first | (refine K37 m _ g1 g2 ?_; rw [if_neg (by omega)]; simp) | (refine K37 m3 _ d1 (hO2.trans d2) ?_; rw [if_pos h16]; simp)
theorem jw_split : ∀ (ws : List Wd) (i k : Nat) (w : Wd), ws[i]? = some w → jw (ws.drop i) k = (if 0 < k then [44] else []) ++ (wrW w ++ jw (ws.drop (i + 1)) (k + 1)) := by
  intro ws i k w h
  obtain ⟨h1, h2⟩ := List.getElem?_eq_some_iff.mp h
  rw [List.drop_eq_getElem_cons h1, h2]
  rfl
theorem c_write (hL : LWr sh mr a) {b : Nat} (hB : LPk sh mr b) (hab : b + 2 ≤ a ∨ a + 2 ≤ b) {p : Pk} (hP : PkC mi b p) (hp : okP p) : Mi mX8_write 3 [.ref a, .ref b] z sh mi mr (fun v m => v = none ∧ WrC m a (wrP p) ∧ Oth mi m a (a + 2)) := by
  obtain ⟨l0, l1, l2⟩ := id hL
  obtain ⟨k0, k1, k2⟩ := id hB
  obtain ⟨p1, p2, p3, p4⟩ := id hP
  have h8 := hp.2.2.1
  have h64 := wrP_len hp
  have hT : wrP p = sgn 65 p.1 ++ (62 :: (jw p.2.2 0 ++ (58 :: sgn 97 p.2.1))) := rfl
  generalize wrP p = T at *
  have hPm : ∀ m, Oth mi m a (a + 2) → PkC m b p := fun m h => hP.keep (h b (by omega)) (h (b + 1) (by omega))
  have K53 : ∀ (m : MI) (E : List Nat) (ls : List Value), WrC m a E → Oth mi m a (a + 2) → T = E ++ (58 :: sgn 97 p.2.1) → Wp yX8_write cX8_write 3 none (EI 3 z sh mr (fun v m => v = none ∧ WrC m a T ∧ Oth mi m a (a + 2))) 0 0 53 ([.ref a, .ref b] ++ ls) [] z sh m mr := by
    intro m E ls hE hO he
    refine r_drop ?_
    have hel := congrArg List.length he
    rw [List.length_append, List.length_cons] at hel
    refine r_aload_n 0 dX8_write_53 rfl rfl ?_
    refine r_bipush (v := nI 58) dX8_write_54 (by decide) ?_
    refine r_callVw [_] dX8_write_56 ok_RX8_28 ivX8_put (by assumption) ⟨_, _, rfl⟩ rfl rfl (Nat.le_of_ble_eq_true rfl) (by refine ⟨?_, ?_, ?_, ?_⟩ <;> exact Nat.le_of_ble_eq_true rfl) (c_wrPut hL hE (by omega)) ?_
    intro m2 ⟨g1, g2⟩
    have hO2 := hO.trans g2
    have hb3 : m2 b 3 = nI (en 32 p.2.1) := (hPm m2 hO2).2.2.1
    refine r_aload_n 0 dX8_write_59 rfl rfl ?_
    refine r_aload_n 1 dX8_write_60 rfl rfl ?_
    refine r_getV dX8_write_61 fl_RX8_37 rfl (by assumption) (by first | assumption | exact up2_same _ _ _ _ | exact (Eq.trans (up2_ne _ _ (by omega)) (by first | assumption | exact up2_same _ _ _ _)) | exact (Eq.trans (up2_ne _ _ (by omega)) (Eq.trans (up2_ne _ _ (by omega)) (by first | assumption | exact up2_same _ _ _ _))) | exact (Eq.trans (up2_ne _ _ (by omega)) (Eq.trans (up2_ne _ _ (by omega)) (Eq.trans (up2_ne _ _ (by omega)) (by first | assumption | exact up2_same _ _ _ _)))) | exact (Eq.trans (up2_ne _ _ (by omega)) (Eq.trans (up2_ne _ _ (by omega)) (Eq.trans (up2_ne _ _ (by omega)) (Eq.trans (up2_ne _ _ (by omega)) (by first | assumption | exact up2_same _ _ _ _))))) | rfl) ?_
    refine r_bipush (v := nI 97) dX8_write_64 (by decide) ?_
    refine r_callVw [_, _] dX8_write_66 ok_RX8_24 ivX8_putLetters (by assumption) ⟨_, _, rfl⟩ rfl rfl (Nat.le_of_ble_eq_true rfl) (by refine ⟨?_, ?_, ?_, ?_⟩ <;> exact Nat.le_of_ble_eq_true rfl) (c_wrLet hL g1 (by omega) (by omega) hp.2.1 (by rw [List.append_assoc]; show (E ++ (58 :: sgn 97 p.2.1)).length ≤ 64; rw [← he]; exact h64)) ?_
    intro m3 ⟨f1, f2⟩
    refine r_vret dX8_write_69 rfl (Nat.le_of_ble_eq_true rfl) (Nat.le_of_ble_eq_true rfl) ?_
    refine ⟨rfl, rfl, rfl, rfl, ?_, hO2.trans f2⟩
    rw [he]
    rw [List.append_assoc] at f1
    exact f1
  have H : ∀ (k i : Nat) (m : MI) (E : List Nat), i + k = p.2.2.length → WrC m a E → Oth mi m a (a + 2) → T = E ++ (jw (p.2.2.drop i) i ++ (58 :: sgn 97 p.2.1)) → Wp yX8_write cX8_write 3 none (EI 3 z sh mr (fun v m => v = none ∧ WrC m a T ∧ Oth mi m a (a + 2))) 0 0 23 [.ref a, .ref b, .int (nI i)] [] z sh m mr := by
    intro k
    induction k with
    | zero =>
      intro i m E hi hE hO he
      have hb1 : m b 1 = nI p.2.2.length := (hPm m hO).1
      refine r_iload_n 2 dX8_write_23 rfl rfl ?_
      refine r_aload_n 1 dX8_write_24 rfl rfl ?_
      refine r_getV dX8_write_25 fl_RX8_32 rfl (by assumption) (by first | assumption | exact up2_same _ _ _ _ | exact (Eq.trans (up2_ne _ _ (by omega)) (by first | assumption | exact up2_same _ _ _ _)) | exact (Eq.trans (up2_ne _ _ (by omega)) (Eq.trans (up2_ne _ _ (by omega)) (by first | assumption | exact up2_same _ _ _ _))) | exact (Eq.trans (up2_ne _ _ (by omega)) (Eq.trans (up2_ne _ _ (by omega)) (Eq.trans (up2_ne _ _ (by omega)) (by first | assumption | exact up2_same _ _ _ _)))) | exact (Eq.trans (up2_ne _ _ (by omega)) (Eq.trans (up2_ne _ _ (by omega)) (Eq.trans (up2_ne _ _ (by omega)) (Eq.trans (up2_ne _ _ (by omega)) (by first | assumption | exact up2_same _ _ _ _))))) | rfl) ?_
      refine r_icmpN_ge 53 dX8_write_28 (by decide) (by omega) (by omega) (fun h28 => ?_) (fun h28 => ?_)
      · refine K53 m E [_] hE hO ?_
        rw [he, List.drop_of_length_le (by omega)]
        rfl
      · omega
    | succ k ih =>
      intro i m E hi hE hO he
      have hb1 : m b 1 = nI p.2.2.length := (hPm m hO).1
      obtain ⟨w, hw⟩ := gl_ex (l := p.2.2) (i := i) (by omega)
      rw [jw_split _ _ _ _ hw] at he
      have K41 : ∀ (m' : MI) (E' : List Nat), WrC m' a E' → Oth mi m' a (a + 2) → T = E' ++ (wrW w ++ (jw (p.2.2.drop (i + 1)) (i + 1) ++ (58 :: sgn 97 p.2.1))) → Wp yX8_write cX8_write 3 none (EI 3 z sh mr (fun v m => v = none ∧ WrC m a T ∧ Oth mi m a (a + 2))) 0 0 41 [.ref a, .ref b, .int (nI i)] [] z sh m' mr := by
        intro m' E' hE' hO' he'
        have hel := congrArg List.length he'
        simp only [List.length_append, List.length_cons] at hel
        refine r_aload_n 0 dX8_write_41 rfl rfl ?_
        refine r_aload_n 1 dX8_write_42 rfl rfl ?_
        refine r_iload_n 2 dX8_write_43 rfl rfl ?_
        refine r_callVw [_, _] dX8_write_44 ok_RX8_33 ivX8_putWord (by assumption) ⟨_, _, rfl⟩ rfl rfl (Nat.le_of_ble_eq_true rfl) (by refine ⟨?_, ?_, ?_, ?_⟩ <;> exact Nat.le_of_ble_eq_true rfl) (c_wrWord hL hB hab (hPm m' hO') hp hw hE' (by rw [List.length_append]; omega)) ?_
        intro m2 ⟨g1, g2⟩
        refine r_iincN 2 (b := 1) (ls2 := [_, _, _]) dX8_write_47 rfl (by decide) (by decide) rfl ?_
        refine r_goto 23 dX8_write_50 (by decide) ?_
        refine ih (i + 1) m2 _ (by omega) g1 (hO'.trans g2) ?_
        rw [he', List.append_assoc]
      refine r_iload_n 2 dX8_write_23 rfl rfl ?_
      refine r_aload_n 1 dX8_write_24 rfl rfl ?_
      refine r_getV dX8_write_25 fl_RX8_32 rfl (by assumption) (by first | assumption | exact up2_same _ _ _ _ | exact (Eq.trans (up2_ne _ _ (by omega)) (by first | assumption | exact up2_same _ _ _ _)) | exact (Eq.trans (up2_ne _ _ (by omega)) (Eq.trans (up2_ne _ _ (by omega)) (by first | assumption | exact up2_same _ _ _ _))) | exact (Eq.trans (up2_ne _ _ (by omega)) (Eq.trans (up2_ne _ _ (by omega)) (Eq.trans (up2_ne _ _ (by omega)) (by first | assumption | exact up2_same _ _ _ _)))) | exact (Eq.trans (up2_ne _ _ (by omega)) (Eq.trans (up2_ne _ _ (by omega)) (Eq.trans (up2_ne _ _ (by omega)) (Eq.trans (up2_ne _ _ (by omega)) (by first | assumption | exact up2_same _ _ _ _))))) | rfl) ?_
      refine r_icmpN_ge 53 dX8_write_28 (by decide) (by omega) (by omega) (fun h28 => ?_) (fun h28 => ?_)
      · omega
      · refine r_iload_n 2 dX8_write_31 rfl rfl ?_
        refine r_ifN_le 41 dX8_write_32 (by decide) (by omega) (fun h32 => ?_) (fun h32 => ?_)
        · first | (refine K41 m E hE hO ?_; rw [he, if_neg (by omega), List.nil_append, List.append_assoc]) | (refine K41 m2 _ g1 (hO.trans g2) ?_; rw [he, if_pos (by omega)]; simp)
        · refine r_aload_n 0 dX8_write_35 rfl rfl ?_
          refine r_bipush (v := nI 44) dX8_write_36 (by decide) ?_
          refine r_callVw [_] dX8_write_38 ok_RX8_28 ivX8_put (by assumption) ⟨_, _, rfl⟩ rfl rfl (Nat.le_of_ble_eq_true rfl) (by refine ⟨?_, ?_, ?_, ?_⟩ <;> exact Nat.le_of_ble_eq_true rfl) (c_wrPut hL hE (by have hel := congrArg List.length he; simp only [List.length_append, List.length_cons] at hel; omega)) ?_
          intro m2 ⟨g1, g2⟩
          first | (refine K41 m E hE hO ?_; rw [he, if_neg (by omega), List.nil_append, List.append_assoc]) | (refine K41 m2 _ g1 (hO.trans g2) ?_; rw [he, if_pos (by omega)]; simp)
  obtain ⟨m0, hm0⟩ : ∃ m0, m0 = up2 mi a 1 (nI 0) := ⟨_, rfl⟩
  have hE0 : WrC m0 a [] := ⟨by rw [hm0, up2_same]; rfl, fun i x hx => by simp at hx⟩
  have hO0 : Oth mi m0 a (a + 2) := by rw [hm0]; exact Oth.rf.up (by omega) (by omega)
  have hs0 : m0 b 2 = nI (en 32 p.1) := (hPm m0 hO0).2.1
  have hTl := congrArg List.length hT
  simp only [List.length_append, List.length_cons] at hTl
  refine Mv.of pnX8_write (Nat.le_of_ble_eq_true rfl) rfl ?_
  refine r_aload_n 0 dX8_write_0 rfl rfl ?_
  refine r_iconst (v := nI 0) dX8_write_1 (by decide) ?_
  refine r_putI dX8_write_2 fl_RX8_15 rfl rfl rfl (by assumption) ?_
  rw [← hm0]
  refine r_aload_n 0 dX8_write_5 rfl rfl ?_
  refine r_aload_n 1 dX8_write_6 rfl rfl ?_
  refine r_getV dX8_write_7 fl_RX8_19 rfl (by assumption) (by first | assumption | exact up2_same _ _ _ _ | exact (Eq.trans (up2_ne _ _ (by omega)) (by first | assumption | exact up2_same _ _ _ _)) | exact (Eq.trans (up2_ne _ _ (by omega)) (Eq.trans (up2_ne _ _ (by omega)) (by first | assumption | exact up2_same _ _ _ _))) | exact (Eq.trans (up2_ne _ _ (by omega)) (Eq.trans (up2_ne _ _ (by omega)) (Eq.trans (up2_ne _ _ (by omega)) (by first | assumption | exact up2_same _ _ _ _)))) | exact (Eq.trans (up2_ne _ _ (by omega)) (Eq.trans (up2_ne _ _ (by omega)) (Eq.trans (up2_ne _ _ (by omega)) (Eq.trans (up2_ne _ _ (by omega)) (by first | assumption | exact up2_same _ _ _ _))))) | rfl) ?_
  refine r_bipush (v := nI 65) dX8_write_10 (by decide) ?_
  refine r_callVw [_, _] dX8_write_12 ok_RX8_24 ivX8_putLetters (by assumption) ⟨_, _, rfl⟩ rfl rfl (Nat.le_of_ble_eq_true rfl) (by refine ⟨?_, ?_, ?_, ?_⟩ <;> exact Nat.le_of_ble_eq_true rfl) (c_wrLet hL hE0 (by omega) (by omega) (okL_34 hp.1) (by rw [List.nil_append]; omega)) ?_
  intro m1 ⟨g1, g2⟩
  rw [List.nil_append] at g1
  refine r_aload_n 0 dX8_write_15 rfl rfl ?_
  refine r_bipush (v := nI 62) dX8_write_16 (by decide) ?_
  refine r_callVw [_] dX8_write_18 ok_RX8_28 ivX8_put (by assumption) ⟨_, _, rfl⟩ rfl rfl (Nat.le_of_ble_eq_true rfl) (by refine ⟨?_, ?_, ?_, ?_⟩ <;> exact Nat.le_of_ble_eq_true rfl) (c_wrPut hL g1 (by omega)) ?_
  intro m2 ⟨f1, f2⟩
  refine r_iconst (v := nI 0) dX8_write_21 (by decide) ?_
  refine r_istore_n 2 (ls2 := [_, _, _]) dX8_write_22 rfl (by decide) (Nat.le_of_ble_eq_true rfl) rfl ?_
  refine H p.2.2.length 0 m2 _ (by omega) f1 ((hO0.trans g2).trans f2) ?_
  rw [hT, List.append_assoc]
  rfl
theorem c_signAt (hL : LWr sh mr a) {D : List Nat} (hW : WrC mi a D) (hl : D.length ≤ 64) (k : Int32) : Mp mX8_signAt 0 [.ref a, .int k] z sh mi mr (if k < 0 then -6 else match D[k.toNatClampNeg]? with | some x => nI x | none => -6) := by
  obtain ⟨l0, l1, l2⟩ := id hL
  obtain ⟨w1, w2⟩ := id hW
  refine Mv.of pnX8_signAt (Nat.le_of_ble_eq_true rfl) rfl ?_
  by_cases hk : k < 0
  · rw [if_pos hk]
    refine r_iload_n 1 dX8_signAt_0 rfl rfl ?_
    refine r_if_lt 27 dX8_signAt_1 (by decide) (fun h1 => ?_) (fun h1 => ?_)
    · refine r_bipush (v := -6) dX8_signAt_27 (by decide) ?_
      refine r_iret dX8_signAt_29 rfl (Nat.le_of_ble_eq_true rfl) (Nat.le_of_ble_eq_true rfl) ?_
      exact ⟨rfl, rfl, rfl, rfl, rfl⟩
    · exact absurd hk h1
  · rw [if_neg hk]
    obtain ⟨j, hj, e⟩ := nI_of hk
    subst e
    rw [nI_clamp hj]
    rcases Nat.lt_or_ge j D.length with q | q
    · obtain ⟨x, hx⟩ := gl_ex q
      have hv := w2 j x hx
      rw [hx]
      refine r_iload_n 1 dX8_signAt_0 rfl rfl ?_
      refine r_ifN_lt 27 dX8_signAt_1 (by decide) (by omega) ?_
      refine r_iload_n 1 dX8_signAt_4 rfl rfl ?_
      refine r_aload_n 0 dX8_signAt_5 rfl rfl ?_
      refine r_getV dX8_signAt_6 fl_RX8_15 rfl (by assumption) (by first | assumption | exact up2_same _ _ _ _ | exact (Eq.trans (up2_ne _ _ (by omega)) (by first | assumption | exact up2_same _ _ _ _)) | exact (Eq.trans (up2_ne _ _ (by omega)) (Eq.trans (up2_ne _ _ (by omega)) (by first | assumption | exact up2_same _ _ _ _))) | exact (Eq.trans (up2_ne _ _ (by omega)) (Eq.trans (up2_ne _ _ (by omega)) (Eq.trans (up2_ne _ _ (by omega)) (by first | assumption | exact up2_same _ _ _ _)))) | exact (Eq.trans (up2_ne _ _ (by omega)) (Eq.trans (up2_ne _ _ (by omega)) (Eq.trans (up2_ne _ _ (by omega)) (Eq.trans (up2_ne _ _ (by omega)) (by first | assumption | exact up2_same _ _ _ _))))) | rfl) ?_
      refine r_icmpN_ge 27 dX8_signAt_9 (by decide) (by omega) (by omega) (fun h9 => ?_) (fun h9 => ?_)
      · omega
      · refine r_iload_n 1 dX8_signAt_12 rfl rfl ?_
        refine r_bipush (v := nI 64) dX8_signAt_13 (by decide) ?_
        refine r_icmpN_ge 27 dX8_signAt_15 (by decide) (by omega) (by omega) (fun h15 => ?_) (fun h15 => ?_)
        · omega
        · refine r_aload_n 0 dX8_signAt_18 rfl rfl ?_
          refine r_getR dX8_signAt_19 fl_RX8_9 rfl (by assumption) (by assumption) ?_
          refine r_iload_n 1 dX8_signAt_22 rfl rfl ?_
          refine r_ialdV dX8_signAt_23 (by assumption) (by omega) (by omega) (by first | assumption | exact up2_same _ _ _ _ | exact (Eq.trans (up2_ne _ _ (by omega)) (by first | assumption | exact up2_same _ _ _ _)) | exact (Eq.trans (up2_ne _ _ (by omega)) (Eq.trans (up2_ne _ _ (by omega)) (by first | assumption | exact up2_same _ _ _ _))) | exact (Eq.trans (up2_ne _ _ (by omega)) (Eq.trans (up2_ne _ _ (by omega)) (Eq.trans (up2_ne _ _ (by omega)) (by first | assumption | exact up2_same _ _ _ _)))) | exact (Eq.trans (up2_ne _ _ (by omega)) (Eq.trans (up2_ne _ _ (by omega)) (Eq.trans (up2_ne _ _ (by omega)) (Eq.trans (up2_ne _ _ (by omega)) (by first | assumption | exact up2_same _ _ _ _))))) | rfl) ?_
          refine r_goto 29 dX8_signAt_24 (by decide) ?_
          refine r_iret dX8_signAt_29 rfl (Nat.le_of_ble_eq_true rfl) (Nat.le_of_ble_eq_true rfl) ?_
          exact ⟨rfl, rfl, rfl, rfl, rfl⟩
    · rw [List.getElem?_eq_none q]
      refine r_iload_n 1 dX8_signAt_0 rfl rfl ?_
      refine r_ifN_lt 27 dX8_signAt_1 (by decide) (by omega) ?_
      refine r_iload_n 1 dX8_signAt_4 rfl rfl ?_
      refine r_aload_n 0 dX8_signAt_5 rfl rfl ?_
      refine r_getV dX8_signAt_6 fl_RX8_15 rfl (by assumption) (by first | assumption | exact up2_same _ _ _ _ | exact (Eq.trans (up2_ne _ _ (by omega)) (by first | assumption | exact up2_same _ _ _ _)) | exact (Eq.trans (up2_ne _ _ (by omega)) (Eq.trans (up2_ne _ _ (by omega)) (by first | assumption | exact up2_same _ _ _ _))) | exact (Eq.trans (up2_ne _ _ (by omega)) (Eq.trans (up2_ne _ _ (by omega)) (Eq.trans (up2_ne _ _ (by omega)) (by first | assumption | exact up2_same _ _ _ _)))) | exact (Eq.trans (up2_ne _ _ (by omega)) (Eq.trans (up2_ne _ _ (by omega)) (Eq.trans (up2_ne _ _ (by omega)) (Eq.trans (up2_ne _ _ (by omega)) (by first | assumption | exact up2_same _ _ _ _))))) | rfl) ?_
      refine r_icmpN_ge 27 dX8_signAt_9 (by decide) (by omega) (by omega) (fun h9 => ?_) (fun h9 => ?_)
      · refine r_bipush (v := -6) dX8_signAt_27 (by decide) ?_
        refine r_iret dX8_signAt_29 rfl (Nat.le_of_ble_eq_true rfl) (Nat.le_of_ble_eq_true rfl) ?_
        exact ⟨rfl, rfl, rfl, rfl, rfl⟩
      · omega
end WRITE
