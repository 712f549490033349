section RPAD2
variable {z : Nat} {sh : SH} {mi : MI} {mr : MR} {o : Nat}
/-- reading writes the place, the fault, and the row of the packet -/
def PG (mi m : MI) (o : Nat) : Prop := (∀ x, x ≠ o → x ≠ o + 5 → m x = mi x) ∧ ∀ k, k ≠ 6 → k ≠ 7 → m o k = mi o k
theorem PG.rf : PG mi mi o := ⟨fun _ _ _ => rfl, fun _ _ _ => rfl⟩
theorem PG.tr {m m' : MI} (h : PG mi m o) (h' : PG m m' o) : PG mi m' o := ⟨fun x h1 h2 => (h'.1 x h1 h2).trans (h.1 x h1 h2), fun k h1 h2 => (h'.2 k h1 h2).trans (h.2 k h1 h2)⟩
theorem PF.pg {m : MI} {i : Nat} {b : Bool} (h : PF mi m o i b) : PG mi m o := ⟨fun x h1 _ => h.2.2.1 x h1, h.2.2.2⟩
theorem PG.own {m : MI} {k : Nat} {v : Int32} (h : PG mi m o) : PG mi (up2 m (o + 5) k v) o := ⟨fun x h1 h2 => by rw [up2_row _ _ h2]; exact h.1 x h1 h2, fun k h1 h2 => by rw [up2_row _ _ (by omega)]; exact h.2 k h1 h2⟩
theorem PG.at {m : MI} {v : Int32} (h : PG mi m o) : PG mi (up2 m o 6 v) o := ⟨fun x h1 h2 => by rw [up2_row _ _ h1]; exact h.1 x h1 h2, fun k h1 h2 => by rw [up2_ne _ _ (Or.inr h1)]; exact h.2 k h1 h2⟩
theorem PG.bad {m : MI} {v : Int32} (h : PG mi m o) : PG mi (up2 m o 7 v) o := ⟨fun x h1 h2 => by rw [up2_row _ _ h1]; exact h.1 x h1 h2, fun k h1 h2 => by rw [up2_ne _ _ (Or.inr h2)]; exact h.2 k h1 h2⟩
theorem PdM.pg {m : MI} {P : List Nat} (h : PdM mi o P) (hF : PG mi m o) : PdM m o P := h.keep (hF.2 4 (by omega) (by omega)) (hF.1 (o + 4) (by omega) (by omega))
def RWm (mi : MI) (o c : Nat) (r : Option Wd × Nat) (m : MI) : Prop := PG mi m o ∧ m o 6 = nI r.2 ∧ m o 7 = b2 r.1.isNone ∧ m (o + 5) 2 = nI (c + 1) ∧ (∀ q, q ≠ 2 → q ≠ 3 + c → m (o + 5) q = mi (o + 5) q) ∧ ∀ w, r.1 = some w → m (o + 5) (3 + c) = nI (wc 27 w)
theorem m_readWord (hL : LM sh mr o) {P : List Nat} (hP : PdM mi o P) (hok : okD P) {i c : Nat} (hi : mi o 6 = nI i) (hb : mi o 7 = b2 false) (hil : i ≤ P.length) (hc : mi (o + 5) 2 = nI c) (hc5 : c < 5) : Mi mX10_readWord 3 [.ref o] z sh mi mr (fun v m => v = none ∧ RWm mi o c (rdW P i) m) := by
  obtain ⟨l0, -, -, -, ⟨l7, l8⟩, ⟨l9, l10⟩, -⟩ := id hL
  have h40 := hok.1
  generalize hl : lets 65 3 P i = l
  have hl3 : l.length ≤ 3 := by rw [← hl]; exact lets_len 65 3 P i
  have hlin : l ≠ [] → i + l.length ≤ P.length := fun h => by rw [← hl] at h ⊢; exact lets_in (by omega : 0 < 65) 3 P i h
  have K142 : ∀ (m : MI) (j h : Nat) (b sp : Bool), PF mi m o j b → (rdW P i = if b = true then (none, j + bn sp) else (some (l, h, sp), j + bn sp)) → Wp yX10_readWord cX10_readWord 4 none (EI 3 z sh mr (fun v m => v = none ∧ RWm mi o c (rdW P i) m)) 0 0 142 [.ref o, .int (nI (en 27 l)), .int (nI h), .int (b2 sp)] [] z sh m mr := by
    intro m j h b sp hF hr
    have h6 := hF.1
    have hc' : ∀ v, up2 m o 6 v (o + 5) 2 = nI c := fun v => by rw [up2_row _ _ (by omega), hF.2.2.1 (o + 5) (by omega)]; exact hc
    have hca := hc' (nI (j + 1))
    have hcb := hc' (nI (j + 0))
    have hc2 : ∀ v w, up2 (up2 m o 6 v) (o + 5) (3 + c) w (o + 5) 2 = nI c := fun v w => by rw [up2_ne _ _ (Or.inr (by omega))]; exact hc' v
    have hc2a := fun w => hc2 (nI (j + 1)) w
    have hc2b := fun w => hc2 (nI (j + 0)) w
    have hfin : ∀ (x y : Int32), x = nI (j + bn sp) → y = nI (16 * en 27 l + 2 * h + bn sp) → RWm mi o c (rdW P i) (up2 (up2 (up2 m o 6 x) (o + 5) (3 + c) y) (o + 5) 2 (nI (c + 1))) := by
      intro x y hx hy
      have h7 : m o 7 = b2 b := hF.2.1
      refine ⟨hF.pg.at.own.own, ?_, ?_, up2_same _ _ _ _, fun q q1 q2 => ?_, fun w hw => ?_⟩
      · rw [up2_row _ _ (by omega), up2_row _ _ (by omega), up2_same, hx, hr]; cases b <;> rfl
      · rw [up2_row _ _ (by omega), up2_row _ _ (by omega), up2_ne _ _ (Or.inr (by omega)), h7, hr]; cases b <;> rfl
      · rw [up2_ne _ _ (Or.inr q1), up2_ne _ _ (Or.inr q2), up2_row _ _ (by omega), hF.2.2.1 (o + 5) (by omega)]
      · rw [up2_ne _ _ (Or.inr (by omega)), up2_same, hy]
        rw [hr] at hw
        cases b
        · cases hw; rfl
        · cases hw
    refine r_aload_n 0 dX10_readWord_142 rfl rfl ?_
    refine r_dup dX10_readWord_143 rfl ?_
    refine r_getV dX10_readWord_144 fl_RX10_49 rfl (by assumption) (by first | assumption | exact up2_same _ _ _ _ | exact hc2a _ | exact hc2b _ | rfl) ?_
    refine r_iload_n 3 dX10_readWord_147 rfl rfl ?_
    refine r_ifB_eq 155 dX10_readWord_148 (by decide) (fun h148 => ?_) (fun h148 => ?_)
    · refine r_iconst (v := nI 0) dX10_readWord_155 (by decide) ?_
      refine r_iaddN dX10_readWord_156 ?_
      refine r_putI dX10_readWord_157 fl_RX10_49 rfl rfl rfl (by assumption) ?_
      refine r_aload_n 0 dX10_readWord_160 rfl rfl ?_
      refine r_getR dX10_readWord_161 fl_RX10_23 rfl (by assumption) (by assumption) ?_
      refine r_iconst (v := nI 3) dX10_readWord_164 (by decide) ?_
      refine r_aload_n 0 dX10_readWord_165 rfl rfl ?_
      refine r_getR dX10_readWord_166 fl_RX10_23 rfl (by assumption) (by assumption) ?_
      refine r_iconst (v := nI 2) dX10_readWord_169 (by decide) ?_
      refine r_ialdV dX10_readWord_170 (by assumption) (by omega) (by omega) (by first | assumption | exact up2_same _ _ _ _ | exact hc2a _ | exact hc2b _ | rfl) ?_
      refine r_iaddN dX10_readWord_171 ?_
      refine r_bipush (v := nI 16) dX10_readWord_172 (by decide) ?_
      refine r_iload_n 1 dX10_readWord_174 rfl rfl ?_
      refine r_imulN dX10_readWord_175 ?_
      refine r_iconst (v := nI 2) dX10_readWord_176 (by decide) ?_
      refine r_iload_n 2 dX10_readWord_177 rfl rfl ?_
      refine r_imulN dX10_readWord_178 ?_
      refine r_iaddN dX10_readWord_179 ?_
      refine r_iload_n 3 dX10_readWord_180 rfl rfl ?_
      refine r_ifB_eq 188 dX10_readWord_181 (by decide) (fun h181 => ?_) (fun h181 => ?_)
      · refine r_iconst (v := nI 0) dX10_readWord_188 (by decide) ?_
        refine r_iaddN dX10_readWord_189 ?_
        refine r_iast dX10_readWord_190 (by assumption) (by omega) (by omega) ?_
        refine r_aload_n 0 dX10_readWord_191 rfl rfl ?_
        refine r_getR dX10_readWord_192 fl_RX10_23 rfl (by assumption) (by assumption) ?_
        refine r_iconst (v := nI 2) dX10_readWord_195 (by decide) ?_
        refine r_dup2 dX10_readWord_196 rfl rfl ?_
        refine r_ialdV dX10_readWord_197 (by assumption) (by omega) (by omega) (by first | assumption | exact up2_same _ _ _ _ | exact hc2a _ | exact hc2b _ | rfl) ?_
        refine r_iconst (v := nI 1) dX10_readWord_198 (by decide) ?_
        refine r_iaddN dX10_readWord_199 ?_
        refine r_iast dX10_readWord_200 (by assumption) (by omega) (by omega) ?_
        refine r_vret dX10_readWord_201 rfl (Nat.le_of_ble_eq_true rfl) (Nat.le_of_ble_eq_true rfl) ?_
        first | exact absurd (h148.symm.trans h181) (by decide) | (refine ⟨rfl, rfl, rfl, rfl, hfin _ _ ?_ ?_⟩ <;> (rw [h148]; rfl))
      · refine r_iconst (v := nI 1) dX10_readWord_184 (by decide) ?_
        refine r_goto 189 dX10_readWord_185 (by decide) ?_
        refine r_iaddN dX10_readWord_189 ?_
        refine r_iast dX10_readWord_190 (by assumption) (by omega) (by omega) ?_
        refine r_aload_n 0 dX10_readWord_191 rfl rfl ?_
        refine r_getR dX10_readWord_192 fl_RX10_23 rfl (by assumption) (by assumption) ?_
        refine r_iconst (v := nI 2) dX10_readWord_195 (by decide) ?_
        refine r_dup2 dX10_readWord_196 rfl rfl ?_
        refine r_ialdV dX10_readWord_197 (by assumption) (by omega) (by omega) (by first | assumption | exact up2_same _ _ _ _ | exact hc2a _ | exact hc2b _ | rfl) ?_
        refine r_iconst (v := nI 1) dX10_readWord_198 (by decide) ?_
        refine r_iaddN dX10_readWord_199 ?_
        refine r_iast dX10_readWord_200 (by assumption) (by omega) (by omega) ?_
        refine r_vret dX10_readWord_201 rfl (Nat.le_of_ble_eq_true rfl) (Nat.le_of_ble_eq_true rfl) ?_
        first | exact absurd (h148.symm.trans h181) (by decide) | (refine ⟨rfl, rfl, rfl, rfl, hfin _ _ ?_ ?_⟩ <;> (rw [h148]; rfl))
    · refine r_iconst (v := nI 1) dX10_readWord_151 (by decide) ?_
      refine r_goto 156 dX10_readWord_152 (by decide) ?_
      refine r_iaddN dX10_readWord_156 ?_
      refine r_putI dX10_readWord_157 fl_RX10_49 rfl rfl rfl (by assumption) ?_
      refine r_aload_n 0 dX10_readWord_160 rfl rfl ?_
      refine r_getR dX10_readWord_161 fl_RX10_23 rfl (by assumption) (by assumption) ?_
      refine r_iconst (v := nI 3) dX10_readWord_164 (by decide) ?_
      refine r_aload_n 0 dX10_readWord_165 rfl rfl ?_
      refine r_getR dX10_readWord_166 fl_RX10_23 rfl (by assumption) (by assumption) ?_
      refine r_iconst (v := nI 2) dX10_readWord_169 (by decide) ?_
      refine r_ialdV dX10_readWord_170 (by assumption) (by omega) (by omega) (by first | assumption | exact up2_same _ _ _ _ | exact hc2a _ | exact hc2b _ | rfl) ?_
      refine r_iaddN dX10_readWord_171 ?_
      refine r_bipush (v := nI 16) dX10_readWord_172 (by decide) ?_
      refine r_iload_n 1 dX10_readWord_174 rfl rfl ?_
      refine r_imulN dX10_readWord_175 ?_
      refine r_iconst (v := nI 2) dX10_readWord_176 (by decide) ?_
      refine r_iload_n 2 dX10_readWord_177 rfl rfl ?_
      refine r_imulN dX10_readWord_178 ?_
      refine r_iaddN dX10_readWord_179 ?_
      refine r_iload_n 3 dX10_readWord_180 rfl rfl ?_
      refine r_ifB_eq 188 dX10_readWord_181 (by decide) (fun h181 => ?_) (fun h181 => ?_)
      · refine r_iconst (v := nI 0) dX10_readWord_188 (by decide) ?_
        refine r_iaddN dX10_readWord_189 ?_
        refine r_iast dX10_readWord_190 (by assumption) (by omega) (by omega) ?_
        refine r_aload_n 0 dX10_readWord_191 rfl rfl ?_
        refine r_getR dX10_readWord_192 fl_RX10_23 rfl (by assumption) (by assumption) ?_
        refine r_iconst (v := nI 2) dX10_readWord_195 (by decide) ?_
        refine r_dup2 dX10_readWord_196 rfl rfl ?_
        refine r_ialdV dX10_readWord_197 (by assumption) (by omega) (by omega) (by first | assumption | exact up2_same _ _ _ _ | exact hc2a _ | exact hc2b _ | rfl) ?_
        refine r_iconst (v := nI 1) dX10_readWord_198 (by decide) ?_
        refine r_iaddN dX10_readWord_199 ?_
        refine r_iast dX10_readWord_200 (by assumption) (by omega) (by omega) ?_
        refine r_vret dX10_readWord_201 rfl (Nat.le_of_ble_eq_true rfl) (Nat.le_of_ble_eq_true rfl) ?_
        first | exact absurd (h148.symm.trans h181) (by decide) | (refine ⟨rfl, rfl, rfl, rfl, hfin _ _ ?_ ?_⟩ <;> (rw [h148]; rfl))
      · refine r_iconst (v := nI 1) dX10_readWord_184 (by decide) ?_
        refine r_goto 189 dX10_readWord_185 (by decide) ?_
        refine r_iaddN dX10_readWord_189 ?_
        refine r_iast dX10_readWord_190 (by assumption) (by omega) (by omega) ?_
        refine r_aload_n 0 dX10_readWord_191 rfl rfl ?_
        refine r_getR dX10_readWord_192 fl_RX10_23 rfl (by assumption) (by assumption) ?_
        refine r_iconst (v := nI 2) dX10_readWord_195 (by decide) ?_
        refine r_dup2 dX10_readWord_196 rfl rfl ?_
        refine r_ialdV dX10_readWord_197 (by assumption) (by omega) (by omega) (by first | assumption | exact up2_same _ _ _ _ | exact hc2a _ | exact hc2b _ | rfl) ?_
        refine r_iconst (v := nI 1) dX10_readWord_198 (by decide) ?_
        refine r_iaddN dX10_readWord_199 ?_
        refine r_iast dX10_readWord_200 (by assumption) (by omega) (by omega) ?_
        refine r_vret dX10_readWord_201 rfl (Nat.le_of_ble_eq_true rfl) (Nat.le_of_ble_eq_true rfl) ?_
        first | exact absurd (h148.symm.trans h181) (by decide) | (refine ⟨rfl, rfl, rfl, rfl, hfin _ _ ?_ ?_⟩ <;> (rw [h148]; rfl))
  have K120 : ∀ (m : MI) (j h : Nat) (b : Bool), PF mi m o j b → j ≤ P.length → (rdW P i = if b = true then (none, j) else (some (l, h, decide (sg P j = 42)), j + bn (decide (sg P j = 42)))) → Wp yX10_readWord cX10_readWord 4 none (EI 3 z sh mr (fun v m => v = none ∧ RWm mi o c (rdW P i) m)) 0 0 120 [.ref o, .int (nI (en 27 l)), .int (nI h)] [] z sh m mr := by
    intro m j h b hF hj hr
    have h6 := hF.1
    have h7 := hF.2.1
    refine r_aload_n 0 dX10_readWord_120 rfl rfl ?_
    refine r_getV dX10_readWord_121 fl_RX10_56 rfl (by assumption) (by first | assumption | exact up2_same _ _ _ _ | exact (Eq.trans (up2_ne _ _ (by omega)) (by first | assumption | exact up2_same _ _ _ _)) | exact (Eq.trans (up2_ne _ _ (by omega)) (Eq.trans (up2_ne _ _ (by omega)) (by first | assumption | exact up2_same _ _ _ _))) | exact (Eq.trans (up2_ne _ _ (by omega)) (Eq.trans (up2_ne _ _ (by omega)) (Eq.trans (up2_ne _ _ (by omega)) (by first | assumption | exact up2_same _ _ _ _)))) | exact (Eq.trans (up2_ne _ _ (by omega)) (Eq.trans (up2_ne _ _ (by omega)) (Eq.trans (up2_ne _ _ (by omega)) (Eq.trans (up2_ne _ _ (by omega)) (by first | assumption | exact up2_same _ _ _ _))))) | rfl) ?_
    refine r_ifB_ne 140 dX10_readWord_124 (by decide) (fun h124 => ?_) (fun h124 => ?_)
    · refine r_iconst (v := nI 0) dX10_readWord_140 (by decide) ?_
      refine r_istore_n 3 (ls2 := [_, _, _, _]) dX10_readWord_141 rfl (by decide) (Nat.le_of_ble_eq_true rfl) rfl ?_
      first | exact K142 m j h b false hF (by rw [hr, if_pos h124, if_pos h124]; rfl) | (refine K142 m j h b false hF ?_; rw [hr, if_neg (by rw [h124]; decide), if_neg (by rw [h124]; decide), h133]) | (refine K142 m j h b true hF ?_; rw [hr, if_neg (by rw [h124]; decide), if_neg (by rw [h124]; decide), h133])
    · refine r_aload_n 0 dX10_readWord_127 rfl rfl ?_
      refine r_bipush (v := nI 42) dX10_readWord_128 (by decide) ?_
      refine r_callVp [_] dX10_readWord_130 ok_RX10_60 ivX10_isAt (by assumption) ⟨_, _, rfl⟩ rfl rfl (Nat.le_of_ble_eq_true rfl) (by refine ⟨?_, ?_, ?_, ?_⟩ <;> exact Nat.le_of_ble_eq_true rfl) (m_isAt hL (hP.pf hF) hok h6 hj (by omega) (by omega)) ?_
      refine r_ifB_eq 140 dX10_readWord_133 (by decide) (fun h133 => ?_) (fun h133 => ?_)
      · refine r_iconst (v := nI 0) dX10_readWord_140 (by decide) ?_
        refine r_istore_n 3 (ls2 := [_, _, _, _]) dX10_readWord_141 rfl (by decide) (Nat.le_of_ble_eq_true rfl) rfl ?_
        first | exact K142 m j h b false hF (by rw [hr, if_pos h124, if_pos h124]; rfl) | (refine K142 m j h b false hF ?_; rw [hr, if_neg (by rw [h124]; decide), if_neg (by rw [h124]; decide), h133]) | (refine K142 m j h b true hF ?_; rw [hr, if_neg (by rw [h124]; decide), if_neg (by rw [h124]; decide), h133])
      · refine r_iconst (v := nI 1) dX10_readWord_136 (by decide) ?_
        refine r_goto 141 dX10_readWord_137 (by decide) ?_
        refine r_istore_n 3 (ls2 := [_, _, _, _]) dX10_readWord_141 rfl (by decide) (Nat.le_of_ble_eq_true rfl) rfl ?_
        first | exact K142 m j h b false hF (by rw [hr, if_pos h124, if_pos h124]; rfl) | (refine K142 m j h b false hF ?_; rw [hr, if_neg (by rw [h124]; decide), if_neg (by rw [h124]; decide), h133]) | (refine K142 m j h b true hF ?_; rw [hr, if_neg (by rw [h124]; decide), if_neg (by rw [h124]; decide), h133])
  have K36 : ∀ (m : MI) (j : Nat), PF mi m o (j + 1) false → j + 1 ≤ P.length → j = i + l.length → l ≠ [] → sg P j = 45 → Wp yX10_readWord cX10_readWord 4 none (EI 3 z sh mr (fun v m => v = none ∧ RWm mi o c (rdW P i) m)) 0 0 36 [.ref o, .int (nI (en 27 l)), .int (nI 0)] [] z sh m mr := by
    intro m j hF hj hjl hln hd
    have h6 := hF.1
    have h4 := (hP.pf hF).1
    have hsl := sg_lt hok (j + 1)
    have h6' : ∀ v, up2 m o 7 v o 6 = nI (j + 1) := fun v => by rw [up2_ne _ _ (Or.inr (by omega))]; exact h6
    have h6a := h6' (nI 1)
    have h6b := h6' (nI 0)
    have h7a := up2_same m o 7 (nI 1)
    have h7b := up2_same m o 7 (nI 0)
    have hbad : ¬ (49 ≤ sg P (j + 1) ∧ sg P (j + 1) ≤ 55) → rdW P i = (none, j + 1) := fun hh => by unfold rdW; simp only [hl, ← hjl]; rw [if_neg hln, if_pos hd, if_neg hh]
    have hgood : 49 ≤ sg P (j + 1) ∧ sg P (j + 1) ≤ 55 → rdW P i = (some (l, sg P (j + 1) - 48, decide (sg P (j + 2) = 42)), j + 2 + bn (decide (sg P (j + 2) = 42))) := fun hh => by unfold rdW; simp only [hl, ← hjl]; rw [if_neg hln, if_pos hd, if_pos hh]
    have K75a : ¬ (49 ≤ sg P (j + 1) ∧ sg P (j + 1) ≤ 55) → Wp yX10_readWord cX10_readWord 4 none (EI 3 z sh mr (fun v m => v = none ∧ RWm mi o c (rdW P i) m)) 0 0 75 [.ref o, .int (nI (en 27 l)), .int (nI 0)] [] z sh (up2 m o 7 (nI 1)) mr := by
      intro hh
      refine r_aload_n 0 dX10_readWord_75 rfl rfl ?_
      refine r_getV dX10_readWord_76 fl_RX10_56 rfl (by assumption) (by first | assumption | exact up2_same _ _ _ _ | exact (Eq.trans (up2_ne _ _ (by omega)) (by first | assumption | exact up2_same _ _ _ _)) | exact (Eq.trans (up2_ne _ _ (by omega)) (Eq.trans (up2_ne _ _ (by omega)) (by first | assumption | exact up2_same _ _ _ _))) | exact (Eq.trans (up2_ne _ _ (by omega)) (Eq.trans (up2_ne _ _ (by omega)) (Eq.trans (up2_ne _ _ (by omega)) (by first | assumption | exact up2_same _ _ _ _)))) | exact (Eq.trans (up2_ne _ _ (by omega)) (Eq.trans (up2_ne _ _ (by omega)) (Eq.trans (up2_ne _ _ (by omega)) (Eq.trans (up2_ne _ _ (by omega)) (by first | assumption | exact up2_same _ _ _ _))))) | rfl) ?_
      refine r_ifN_eq 86 dX10_readWord_79 (by decide) (by omega) (fun h79 => ?_) (fun h79 => ?_)
      · omega
      · refine r_iconst (v := nI 0) dX10_readWord_82 (by decide) ?_
        refine r_goto 98 dX10_readWord_83 (by decide) ?_
        refine r_istore_n 2 (ls2 := [_, _, _]) dX10_readWord_98 rfl (by decide) (Nat.le_of_ble_eq_true rfl) rfl ?_
        refine r_aload_n 0 dX10_readWord_99 rfl rfl ?_
        refine r_dup dX10_readWord_100 rfl ?_
        refine r_getV dX10_readWord_101 fl_RX10_49 rfl (by assumption) (by first | assumption | exact up2_same _ _ _ _ | exact (Eq.trans (up2_ne _ _ (by omega)) (by first | assumption | exact up2_same _ _ _ _)) | exact (Eq.trans (up2_ne _ _ (by omega)) (Eq.trans (up2_ne _ _ (by omega)) (by first | assumption | exact up2_same _ _ _ _))) | exact (Eq.trans (up2_ne _ _ (by omega)) (Eq.trans (up2_ne _ _ (by omega)) (Eq.trans (up2_ne _ _ (by omega)) (by first | assumption | exact up2_same _ _ _ _)))) | exact (Eq.trans (up2_ne _ _ (by omega)) (Eq.trans (up2_ne _ _ (by omega)) (Eq.trans (up2_ne _ _ (by omega)) (Eq.trans (up2_ne _ _ (by omega)) (by first | assumption | exact up2_same _ _ _ _))))) | rfl) ?_
        refine r_aload_n 0 dX10_readWord_104 rfl rfl ?_
        refine r_getV dX10_readWord_105 fl_RX10_56 rfl (by assumption) (by first | assumption | exact up2_same _ _ _ _ | exact (Eq.trans (up2_ne _ _ (by omega)) (by first | assumption | exact up2_same _ _ _ _)) | exact (Eq.trans (up2_ne _ _ (by omega)) (Eq.trans (up2_ne _ _ (by omega)) (by first | assumption | exact up2_same _ _ _ _))) | exact (Eq.trans (up2_ne _ _ (by omega)) (Eq.trans (up2_ne _ _ (by omega)) (Eq.trans (up2_ne _ _ (by omega)) (by first | assumption | exact up2_same _ _ _ _)))) | exact (Eq.trans (up2_ne _ _ (by omega)) (Eq.trans (up2_ne _ _ (by omega)) (Eq.trans (up2_ne _ _ (by omega)) (Eq.trans (up2_ne _ _ (by omega)) (by first | assumption | exact up2_same _ _ _ _))))) | rfl) ?_
        refine r_ifN_eq 115 dX10_readWord_108 (by decide) (by omega) (fun h108 => ?_) (fun h108 => ?_)
        · omega
        · refine r_iconst (v := nI 0) dX10_readWord_111 (by decide) ?_
          refine r_goto 116 dX10_readWord_112 (by decide) ?_
          refine r_iaddN dX10_readWord_116 ?_
          refine r_putI dX10_readWord_117 fl_RX10_49 rfl rfl rfl (by assumption) ?_
          exact K120 _ (j + 1) 0 true (PF.at (PF.bad (c := true) hF rfl) rfl) hj (by rw [if_pos rfl]; exact hbad hh)
    rcases Nat.lt_or_ge (j + 1) P.length with q | q
    · have hv := (hP.pf hF).sg q
      have hv' : up2 m o 7 (nI 0) (o + 4) (j + 1) = nI (sg P (j + 1)) := by rw [up2_row _ _ (by omega)]; exact hv
      have K75b : 49 ≤ sg P (j + 1) ∧ sg P (j + 1) ≤ 55 → Wp yX10_readWord cX10_readWord 4 none (EI 3 z sh mr (fun v m => v = none ∧ RWm mi o c (rdW P i) m)) 0 0 75 [.ref o, .int (nI (en 27 l)), .int (nI 0)] [] z sh (up2 m o 7 (nI 0)) mr := by
        intro hh
        refine r_aload_n 0 dX10_readWord_75 rfl rfl ?_
        refine r_getV dX10_readWord_76 fl_RX10_56 rfl (by assumption) (by first | assumption | exact up2_same _ _ _ _ | exact (Eq.trans (up2_ne _ _ (by omega)) (by first | assumption | exact up2_same _ _ _ _)) | exact (Eq.trans (up2_ne _ _ (by omega)) (Eq.trans (up2_ne _ _ (by omega)) (by first | assumption | exact up2_same _ _ _ _))) | exact (Eq.trans (up2_ne _ _ (by omega)) (Eq.trans (up2_ne _ _ (by omega)) (Eq.trans (up2_ne _ _ (by omega)) (by first | assumption | exact up2_same _ _ _ _)))) | exact (Eq.trans (up2_ne _ _ (by omega)) (Eq.trans (up2_ne _ _ (by omega)) (Eq.trans (up2_ne _ _ (by omega)) (Eq.trans (up2_ne _ _ (by omega)) (by first | assumption | exact up2_same _ _ _ _))))) | rfl) ?_
        refine r_ifN_eq 86 dX10_readWord_79 (by decide) (by omega) (fun h79 => ?_) (fun h79 => ?_)
        · refine r_aload_n 0 dX10_readWord_86 rfl rfl ?_
          refine r_getR dX10_readWord_87 fl_RX10_20 rfl (by assumption) (by assumption) ?_
          refine r_aload_n 0 dX10_readWord_90 rfl rfl ?_
          refine r_getV dX10_readWord_91 fl_RX10_49 rfl (by assumption) (by first | assumption | exact up2_same _ _ _ _ | exact (Eq.trans (up2_ne _ _ (by omega)) (by first | assumption | exact up2_same _ _ _ _)) | exact (Eq.trans (up2_ne _ _ (by omega)) (Eq.trans (up2_ne _ _ (by omega)) (by first | assumption | exact up2_same _ _ _ _))) | exact (Eq.trans (up2_ne _ _ (by omega)) (Eq.trans (up2_ne _ _ (by omega)) (Eq.trans (up2_ne _ _ (by omega)) (by first | assumption | exact up2_same _ _ _ _)))) | exact (Eq.trans (up2_ne _ _ (by omega)) (Eq.trans (up2_ne _ _ (by omega)) (Eq.trans (up2_ne _ _ (by omega)) (Eq.trans (up2_ne _ _ (by omega)) (by first | assumption | exact up2_same _ _ _ _))))) | rfl) ?_
          refine r_ialdV dX10_readWord_94 (by assumption) (by omega) (by omega) (by first | assumption | exact up2_same _ _ _ _ | exact (Eq.trans (up2_ne _ _ (by omega)) (by first | assumption | exact up2_same _ _ _ _)) | exact (Eq.trans (up2_ne _ _ (by omega)) (Eq.trans (up2_ne _ _ (by omega)) (by first | assumption | exact up2_same _ _ _ _))) | exact (Eq.trans (up2_ne _ _ (by omega)) (Eq.trans (up2_ne _ _ (by omega)) (Eq.trans (up2_ne _ _ (by omega)) (by first | assumption | exact up2_same _ _ _ _)))) | exact (Eq.trans (up2_ne _ _ (by omega)) (Eq.trans (up2_ne _ _ (by omega)) (Eq.trans (up2_ne _ _ (by omega)) (Eq.trans (up2_ne _ _ (by omega)) (by first | assumption | exact up2_same _ _ _ _))))) | rfl) ?_
          refine r_bipush (v := nI 48) dX10_readWord_95 (by decide) ?_
          refine r_isubN dX10_readWord_97 (by omega) ?_
          refine r_istore_n 2 (ls2 := [_, _, _]) dX10_readWord_98 rfl (by decide) (Nat.le_of_ble_eq_true rfl) rfl ?_
          refine r_aload_n 0 dX10_readWord_99 rfl rfl ?_
          refine r_dup dX10_readWord_100 rfl ?_
          refine r_getV dX10_readWord_101 fl_RX10_49 rfl (by assumption) (by first | assumption | exact up2_same _ _ _ _ | exact (Eq.trans (up2_ne _ _ (by omega)) (by first | assumption | exact up2_same _ _ _ _)) | exact (Eq.trans (up2_ne _ _ (by omega)) (Eq.trans (up2_ne _ _ (by omega)) (by first | assumption | exact up2_same _ _ _ _))) | exact (Eq.trans (up2_ne _ _ (by omega)) (Eq.trans (up2_ne _ _ (by omega)) (Eq.trans (up2_ne _ _ (by omega)) (by first | assumption | exact up2_same _ _ _ _)))) | exact (Eq.trans (up2_ne _ _ (by omega)) (Eq.trans (up2_ne _ _ (by omega)) (Eq.trans (up2_ne _ _ (by omega)) (Eq.trans (up2_ne _ _ (by omega)) (by first | assumption | exact up2_same _ _ _ _))))) | rfl) ?_
          refine r_aload_n 0 dX10_readWord_104 rfl rfl ?_
          refine r_getV dX10_readWord_105 fl_RX10_56 rfl (by assumption) (by first | assumption | exact up2_same _ _ _ _ | exact (Eq.trans (up2_ne _ _ (by omega)) (by first | assumption | exact up2_same _ _ _ _)) | exact (Eq.trans (up2_ne _ _ (by omega)) (Eq.trans (up2_ne _ _ (by omega)) (by first | assumption | exact up2_same _ _ _ _))) | exact (Eq.trans (up2_ne _ _ (by omega)) (Eq.trans (up2_ne _ _ (by omega)) (Eq.trans (up2_ne _ _ (by omega)) (by first | assumption | exact up2_same _ _ _ _)))) | exact (Eq.trans (up2_ne _ _ (by omega)) (Eq.trans (up2_ne _ _ (by omega)) (Eq.trans (up2_ne _ _ (by omega)) (Eq.trans (up2_ne _ _ (by omega)) (by first | assumption | exact up2_same _ _ _ _))))) | rfl) ?_
          refine r_ifN_eq 115 dX10_readWord_108 (by decide) (by omega) (fun h108 => ?_) (fun h108 => ?_)
          · refine r_iconst (v := nI 1) dX10_readWord_115 (by decide) ?_
            refine r_iaddN dX10_readWord_116 ?_
            refine r_putI dX10_readWord_117 fl_RX10_49 rfl rfl rfl (by assumption) ?_
            exact K120 _ (j + 2) (sg P (j + 1) - 48) false (PF.at (PF.bad (c := false) hF rfl) rfl) (by omega) (by rw [if_neg (by decide)]; exact hgood hh)
          · omega
        · omega
      refine r_aload_n 0 dX10_readWord_36 rfl rfl ?_
      refine r_aload_n 0 dX10_readWord_37 rfl rfl ?_
      refine r_getV dX10_readWord_38 fl_RX10_49 rfl (by assumption) (by first | assumption | exact up2_same _ _ _ _ | exact (Eq.trans (up2_ne _ _ (by omega)) (by first | assumption | exact up2_same _ _ _ _)) | exact (Eq.trans (up2_ne _ _ (by omega)) (Eq.trans (up2_ne _ _ (by omega)) (by first | assumption | exact up2_same _ _ _ _))) | exact (Eq.trans (up2_ne _ _ (by omega)) (Eq.trans (up2_ne _ _ (by omega)) (Eq.trans (up2_ne _ _ (by omega)) (by first | assumption | exact up2_same _ _ _ _)))) | exact (Eq.trans (up2_ne _ _ (by omega)) (Eq.trans (up2_ne _ _ (by omega)) (Eq.trans (up2_ne _ _ (by omega)) (Eq.trans (up2_ne _ _ (by omega)) (by first | assumption | exact up2_same _ _ _ _))))) | rfl) ?_
      refine r_aload_n 0 dX10_readWord_41 rfl rfl ?_
      refine r_getV dX10_readWord_42 fl_RX10_45 rfl (by assumption) (by first | assumption | exact up2_same _ _ _ _ | exact (Eq.trans (up2_ne _ _ (by omega)) (by first | assumption | exact up2_same _ _ _ _)) | exact (Eq.trans (up2_ne _ _ (by omega)) (Eq.trans (up2_ne _ _ (by omega)) (by first | assumption | exact up2_same _ _ _ _))) | exact (Eq.trans (up2_ne _ _ (by omega)) (Eq.trans (up2_ne _ _ (by omega)) (Eq.trans (up2_ne _ _ (by omega)) (by first | assumption | exact up2_same _ _ _ _)))) | exact (Eq.trans (up2_ne _ _ (by omega)) (Eq.trans (up2_ne _ _ (by omega)) (Eq.trans (up2_ne _ _ (by omega)) (Eq.trans (up2_ne _ _ (by omega)) (by first | assumption | exact up2_same _ _ _ _))))) | rfl) ?_
      refine r_icmpN_eq 67 dX10_readWord_45 (by decide) (by omega) (by omega) (fun h45 => ?_) (fun h45 => ?_)
      · refine r_iconst (v := nI 1) dX10_readWord_67 (by decide) ?_
        refine r_goto 72 dX10_readWord_68 (by decide) ?_
        refine r_putI dX10_readWord_72 fl_RX10_56 rfl (by first | exact b2_nar _ | decide) (by first | exact b2_fit _ | decide) (by assumption) ?_
        first | omega | exact K75a (by simpa using h64) | exact K75b (by simpa using h64)
      · refine r_aload_n 0 dX10_readWord_48 rfl rfl ?_
        refine r_getR dX10_readWord_49 fl_RX10_20 rfl (by assumption) (by assumption) ?_
        refine r_aload_n 0 dX10_readWord_52 rfl rfl ?_
        refine r_getV dX10_readWord_53 fl_RX10_49 rfl (by assumption) (by first | assumption | exact up2_same _ _ _ _ | exact (Eq.trans (up2_ne _ _ (by omega)) (by first | assumption | exact up2_same _ _ _ _)) | exact (Eq.trans (up2_ne _ _ (by omega)) (Eq.trans (up2_ne _ _ (by omega)) (by first | assumption | exact up2_same _ _ _ _))) | exact (Eq.trans (up2_ne _ _ (by omega)) (Eq.trans (up2_ne _ _ (by omega)) (Eq.trans (up2_ne _ _ (by omega)) (by first | assumption | exact up2_same _ _ _ _)))) | exact (Eq.trans (up2_ne _ _ (by omega)) (Eq.trans (up2_ne _ _ (by omega)) (Eq.trans (up2_ne _ _ (by omega)) (Eq.trans (up2_ne _ _ (by omega)) (by first | assumption | exact up2_same _ _ _ _))))) | rfl) ?_
        refine r_ialdV dX10_readWord_56 (by assumption) (by omega) (by omega) (by first | assumption | exact up2_same _ _ _ _ | exact (Eq.trans (up2_ne _ _ (by omega)) (by first | assumption | exact up2_same _ _ _ _)) | exact (Eq.trans (up2_ne _ _ (by omega)) (Eq.trans (up2_ne _ _ (by omega)) (by first | assumption | exact up2_same _ _ _ _))) | exact (Eq.trans (up2_ne _ _ (by omega)) (Eq.trans (up2_ne _ _ (by omega)) (Eq.trans (up2_ne _ _ (by omega)) (by first | assumption | exact up2_same _ _ _ _)))) | exact (Eq.trans (up2_ne _ _ (by omega)) (Eq.trans (up2_ne _ _ (by omega)) (Eq.trans (up2_ne _ _ (by omega)) (Eq.trans (up2_ne _ _ (by omega)) (by first | assumption | exact up2_same _ _ _ _))))) | rfl) ?_
        refine r_bipush (v := nI 49) dX10_readWord_57 (by decide) ?_
        refine r_bipush (v := nI 55) dX10_readWord_59 (by decide) ?_
        refine r_callSp [_, _, _] dX10_readWord_61 ok_RX10_41 isX10_in rfl rfl (Nat.le_of_ble_eq_true rfl) (by refine ⟨?_, ?_, ?_, ?_⟩ <;> exact Nat.le_of_ble_eq_true rfl) (c_in _ _ _) ?_
        rw [inB_nI (by omega) (by omega) (by omega)]
        refine r_ifB_ne 71 dX10_readWord_64 (by decide) (fun h64 => ?_) (fun h64 => ?_)
        · refine r_iconst (v := nI 0) dX10_readWord_71 (by decide) ?_
          refine r_putI dX10_readWord_72 fl_RX10_56 rfl (by first | exact b2_nar _ | decide) (by first | exact b2_fit _ | decide) (by assumption) ?_
          first | omega | exact K75a (by simpa using h64) | exact K75b (by simpa using h64)
        · refine r_iconst (v := nI 1) dX10_readWord_67 (by decide) ?_
          refine r_goto 72 dX10_readWord_68 (by decide) ?_
          refine r_putI dX10_readWord_72 fl_RX10_56 rfl (by first | exact b2_nar _ | decide) (by first | exact b2_fit _ | decide) (by assumption) ?_
          first | omega | exact K75a (by simpa using h64) | exact K75b (by simpa using h64)
    · have hv := sg_out q
      refine r_aload_n 0 dX10_readWord_36 rfl rfl ?_
      refine r_aload_n 0 dX10_readWord_37 rfl rfl ?_
      refine r_getV dX10_readWord_38 fl_RX10_49 rfl (by assumption) (by first | assumption | exact up2_same _ _ _ _ | exact (Eq.trans (up2_ne _ _ (by omega)) (by first | assumption | exact up2_same _ _ _ _)) | exact (Eq.trans (up2_ne _ _ (by omega)) (Eq.trans (up2_ne _ _ (by omega)) (by first | assumption | exact up2_same _ _ _ _))) | exact (Eq.trans (up2_ne _ _ (by omega)) (Eq.trans (up2_ne _ _ (by omega)) (Eq.trans (up2_ne _ _ (by omega)) (by first | assumption | exact up2_same _ _ _ _)))) | exact (Eq.trans (up2_ne _ _ (by omega)) (Eq.trans (up2_ne _ _ (by omega)) (Eq.trans (up2_ne _ _ (by omega)) (Eq.trans (up2_ne _ _ (by omega)) (by first | assumption | exact up2_same _ _ _ _))))) | rfl) ?_
      refine r_aload_n 0 dX10_readWord_41 rfl rfl ?_
      refine r_getV dX10_readWord_42 fl_RX10_45 rfl (by assumption) (by first | assumption | exact up2_same _ _ _ _ | exact (Eq.trans (up2_ne _ _ (by omega)) (by first | assumption | exact up2_same _ _ _ _)) | exact (Eq.trans (up2_ne _ _ (by omega)) (Eq.trans (up2_ne _ _ (by omega)) (by first | assumption | exact up2_same _ _ _ _))) | exact (Eq.trans (up2_ne _ _ (by omega)) (Eq.trans (up2_ne _ _ (by omega)) (Eq.trans (up2_ne _ _ (by omega)) (by first | assumption | exact up2_same _ _ _ _)))) | exact (Eq.trans (up2_ne _ _ (by omega)) (Eq.trans (up2_ne _ _ (by omega)) (Eq.trans (up2_ne _ _ (by omega)) (Eq.trans (up2_ne _ _ (by omega)) (by first | assumption | exact up2_same _ _ _ _))))) | rfl) ?_
      refine r_icmpN_eq 67 dX10_readWord_45 (by decide) (by omega) (by omega) (fun h45 => ?_) (fun h45 => ?_)
      · refine r_iconst (v := nI 1) dX10_readWord_67 (by decide) ?_
        refine r_goto 72 dX10_readWord_68 (by decide) ?_
        refine r_putI dX10_readWord_72 fl_RX10_56 rfl (by first | exact b2_nar _ | decide) (by first | exact b2_fit _ | decide) (by assumption) ?_
        exact K75a (by rw [hv]; omega)
      · omega
  by_cases hln : l = []
  · have hr : rdW P i = (none, i) := by unfold rdW; simp [hl, hln]
    refine Mv.of pnX10_readWord (Nat.le_of_ble_eq_true rfl) rfl ?_
    refine r_aload_n 0 dX10_readWord_0 rfl rfl ?_
    refine r_bipush (v := nI 65) dX10_readWord_1 (by decide) ?_
    refine r_iconst (v := nI 3) dX10_readWord_3 (by decide) ?_
    refine r_callVx [_, _] dX10_readWord_4 ok_RX10_63 ivX10_readLetters (by assumption) ⟨_, _, rfl⟩ rfl rfl (Nat.le_of_ble_eq_true rfl) (by refine ⟨?_, ?_, ?_, ?_⟩ <;> exact Nat.le_of_ble_eq_true rfl) (m_readLetters hL hP hok hi hb hil (by omega) (by omega) (by omega)) ?_
    intro mA uA
    rw [hl] at uA ⊢
    have uA6 := uA.1
    have uA7 := uA.2.1
    refine r_istore_n 1 (ls2 := [_, _]) dX10_readWord_7 rfl (by decide) (Nat.le_of_ble_eq_true rfl) rfl ?_
    refine r_iconst (v := nI 0) dX10_readWord_8 (by decide) ?_
    refine r_istore_n 2 (ls2 := [_, _, _]) dX10_readWord_9 rfl (by decide) (Nat.le_of_ble_eq_true rfl) rfl ?_
    refine r_aload_n 0 dX10_readWord_10 rfl rfl ?_
    refine r_getV dX10_readWord_11 fl_RX10_56 rfl (by assumption) (by first | assumption | exact up2_same _ _ _ _ | exact (Eq.trans (up2_ne _ _ (by omega)) (by first | assumption | exact up2_same _ _ _ _)) | exact (Eq.trans (up2_ne _ _ (by omega)) (Eq.trans (up2_ne _ _ (by omega)) (by first | assumption | exact up2_same _ _ _ _))) | exact (Eq.trans (up2_ne _ _ (by omega)) (Eq.trans (up2_ne _ _ (by omega)) (Eq.trans (up2_ne _ _ (by omega)) (by first | assumption | exact up2_same _ _ _ _)))) | exact (Eq.trans (up2_ne _ _ (by omega)) (Eq.trans (up2_ne _ _ (by omega)) (Eq.trans (up2_ne _ _ (by omega)) (Eq.trans (up2_ne _ _ (by omega)) (by first | assumption | exact up2_same _ _ _ _))))) | rfl) ?_
    refine r_ifB_ne 120 dX10_readWord_14 (by decide) (fun h14 => ?_) (fun h14 => ?_)
    · refine K120 mA (i + l.length) 0 _ uA (by rw [hln]; exact hil) ?_
      rw [if_pos (by rw [hln]; decide), hr, hln]
      rfl
    · rw [hln] at h14
      exact absurd h14 (by decide)
  · have hle := hlin hln
    have hfl : (false || decide (l = [])) = false := by simp [hln]
    refine Mv.of pnX10_readWord (Nat.le_of_ble_eq_true rfl) rfl ?_
    refine r_aload_n 0 dX10_readWord_0 rfl rfl ?_
    refine r_bipush (v := nI 65) dX10_readWord_1 (by decide) ?_
    refine r_iconst (v := nI 3) dX10_readWord_3 (by decide) ?_
    refine r_callVx [_, _] dX10_readWord_4 ok_RX10_63 ivX10_readLetters (by assumption) ⟨_, _, rfl⟩ rfl rfl (Nat.le_of_ble_eq_true rfl) (by refine ⟨?_, ?_, ?_, ?_⟩ <;> exact Nat.le_of_ble_eq_true rfl) (m_readLetters hL hP hok hi hb hil (by omega) (by omega) (by omega)) ?_
    intro mA uA
    rw [hl] at uA ⊢
    rw [hfl] at uA
    have uA6 := uA.1
    have uA7 := uA.2.1
    refine r_istore_n 1 (ls2 := [_, _]) dX10_readWord_7 rfl (by decide) (Nat.le_of_ble_eq_true rfl) rfl ?_
    refine r_iconst (v := nI 0) dX10_readWord_8 (by decide) ?_
    refine r_istore_n 2 (ls2 := [_, _, _]) dX10_readWord_9 rfl (by decide) (Nat.le_of_ble_eq_true rfl) rfl ?_
    refine r_aload_n 0 dX10_readWord_10 rfl rfl ?_
    refine r_getV dX10_readWord_11 fl_RX10_56 rfl (by assumption) (by first | assumption | exact up2_same _ _ _ _ | exact (Eq.trans (up2_ne _ _ (by omega)) (by first | assumption | exact up2_same _ _ _ _)) | exact (Eq.trans (up2_ne _ _ (by omega)) (Eq.trans (up2_ne _ _ (by omega)) (by first | assumption | exact up2_same _ _ _ _))) | exact (Eq.trans (up2_ne _ _ (by omega)) (Eq.trans (up2_ne _ _ (by omega)) (Eq.trans (up2_ne _ _ (by omega)) (by first | assumption | exact up2_same _ _ _ _)))) | exact (Eq.trans (up2_ne _ _ (by omega)) (Eq.trans (up2_ne _ _ (by omega)) (Eq.trans (up2_ne _ _ (by omega)) (Eq.trans (up2_ne _ _ (by omega)) (by first | assumption | exact up2_same _ _ _ _))))) | rfl) ?_
    refine r_ifB_ne 120 dX10_readWord_14 (by decide) (fun h14 => ?_) (fun h14 => ?_)
    · first | exact absurd h14 (by decide) | (refine K120 mA (i + l.length) 0 false uA hle ?_; have hd : ¬ sg P (i + l.length) = 45 := (by simpa using h23); rw [if_neg (by decide)]; unfold rdW; simp only [hl]; rw [if_neg hln, if_neg hd])
    · refine r_aload_n 0 dX10_readWord_17 rfl rfl ?_
      refine r_bipush (v := nI 45) dX10_readWord_18 (by decide) ?_
      refine r_callVp [_] dX10_readWord_20 ok_RX10_60 ivX10_isAt (by assumption) ⟨_, _, rfl⟩ rfl rfl (Nat.le_of_ble_eq_true rfl) (by refine ⟨?_, ?_, ?_, ?_⟩ <;> exact Nat.le_of_ble_eq_true rfl) (m_isAt hL (hP.pf uA) hok uA6 hle (by omega) (by omega)) ?_
      refine r_ifB_eq 120 dX10_readWord_23 (by decide) (fun h23 => ?_) (fun h23 => ?_)
      · first | exact absurd h14 (by decide) | (refine K120 mA (i + l.length) 0 false uA hle ?_; have hd : ¬ sg P (i + l.length) = 45 := (by simpa using h23); rw [if_neg (by decide)]; unfold rdW; simp only [hl]; rw [if_neg hln, if_neg hd])
      · refine r_aload_n 0 dX10_readWord_26 rfl rfl ?_
        refine r_dup dX10_readWord_27 rfl ?_
        refine r_getV dX10_readWord_28 fl_RX10_49 rfl (by assumption) (by first | assumption | exact up2_same _ _ _ _ | exact (Eq.trans (up2_ne _ _ (by omega)) (by first | assumption | exact up2_same _ _ _ _)) | exact (Eq.trans (up2_ne _ _ (by omega)) (Eq.trans (up2_ne _ _ (by omega)) (by first | assumption | exact up2_same _ _ _ _))) | exact (Eq.trans (up2_ne _ _ (by omega)) (Eq.trans (up2_ne _ _ (by omega)) (Eq.trans (up2_ne _ _ (by omega)) (by first | assumption | exact up2_same _ _ _ _)))) | exact (Eq.trans (up2_ne _ _ (by omega)) (Eq.trans (up2_ne _ _ (by omega)) (Eq.trans (up2_ne _ _ (by omega)) (Eq.trans (up2_ne _ _ (by omega)) (by first | assumption | exact up2_same _ _ _ _))))) | rfl) ?_
        refine r_iconst (v := nI 1) dX10_readWord_31 (by decide) ?_
        refine r_iaddN dX10_readWord_32 ?_
        refine r_putI dX10_readWord_33 fl_RX10_49 rfl rfl rfl (by assumption) ?_
        exact K36 _ (i + l.length) (uA.at rfl) (by have e45 : sg P (i + l.length) = 45 := (by simpa using h23); have := sg_pos (P := P) (i := i + l.length) (by omega); omega) rfl hln (by simpa using h23)
end RPAD2
