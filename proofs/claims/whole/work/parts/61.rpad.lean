section RPAD
variable {z : Nat} {sh : SH} {mi : MI} {mr : MR} {o : Nat}
def PF (mi m : MI) (o i : Nat) (b : Bool) : Prop := m o 6 = nI i ∧ m o 7 = b2 b ∧ (∀ x, x ≠ o → m x = mi x) ∧ ∀ k, k ≠ 6 → k ≠ 7 → m o k = mi o k
theorem PF.of {i : Nat} {b : Bool} {x y : Int32} (hx : x = nI i) (hy : y = b2 b) : PF mi (up2 (up2 mi o 6 x) o 7 y) o i b := ⟨by rw [up2_ne _ _ (Or.inr (by omega)), up2_same, hx], by rw [up2_same, hy], fun x h => by rw [up2_row _ _ h, up2_row _ _ h], fun k h1 h2 => by rw [up2_ne _ _ (Or.inr h2), up2_ne _ _ (Or.inr h1)]⟩
theorem PF.of' {i : Nat} {b : Bool} {x y : Int32} (hx : x = nI i) (hy : y = b2 b) : PF mi (up2 (up2 mi o 7 y) o 6 x) o i b := ⟨by rw [up2_same, hx], by rw [up2_ne _ _ (Or.inr (by omega)), up2_same, hy], fun x h => by rw [up2_row _ _ h, up2_row _ _ h], fun k h1 h2 => by rw [up2_ne _ _ (Or.inr h1), up2_ne _ _ (Or.inr h2)]⟩
theorem PF.rf {i : Nat} {b : Bool} (h6 : mi o 6 = nI i) (h7 : mi o 7 = b2 b) : PF mi mi o i b := ⟨h6, h7, fun _ _ => rfl, fun _ _ _ => rfl⟩
theorem PF.tr {m m' : MI} {i j : Nat} {b c : Bool} (h : PF mi m o i b) (h' : PF m m' o j c) : PF mi m' o j c := ⟨h'.1, h'.2.1, fun x hx => (h'.2.2.1 x hx).trans (h.2.2.1 x hx), fun k h1 h2 => (h'.2.2.2 k h1 h2).trans (h.2.2.2 k h1 h2)⟩
theorem PF.at {m : MI} {i j : Nat} {b : Bool} {x : Int32} (h : PF mi m o i b) (hx : x = nI j) : PF mi (up2 m o 6 x) o j b := ⟨by rw [up2_same, hx], by rw [up2_ne _ _ (Or.inr (by omega))]; exact h.2.1, fun y hy => by rw [up2_row _ _ hy]; exact h.2.2.1 y hy, fun k h1 h2 => by rw [up2_ne _ _ (Or.inr h1)]; exact h.2.2.2 k h1 h2⟩
theorem PF.bad {m : MI} {i : Nat} {b c : Bool} {x : Int32} (h : PF mi m o i b) (hx : x = b2 c) : PF mi (up2 m o 7 x) o i c := ⟨by rw [up2_ne _ _ (Or.inr (by omega))]; exact h.1, by rw [up2_same, hx], fun y hy => by rw [up2_row _ _ hy]; exact h.2.2.1 y hy, fun k h1 h2 => by rw [up2_ne _ _ (Or.inr h2)]; exact h.2.2.2 k h1 h2⟩
theorem PdM.pf {m : MI} {P : List Nat} {i : Nat} {b : Bool} (h : PdM mi o P) (hF : PF mi m o i b) : PdM m o P := ⟨by rw [hF.2.2.2 4 (by omega) (by omega)]; exact h.1, fun j x hj => by rw [hF.2.2.1 (o + 4) (by omega)]; exact h.2 j x hj⟩
theorem PdM.keep {m : MI} {P : List Nat} (h : PdM mi o P) (h1 : m o 4 = mi o 4) (h2 : m (o + 4) = mi (o + 4)) : PdM m o P := ⟨by rw [h1]; exact h.1, fun j x hj => by rw [h2]; exact h.2 j x hj⟩
theorem PdM.sg {P : List Nat} (h : PdM mi o P) {i : Nat} (hi : i < P.length) : mi (o + 4) i = nI (sg P i) := by
  obtain ⟨x, hx⟩ := gl_ex hi
  rw [sg_in hx]; exact h.2 i x hx
theorem inB_nI {a f g : Nat} (ha : a < 2 ^ 31) (hf : f < 2 ^ 31) (hg : g < 2 ^ 31) : inB (nI a) (nI f) (nI g) = decide (f ≤ a ∧ a ≤ g) := by
  rw [Bool.eq_iff_iff]
  simp only [inB, Bool.and_eq_true, Bool.not_eq_true', decide_eq_false_iff_not, decide_eq_true_eq]
  rw [nI_ltI ha hf, nI_ltI hg ha]
  omega
theorem m_isAt (hL : LM sh mr o) {P : List Nat} (hP : PdM mi o P) (hok : okD P) {i c : Nat} (hi : mi o 6 = nI i) (hil : i ≤ P.length) (hc : 0 < c) (hc2 : c < 200) : Mp mX10_isAt 0 [.ref o, .int (nI c)] z sh mi mr (b2 (decide (sg P i = c))) := by
  have h40 := hok.1
  refine (c_isAt hL hi hP.1 h40 (by omega)).of ?_
  rcases Nat.lt_or_ge i P.length with q | q
  · rw [hP.sg q]
    have := sg_lt hok i
    have e : (nI (sg P i) = nI c) ↔ sg P i = c := nI_eq (by omega) (by omega)
    simp [q, e]
  · rw [sg_out q]
    simp [show ¬ i < P.length by omega, show ¬ 0 = c by omega]
theorem m_isLetter (hL : LM sh mr o) {P : List Nat} (hP : PdM mi o P) (hok : okD P) {i f : Nat} (hi : mi o 6 = nI i) (hil : i ≤ P.length) (hf : 0 < f) (hf2 : f < 100) : Mp mX10_isLetter 1 [.ref o, .int (nI f)] z sh mi mr (b2 (decide (f ≤ sg P i ∧ sg P i ≤ f + 25))) := by
  obtain ⟨l0, -, -, -, ⟨l7, l8⟩, -⟩ := id hL
  have h40 := hok.1
  have p0 := hP.1
  have hsl := sg_lt hok i
  rcases Nat.lt_or_ge i P.length with q | q
  · have hv := hP.sg q
    refine Mv.of pnX10_isLetter (Nat.le_of_ble_eq_true rfl) rfl ?_
    refine r_aload_n 0 dX10_isLetter_0 rfl rfl ?_
    refine r_getV dX10_isLetter_1 fl_RX10_49 rfl (by assumption) (by first | assumption | exact up2_same _ _ _ _ | exact (Eq.trans (up2_ne _ _ (by omega)) (by first | assumption | exact up2_same _ _ _ _)) | exact (Eq.trans (up2_ne _ _ (by omega)) (Eq.trans (up2_ne _ _ (by omega)) (by first | assumption | exact up2_same _ _ _ _))) | exact (Eq.trans (up2_ne _ _ (by omega)) (Eq.trans (up2_ne _ _ (by omega)) (Eq.trans (up2_ne _ _ (by omega)) (by first | assumption | exact up2_same _ _ _ _)))) | exact (Eq.trans (up2_ne _ _ (by omega)) (Eq.trans (up2_ne _ _ (by omega)) (Eq.trans (up2_ne _ _ (by omega)) (Eq.trans (up2_ne _ _ (by omega)) (by first | assumption | exact up2_same _ _ _ _))))) | rfl) ?_
    refine r_aload_n 0 dX10_isLetter_4 rfl rfl ?_
    refine r_getV dX10_isLetter_5 fl_RX10_45 rfl (by assumption) (by first | assumption | exact up2_same _ _ _ _ | exact (Eq.trans (up2_ne _ _ (by omega)) (by first | assumption | exact up2_same _ _ _ _)) | exact (Eq.trans (up2_ne _ _ (by omega)) (Eq.trans (up2_ne _ _ (by omega)) (by first | assumption | exact up2_same _ _ _ _))) | exact (Eq.trans (up2_ne _ _ (by omega)) (Eq.trans (up2_ne _ _ (by omega)) (Eq.trans (up2_ne _ _ (by omega)) (by first | assumption | exact up2_same _ _ _ _)))) | exact (Eq.trans (up2_ne _ _ (by omega)) (Eq.trans (up2_ne _ _ (by omega)) (Eq.trans (up2_ne _ _ (by omega)) (Eq.trans (up2_ne _ _ (by omega)) (by first | assumption | exact up2_same _ _ _ _))))) | rfl) ?_
    refine r_icmpN_ge 35 dX10_isLetter_8 (by decide) (by omega) (by omega) (fun h8 => ?_) (fun h8 => ?_)
    · refine r_iconst (v := nI 0) dX10_isLetter_35 (by decide) ?_
      refine r_zret dX10_isLetter_36 rfl (by first | exact b2_nar _ | decide) (Nat.le_of_ble_eq_true rfl) (Nat.le_of_ble_eq_true rfl) ?_
      first | omega | (refine ⟨rfl, rfl, rfl, ?_, rfl⟩; rw [h28]; rfl)
    · refine r_aload_n 0 dX10_isLetter_11 rfl rfl ?_
      refine r_getR dX10_isLetter_12 fl_RX10_20 rfl (by assumption) (by assumption) ?_
      refine r_aload_n 0 dX10_isLetter_15 rfl rfl ?_
      refine r_getV dX10_isLetter_16 fl_RX10_49 rfl (by assumption) (by first | assumption | exact up2_same _ _ _ _ | exact (Eq.trans (up2_ne _ _ (by omega)) (by first | assumption | exact up2_same _ _ _ _)) | exact (Eq.trans (up2_ne _ _ (by omega)) (Eq.trans (up2_ne _ _ (by omega)) (by first | assumption | exact up2_same _ _ _ _))) | exact (Eq.trans (up2_ne _ _ (by omega)) (Eq.trans (up2_ne _ _ (by omega)) (Eq.trans (up2_ne _ _ (by omega)) (by first | assumption | exact up2_same _ _ _ _)))) | exact (Eq.trans (up2_ne _ _ (by omega)) (Eq.trans (up2_ne _ _ (by omega)) (Eq.trans (up2_ne _ _ (by omega)) (Eq.trans (up2_ne _ _ (by omega)) (by first | assumption | exact up2_same _ _ _ _))))) | rfl) ?_
      refine r_ialdV dX10_isLetter_19 (by assumption) (by omega) (by omega) (by first | assumption | exact up2_same _ _ _ _ | exact (Eq.trans (up2_ne _ _ (by omega)) (by first | assumption | exact up2_same _ _ _ _)) | exact (Eq.trans (up2_ne _ _ (by omega)) (Eq.trans (up2_ne _ _ (by omega)) (by first | assumption | exact up2_same _ _ _ _))) | exact (Eq.trans (up2_ne _ _ (by omega)) (Eq.trans (up2_ne _ _ (by omega)) (Eq.trans (up2_ne _ _ (by omega)) (by first | assumption | exact up2_same _ _ _ _)))) | exact (Eq.trans (up2_ne _ _ (by omega)) (Eq.trans (up2_ne _ _ (by omega)) (Eq.trans (up2_ne _ _ (by omega)) (Eq.trans (up2_ne _ _ (by omega)) (by first | assumption | exact up2_same _ _ _ _))))) | rfl) ?_
      refine r_iload_n 1 dX10_isLetter_20 rfl rfl ?_
      refine r_iload_n 1 dX10_isLetter_21 rfl rfl ?_
      refine r_bipush (v := nI 25) dX10_isLetter_22 (by decide) ?_
      refine r_iaddN dX10_isLetter_24 ?_
      refine r_callSp [_, _, _] dX10_isLetter_25 ok_RX10_41 isX10_in rfl rfl (Nat.le_of_ble_eq_true rfl) (by refine ⟨?_, ?_, ?_, ?_⟩ <;> exact Nat.le_of_ble_eq_true rfl) (c_in _ _ _) ?_
      rw [inB_nI (by omega) (by omega) (by omega)]
      refine r_ifB_eq 35 dX10_isLetter_28 (by decide) (fun h28 => ?_) (fun h28 => ?_)
      · refine r_iconst (v := nI 0) dX10_isLetter_35 (by decide) ?_
        refine r_zret dX10_isLetter_36 rfl (by first | exact b2_nar _ | decide) (Nat.le_of_ble_eq_true rfl) (Nat.le_of_ble_eq_true rfl) ?_
        first | omega | (refine ⟨rfl, rfl, rfl, ?_, rfl⟩; rw [h28]; rfl)
      · refine r_iconst (v := nI 1) dX10_isLetter_31 (by decide) ?_
        refine r_goto 36 dX10_isLetter_32 (by decide) ?_
        refine r_zret dX10_isLetter_36 rfl (by first | exact b2_nar _ | decide) (Nat.le_of_ble_eq_true rfl) (Nat.le_of_ble_eq_true rfl) ?_
        first | omega | (refine ⟨rfl, rfl, rfl, ?_, rfl⟩; rw [h28]; rfl)
  · have hv := sg_out q
    refine Mv.of pnX10_isLetter (Nat.le_of_ble_eq_true rfl) rfl ?_
    refine r_aload_n 0 dX10_isLetter_0 rfl rfl ?_
    refine r_getV dX10_isLetter_1 fl_RX10_49 rfl (by assumption) (by first | assumption | exact up2_same _ _ _ _ | exact (Eq.trans (up2_ne _ _ (by omega)) (by first | assumption | exact up2_same _ _ _ _)) | exact (Eq.trans (up2_ne _ _ (by omega)) (Eq.trans (up2_ne _ _ (by omega)) (by first | assumption | exact up2_same _ _ _ _))) | exact (Eq.trans (up2_ne _ _ (by omega)) (Eq.trans (up2_ne _ _ (by omega)) (Eq.trans (up2_ne _ _ (by omega)) (by first | assumption | exact up2_same _ _ _ _)))) | exact (Eq.trans (up2_ne _ _ (by omega)) (Eq.trans (up2_ne _ _ (by omega)) (Eq.trans (up2_ne _ _ (by omega)) (Eq.trans (up2_ne _ _ (by omega)) (by first | assumption | exact up2_same _ _ _ _))))) | rfl) ?_
    refine r_aload_n 0 dX10_isLetter_4 rfl rfl ?_
    refine r_getV dX10_isLetter_5 fl_RX10_45 rfl (by assumption) (by first | assumption | exact up2_same _ _ _ _ | exact (Eq.trans (up2_ne _ _ (by omega)) (by first | assumption | exact up2_same _ _ _ _)) | exact (Eq.trans (up2_ne _ _ (by omega)) (Eq.trans (up2_ne _ _ (by omega)) (by first | assumption | exact up2_same _ _ _ _))) | exact (Eq.trans (up2_ne _ _ (by omega)) (Eq.trans (up2_ne _ _ (by omega)) (Eq.trans (up2_ne _ _ (by omega)) (by first | assumption | exact up2_same _ _ _ _)))) | exact (Eq.trans (up2_ne _ _ (by omega)) (Eq.trans (up2_ne _ _ (by omega)) (Eq.trans (up2_ne _ _ (by omega)) (Eq.trans (up2_ne _ _ (by omega)) (by first | assumption | exact up2_same _ _ _ _))))) | rfl) ?_
    refine r_icmpN_ge 35 dX10_isLetter_8 (by decide) (by omega) (by omega) (fun h8 => ?_) (fun h8 => ?_)
    · refine r_iconst (v := nI 0) dX10_isLetter_35 (by decide) ?_
      refine r_zret dX10_isLetter_36 rfl (by first | exact b2_nar _ | decide) (Nat.le_of_ble_eq_true rfl) (Nat.le_of_ble_eq_true rfl) ?_
      refine ⟨rfl, rfl, rfl, ?_, rfl⟩
      rw [hv, show decide (f ≤ 0 ∧ 0 ≤ f + 25) = false by simp; omega]
      rfl
    · omega
theorem m_readLetters (hL : LM sh mr o) {P : List Nat} (hP : PdM mi o P) (hok : okD P) {i f k : Nat} {b : Bool} (hi : mi o 6 = nI i) (hb : mi o 7 = b2 b) (hil : i ≤ P.length) (hk : k ≤ 4) (hf : 0 < f) (hf2 : f < 100) : Mi mX10_readLetters 2 [.ref o, .int (nI f), .int (nI k)] z sh mi mr (fun v m => v = some (.int (nI (en 27 (lets f k P i)))) ∧ PF mi m o (i + (lets f k P i).length) (b || decide (lets f k P i = []))) := by
  obtain ⟨l0, -, -, -, ⟨l7, l8⟩, -⟩ := id hL
  have h40 := hok.1
  have K54 : ∀ (l : Nm) (ls : List Value), lets f k P i = l → Wp yX10_readLetters cX10_readLetters 5 (some .int) (EI 2 z sh mr (fun v m => v = some (.int (nI (en 27 (lets f k P i)))) ∧ PF mi m o (i + (lets f k P i).length) (b || decide (lets f k P i = [])))) 0 0 54 ([.ref o, .int (nI f), .int (nI k), .int (nI (en 27 l)), .int (nI l.length)] ++ ls) [] z sh (up2 mi o 6 (nI (i + l.length))) mr := by
    intro l ls he
    have hlen := lets_len f k P i
    rw [he] at hlen
    have hb' : up2 mi o 6 (nI (i + l.length)) o 7 = b2 b := by rw [up2_ne _ _ (Or.inr (by omega))]; exact hb
    refine r_drop ?_
    refine r_aload_n 0 dX10_readLetters_54 rfl rfl ?_
    refine r_aload_n 0 dX10_readLetters_55 rfl rfl ?_
    refine r_getV dX10_readLetters_56 fl_RX10_56 rfl (by assumption) (by first | assumption | exact up2_same _ _ _ _ | exact (Eq.trans (up2_ne _ _ (by omega)) (by first | assumption | exact up2_same _ _ _ _)) | exact (Eq.trans (up2_ne _ _ (by omega)) (Eq.trans (up2_ne _ _ (by omega)) (by first | assumption | exact up2_same _ _ _ _))) | exact (Eq.trans (up2_ne _ _ (by omega)) (Eq.trans (up2_ne _ _ (by omega)) (Eq.trans (up2_ne _ _ (by omega)) (by first | assumption | exact up2_same _ _ _ _)))) | exact (Eq.trans (up2_ne _ _ (by omega)) (Eq.trans (up2_ne _ _ (by omega)) (Eq.trans (up2_ne _ _ (by omega)) (Eq.trans (up2_ne _ _ (by omega)) (by first | assumption | exact up2_same _ _ _ _))))) | rfl) ?_
    refine r_ifB_ne 67 dX10_readLetters_59 (by decide) (fun h59 => ?_) (fun h59 => ?_)
    · refine r_iconst (v := nI 1) dX10_readLetters_67 (by decide) ?_
      refine r_goto 72 dX10_readLetters_68 (by decide) ?_
      refine r_putI dX10_readLetters_72 fl_RX10_56 rfl (by first | exact b2_nar _ | decide) (by first | exact b2_fit _ | decide) (by assumption) ?_
      refine r_iload_n 3 dX10_readLetters_75 rfl rfl ?_
      refine r_iret dX10_readLetters_76 rfl (Nat.le_of_ble_eq_true rfl) (Nat.le_of_ble_eq_true rfl) ?_
      refine ⟨rfl, rfl, rfl, by rw [he], ?_⟩
      rw [he]
      refine PF.of rfl ?_
      first | (rw [h59]; rfl) | (have hln : l = [] := List.length_eq_zero_iff.mp h64; rw [h59, hln]; decide) | (have hln : ¬ l = [] := fun e => h64 (by rw [e]; rfl); rw [h59]; simp [hln]; rfl)
    · refine r_iload 4 dX10_readLetters_62 rfl ?_
      refine r_ifN_ne 71 dX10_readLetters_64 (by decide) (by omega) (fun h64 => ?_) (fun h64 => ?_)
      · refine r_iconst (v := nI 0) dX10_readLetters_71 (by decide) ?_
        refine r_putI dX10_readLetters_72 fl_RX10_56 rfl (by first | exact b2_nar _ | decide) (by first | exact b2_fit _ | decide) (by assumption) ?_
        refine r_iload_n 3 dX10_readLetters_75 rfl rfl ?_
        refine r_iret dX10_readLetters_76 rfl (Nat.le_of_ble_eq_true rfl) (Nat.le_of_ble_eq_true rfl) ?_
        refine ⟨rfl, rfl, rfl, by rw [he], ?_⟩
        rw [he]
        refine PF.of rfl ?_
        first | (rw [h59]; rfl) | (have hln : l = [] := List.length_eq_zero_iff.mp h64; rw [h59, hln]; decide) | (have hln : ¬ l = [] := fun e => h64 (by rw [e]; rfl); rw [h59]; simp [hln]; rfl)
      · refine r_iconst (v := nI 1) dX10_readLetters_67 (by decide) ?_
        refine r_goto 72 dX10_readLetters_68 (by decide) ?_
        refine r_putI dX10_readLetters_72 fl_RX10_56 rfl (by first | exact b2_nar _ | decide) (by first | exact b2_fit _ | decide) (by assumption) ?_
        refine r_iload_n 3 dX10_readLetters_75 rfl rfl ?_
        refine r_iret dX10_readLetters_76 rfl (Nat.le_of_ble_eq_true rfl) (Nat.le_of_ble_eq_true rfl) ?_
        refine ⟨rfl, rfl, rfl, by rw [he], ?_⟩
        rw [he]
        refine PF.of rfl ?_
        first | (rw [h59]; rfl) | (have hln : l = [] := List.length_eq_zero_iff.mp h64; rw [h59, hln]; decide) | (have hln : ¬ l = [] := fun e => h64 (by rw [e]; rfl); rw [h59]; simp [hln]; rfl)
  have H : ∀ (t j : Nat) (acc : Nm) (ls : List Value), j + t = k → lets f k P i = acc ++ lets f t P (i + j) → acc.length = j → i + j ≤ P.length → Wp yX10_readLetters cX10_readLetters 5 (some .int) (EI 2 z sh mr (fun v m => v = some (.int (nI (en 27 (lets f k P i)))) ∧ PF mi m o (i + (lets f k P i).length) (b || decide (lets f k P i = [])))) 0 0 5 ([.ref o, .int (nI f), .int (nI k), .int (nI (en 27 acc)), .int (nI j)] ++ ls) [] z sh (up2 mi o 6 (nI (i + j))) mr := by
    intro t
    induction t with
    | zero =>
      intro j acc ls hj he hl hle
      have he' : lets f k P i = acc := by rw [he]; simp [lets]
      refine r_drop ?_
      refine r_iload 4 dX10_readLetters_5 rfl ?_
      refine r_iload_n 2 dX10_readLetters_7 rfl rfl ?_
      refine r_icmpN_ge 54 dX10_readLetters_8 (by decide) (by omega) (by omega) (fun h8 => ?_) (fun h8 => ?_)
      · have := K54 acc [] he'
        rw [hl] at this
        exact this
      · omega
    | succ t ih =>
      intro j acc ls hj he hl hle
      have hP' : PdM (up2 mi o 6 (nI (i + j))) o P := hP.keep (up2_ne _ _ (Or.inr (by omega))) (up2_row _ _ (by omega))
      have hsl := sg_lt hok (i + j)
      have hacc : en 27 acc < 27 ^ j := by
        refine en_lt (by omega) j acc hl (fun x hx => lets_ok f k P i x ?_)
        rw [he]; exact List.mem_append_left _ hx
      have hp4 : 27 ^ j ≤ 27 ^ 3 := Nat.pow_le_pow_right (by omega) (by omega)
      refine r_drop ?_
      by_cases hs : f ≤ sg P (i + j) ∧ sg P (i + j) ≤ f + 25
      · have hpos := sg_pos (P := P) (i := i + j) (by omega)
        have hv := hP'.sg hpos
        have hgo : lets f k P i = (acc ++ [sg P (i + j) - f + 1]) ++ lets f t P (i + (j + 1)) := by
          rw [he]; conv => lhs; unfold lets
          rw [if_pos hs, List.append_assoc]; rfl
        have hen : 27 * en 27 acc + sg P (i + j) - f + 1 = en 27 (acc ++ [sg P (i + j) - f + 1]) := by rw [en_snoc]; omega
        refine r_iload 4 dX10_readLetters_5 rfl ?_
        refine r_iload_n 2 dX10_readLetters_7 rfl rfl ?_
        refine r_icmpN_ge 54 dX10_readLetters_8 (by decide) (by omega) (by omega) (fun h8 => ?_) (fun h8 => ?_)
        · first | omega | exact absurd hs (by simpa using h16)
        · refine r_aload_n 0 dX10_readLetters_11 rfl rfl ?_
          refine r_iload_n 1 dX10_readLetters_12 rfl rfl ?_
          refine r_callVp [_] dX10_readLetters_13 ok_RX10_52 ivX10_isLetter (by assumption) ⟨_, _, rfl⟩ rfl rfl (Nat.le_of_ble_eq_true rfl) (by refine ⟨?_, ?_, ?_, ?_⟩ <;> exact Nat.le_of_ble_eq_true rfl) (m_isLetter hL hP' hok (up2_same _ _ _ _) hle hf hf2) ?_
          refine r_ifB_eq 54 dX10_readLetters_16 (by decide) (fun h16 => ?_) (fun h16 => ?_)
          · first | omega | exact absurd hs (by simpa using h16)
          · refine r_bipush (v := nI 27) dX10_readLetters_19 (by decide) ?_
            refine r_iload_n 3 dX10_readLetters_21 rfl rfl ?_
            refine r_imulN dX10_readLetters_22 ?_
            refine r_aload_n 0 dX10_readLetters_23 rfl rfl ?_
            refine r_getR dX10_readLetters_24 fl_RX10_20 rfl (by assumption) (by assumption) ?_
            refine r_aload_n 0 dX10_readLetters_27 rfl rfl ?_
            refine r_getV dX10_readLetters_28 fl_RX10_49 rfl (by assumption) (by first | assumption | exact up2_same _ _ _ _ | exact (Eq.trans (up2_ne _ _ (by omega)) (by first | assumption | exact up2_same _ _ _ _)) | exact (Eq.trans (up2_ne _ _ (by omega)) (Eq.trans (up2_ne _ _ (by omega)) (by first | assumption | exact up2_same _ _ _ _))) | exact (Eq.trans (up2_ne _ _ (by omega)) (Eq.trans (up2_ne _ _ (by omega)) (Eq.trans (up2_ne _ _ (by omega)) (by first | assumption | exact up2_same _ _ _ _)))) | exact (Eq.trans (up2_ne _ _ (by omega)) (Eq.trans (up2_ne _ _ (by omega)) (Eq.trans (up2_ne _ _ (by omega)) (Eq.trans (up2_ne _ _ (by omega)) (by first | assumption | exact up2_same _ _ _ _))))) | rfl) ?_
            refine r_ialdV dX10_readLetters_31 (by assumption) (by omega) (by omega) (by first | assumption | exact up2_same _ _ _ _ | exact (Eq.trans (up2_ne _ _ (by omega)) (by first | assumption | exact up2_same _ _ _ _)) | exact (Eq.trans (up2_ne _ _ (by omega)) (Eq.trans (up2_ne _ _ (by omega)) (by first | assumption | exact up2_same _ _ _ _))) | exact (Eq.trans (up2_ne _ _ (by omega)) (Eq.trans (up2_ne _ _ (by omega)) (Eq.trans (up2_ne _ _ (by omega)) (by first | assumption | exact up2_same _ _ _ _)))) | exact (Eq.trans (up2_ne _ _ (by omega)) (Eq.trans (up2_ne _ _ (by omega)) (Eq.trans (up2_ne _ _ (by omega)) (Eq.trans (up2_ne _ _ (by omega)) (by first | assumption | exact up2_same _ _ _ _))))) | rfl) ?_
            refine r_iaddN dX10_readLetters_32 ?_
            refine r_iload_n 1 dX10_readLetters_33 rfl rfl ?_
            refine r_isubN dX10_readLetters_34 (by omega) ?_
            refine r_iconst (v := nI 1) dX10_readLetters_35 (by decide) ?_
            refine r_iaddN dX10_readLetters_36 ?_
            rw [hen]
            refine r_istore_n 3 (ls2 := [_, _, _, _, _]) dX10_readLetters_37 rfl (by decide) (Nat.le_of_ble_eq_true rfl) rfl ?_
            refine r_iincN 4 (b := 1) (ls2 := [_, _, _, _, _]) dX10_readLetters_38 rfl (by decide) (by decide) rfl ?_
            refine r_aload_n 0 dX10_readLetters_41 rfl rfl ?_
            refine r_dup dX10_readLetters_42 rfl ?_
            refine r_getV dX10_readLetters_43 fl_RX10_49 rfl (by assumption) (by first | assumption | exact up2_same _ _ _ _ | exact (Eq.trans (up2_ne _ _ (by omega)) (by first | assumption | exact up2_same _ _ _ _)) | exact (Eq.trans (up2_ne _ _ (by omega)) (Eq.trans (up2_ne _ _ (by omega)) (by first | assumption | exact up2_same _ _ _ _))) | exact (Eq.trans (up2_ne _ _ (by omega)) (Eq.trans (up2_ne _ _ (by omega)) (Eq.trans (up2_ne _ _ (by omega)) (by first | assumption | exact up2_same _ _ _ _)))) | exact (Eq.trans (up2_ne _ _ (by omega)) (Eq.trans (up2_ne _ _ (by omega)) (Eq.trans (up2_ne _ _ (by omega)) (Eq.trans (up2_ne _ _ (by omega)) (by first | assumption | exact up2_same _ _ _ _))))) | rfl) ?_
            refine r_iconst (v := nI 1) dX10_readLetters_46 (by decide) ?_
            refine r_iaddN dX10_readLetters_47 ?_
            refine r_putI dX10_readLetters_48 fl_RX10_49 rfl rfl rfl (by assumption) ?_
            refine r_goto 5 dX10_readLetters_51 (by decide) ?_
            rw [up2_up2]
            exact ih (j + 1) (acc ++ [sg P (i + j) - f + 1]) [] (by omega) hgo (by simp [hl]) (by omega)
      · have he' : lets f k P i = acc := by rw [he]; unfold lets; rw [if_neg hs, List.append_nil]
        refine r_iload 4 dX10_readLetters_5 rfl ?_
        refine r_iload_n 2 dX10_readLetters_7 rfl rfl ?_
        refine r_icmpN_ge 54 dX10_readLetters_8 (by decide) (by omega) (by omega) (fun h8 => ?_) (fun h8 => ?_)
        · first | omega | (have := K54 acc [] he'; rw [hl] at this; exact this)
        · refine r_aload_n 0 dX10_readLetters_11 rfl rfl ?_
          refine r_iload_n 1 dX10_readLetters_12 rfl rfl ?_
          refine r_callVp [_] dX10_readLetters_13 ok_RX10_52 ivX10_isLetter (by assumption) ⟨_, _, rfl⟩ rfl rfl (Nat.le_of_ble_eq_true rfl) (by refine ⟨?_, ?_, ?_, ?_⟩ <;> exact Nat.le_of_ble_eq_true rfl) (m_isLetter hL hP' hok (up2_same _ _ _ _) hle hf hf2) ?_
          refine r_ifB_eq 54 dX10_readLetters_16 (by decide) (fun h16 => ?_) (fun h16 => ?_)
          · first | omega | (have := K54 acc [] he'; rw [hl] at this; exact this)
          · exact absurd (by simpa using h16) hs
  refine Mv.of pnX10_readLetters (Nat.le_of_ble_eq_true rfl) rfl ?_
  refine r_iconst (v := nI 0) dX10_readLetters_0 (by decide) ?_
  refine r_istore_n 3 (ls2 := [_, _, _, _]) dX10_readLetters_1 rfl (by decide) (Nat.le_of_ble_eq_true rfl) rfl ?_
  refine r_iconst (v := nI 0) dX10_readLetters_2 (by decide) ?_
  refine r_istore 4 (ls2 := [_, _, _, _, _]) dX10_readLetters_3 (by decide) (Nat.le_of_ble_eq_true rfl) rfl ?_
  refine r_mem (up2_id (by rw [hi]; rfl)).symm (H k 0 [] [] (by omega) (by simp) rfl (by omega))
theorem m_readSign (hL : LM sh mr o) {P : List Nat} (hP : PdM mi o P) (hok : okD P) {i c : Nat} {b : Bool} (hi : mi o 6 = nI i) (hb : mi o 7 = b2 b) (hil : i ≤ P.length) (hc : 0 < c) (hc2 : c < 200) : Mi mX10_readSign 1 [.ref o, .int (nI c)] z sh mi mr (fun v m => v = none ∧ if b = true then m = mi else PF mi m o (i + bn (decide (sg P i = c))) (!decide (sg P i = c))) := by
  obtain ⟨l0, -⟩ := id hL
  have h40 := hok.1
  refine Mv.of pnX10_readSign (Nat.le_of_ble_eq_true rfl) rfl ?_
  refine r_aload_n 0 dX10_readSign_0 rfl rfl ?_
  refine r_getV dX10_readSign_1 fl_RX10_56 rfl (by assumption) (by first | assumption | exact up2_same _ _ _ _ | exact (Eq.trans (up2_ne _ _ (by omega)) (by first | assumption | exact up2_same _ _ _ _)) | exact (Eq.trans (up2_ne _ _ (by omega)) (Eq.trans (up2_ne _ _ (by omega)) (by first | assumption | exact up2_same _ _ _ _))) | exact (Eq.trans (up2_ne _ _ (by omega)) (Eq.trans (up2_ne _ _ (by omega)) (Eq.trans (up2_ne _ _ (by omega)) (by first | assumption | exact up2_same _ _ _ _)))) | exact (Eq.trans (up2_ne _ _ (by omega)) (Eq.trans (up2_ne _ _ (by omega)) (Eq.trans (up2_ne _ _ (by omega)) (Eq.trans (up2_ne _ _ (by omega)) (by first | assumption | exact up2_same _ _ _ _))))) | rfl) ?_
  refine r_ifB_ne 45 dX10_readSign_4 (by decide) (fun h4 => ?_) (fun h4 => ?_)
  · refine r_vret dX10_readSign_45 rfl (Nat.le_of_ble_eq_true rfl) (Nat.le_of_ble_eq_true rfl) ?_
    first | omega | (refine ⟨rfl, rfl, rfl, rfl, ?_⟩; rw [if_pos h4]; done) | (refine ⟨rfl, rfl, rfl, rfl, ?_⟩; rw [if_neg (by rw [h4]; decide), h13]; exact PF.of' rfl rfl)
  · refine r_aload_n 0 dX10_readSign_7 rfl rfl ?_
    refine r_aload_n 0 dX10_readSign_8 rfl rfl ?_
    refine r_iload_n 1 dX10_readSign_9 rfl rfl ?_
    refine r_callVp [_] dX10_readSign_10 ok_RX10_60 ivX10_isAt (by assumption) ⟨_, _, rfl⟩ rfl rfl (Nat.le_of_ble_eq_true rfl) (by refine ⟨?_, ?_, ?_, ?_⟩ <;> exact Nat.le_of_ble_eq_true rfl) (m_isAt hL hP hok hi hil hc hc2) ?_
    refine r_ifB_ne 20 dX10_readSign_13 (by decide) (fun h13 => ?_) (fun h13 => ?_)
    · refine r_iconst (v := nI 0) dX10_readSign_20 (by decide) ?_
      refine r_putI dX10_readSign_21 fl_RX10_56 rfl (by first | exact b2_nar _ | decide) (by first | exact b2_fit _ | decide) (by assumption) ?_
      have hb7 := up2_same mi o 7 (nI 1)
      have hb0 := up2_same mi o 7 (nI 0)
      have hi6 : ∀ v, up2 mi o 7 v o 6 = nI i := fun v => by rw [up2_ne _ _ (Or.inr (by omega))]; exact hi
      have hi1 := hi6 (nI 1)
      have hi0 := hi6 (nI 0)
      refine r_aload_n 0 dX10_readSign_24 rfl rfl ?_
      refine r_dup dX10_readSign_25 rfl ?_
      refine r_getV dX10_readSign_26 fl_RX10_49 rfl (by assumption) (by first | assumption | exact up2_same _ _ _ _ | exact (Eq.trans (up2_ne _ _ (by omega)) (by first | assumption | exact up2_same _ _ _ _)) | exact (Eq.trans (up2_ne _ _ (by omega)) (Eq.trans (up2_ne _ _ (by omega)) (by first | assumption | exact up2_same _ _ _ _))) | exact (Eq.trans (up2_ne _ _ (by omega)) (Eq.trans (up2_ne _ _ (by omega)) (Eq.trans (up2_ne _ _ (by omega)) (by first | assumption | exact up2_same _ _ _ _)))) | exact (Eq.trans (up2_ne _ _ (by omega)) (Eq.trans (up2_ne _ _ (by omega)) (Eq.trans (up2_ne _ _ (by omega)) (Eq.trans (up2_ne _ _ (by omega)) (by first | assumption | exact up2_same _ _ _ _))))) | rfl) ?_
      refine r_aload_n 0 dX10_readSign_29 rfl rfl ?_
      refine r_getV dX10_readSign_30 fl_RX10_56 rfl (by assumption) (by first | assumption | exact up2_same _ _ _ _ | exact (Eq.trans (up2_ne _ _ (by omega)) (by first | assumption | exact up2_same _ _ _ _)) | exact (Eq.trans (up2_ne _ _ (by omega)) (Eq.trans (up2_ne _ _ (by omega)) (by first | assumption | exact up2_same _ _ _ _))) | exact (Eq.trans (up2_ne _ _ (by omega)) (Eq.trans (up2_ne _ _ (by omega)) (Eq.trans (up2_ne _ _ (by omega)) (by first | assumption | exact up2_same _ _ _ _)))) | exact (Eq.trans (up2_ne _ _ (by omega)) (Eq.trans (up2_ne _ _ (by omega)) (Eq.trans (up2_ne _ _ (by omega)) (Eq.trans (up2_ne _ _ (by omega)) (by first | assumption | exact up2_same _ _ _ _))))) | rfl) ?_
      refine r_ifN_eq 40 dX10_readSign_33 (by decide) (by omega) (fun h33 => ?_) (fun h33 => ?_)
      · refine r_iconst (v := nI 1) dX10_readSign_40 (by decide) ?_
        refine r_iaddN dX10_readSign_41 ?_
        refine r_putI dX10_readSign_42 fl_RX10_49 rfl rfl rfl (by assumption) ?_
        refine r_vret dX10_readSign_45 rfl (Nat.le_of_ble_eq_true rfl) (Nat.le_of_ble_eq_true rfl) ?_
        first | omega | (refine ⟨rfl, rfl, rfl, rfl, ?_⟩; rw [if_pos h4]; done) | (refine ⟨rfl, rfl, rfl, rfl, ?_⟩; rw [if_neg (by rw [h4]; decide), h13]; exact PF.of' rfl rfl)
      · refine r_iconst (v := nI 0) dX10_readSign_36 (by decide) ?_
        refine r_goto 41 dX10_readSign_37 (by decide) ?_
        refine r_iaddN dX10_readSign_41 ?_
        refine r_putI dX10_readSign_42 fl_RX10_49 rfl rfl rfl (by assumption) ?_
        refine r_vret dX10_readSign_45 rfl (Nat.le_of_ble_eq_true rfl) (Nat.le_of_ble_eq_true rfl) ?_
        first | omega | (refine ⟨rfl, rfl, rfl, rfl, ?_⟩; rw [if_pos h4]; done) | (refine ⟨rfl, rfl, rfl, rfl, ?_⟩; rw [if_neg (by rw [h4]; decide), h13]; exact PF.of' rfl rfl)
    · refine r_iconst (v := nI 1) dX10_readSign_16 (by decide) ?_
      refine r_goto 21 dX10_readSign_17 (by decide) ?_
      refine r_putI dX10_readSign_21 fl_RX10_56 rfl (by first | exact b2_nar _ | decide) (by first | exact b2_fit _ | decide) (by assumption) ?_
      have hb7 := up2_same mi o 7 (nI 1)
      have hb0 := up2_same mi o 7 (nI 0)
      have hi6 : ∀ v, up2 mi o 7 v o 6 = nI i := fun v => by rw [up2_ne _ _ (Or.inr (by omega))]; exact hi
      have hi1 := hi6 (nI 1)
      have hi0 := hi6 (nI 0)
      refine r_aload_n 0 dX10_readSign_24 rfl rfl ?_
      refine r_dup dX10_readSign_25 rfl ?_
      refine r_getV dX10_readSign_26 fl_RX10_49 rfl (by assumption) (by first | assumption | exact up2_same _ _ _ _ | exact (Eq.trans (up2_ne _ _ (by omega)) (by first | assumption | exact up2_same _ _ _ _)) | exact (Eq.trans (up2_ne _ _ (by omega)) (Eq.trans (up2_ne _ _ (by omega)) (by first | assumption | exact up2_same _ _ _ _))) | exact (Eq.trans (up2_ne _ _ (by omega)) (Eq.trans (up2_ne _ _ (by omega)) (Eq.trans (up2_ne _ _ (by omega)) (by first | assumption | exact up2_same _ _ _ _)))) | exact (Eq.trans (up2_ne _ _ (by omega)) (Eq.trans (up2_ne _ _ (by omega)) (Eq.trans (up2_ne _ _ (by omega)) (Eq.trans (up2_ne _ _ (by omega)) (by first | assumption | exact up2_same _ _ _ _))))) | rfl) ?_
      refine r_aload_n 0 dX10_readSign_29 rfl rfl ?_
      refine r_getV dX10_readSign_30 fl_RX10_56 rfl (by assumption) (by first | assumption | exact up2_same _ _ _ _ | exact (Eq.trans (up2_ne _ _ (by omega)) (by first | assumption | exact up2_same _ _ _ _)) | exact (Eq.trans (up2_ne _ _ (by omega)) (Eq.trans (up2_ne _ _ (by omega)) (by first | assumption | exact up2_same _ _ _ _))) | exact (Eq.trans (up2_ne _ _ (by omega)) (Eq.trans (up2_ne _ _ (by omega)) (Eq.trans (up2_ne _ _ (by omega)) (by first | assumption | exact up2_same _ _ _ _)))) | exact (Eq.trans (up2_ne _ _ (by omega)) (Eq.trans (up2_ne _ _ (by omega)) (Eq.trans (up2_ne _ _ (by omega)) (Eq.trans (up2_ne _ _ (by omega)) (by first | assumption | exact up2_same _ _ _ _))))) | rfl) ?_
      refine r_ifN_eq 40 dX10_readSign_33 (by decide) (by omega) (fun h33 => ?_) (fun h33 => ?_)
      · refine r_iconst (v := nI 1) dX10_readSign_40 (by decide) ?_
        refine r_iaddN dX10_readSign_41 ?_
        refine r_putI dX10_readSign_42 fl_RX10_49 rfl rfl rfl (by assumption) ?_
        refine r_vret dX10_readSign_45 rfl (Nat.le_of_ble_eq_true rfl) (Nat.le_of_ble_eq_true rfl) ?_
        first | omega | (refine ⟨rfl, rfl, rfl, rfl, ?_⟩; rw [if_pos h4]; done) | (refine ⟨rfl, rfl, rfl, rfl, ?_⟩; rw [if_neg (by rw [h4]; decide), h13]; exact PF.of' rfl rfl)
      · refine r_iconst (v := nI 0) dX10_readSign_36 (by decide) ?_
        refine r_goto 41 dX10_readSign_37 (by decide) ?_
        refine r_iaddN dX10_readSign_41 ?_
        refine r_putI dX10_readSign_42 fl_RX10_49 rfl rfl rfl (by assumption) ?_
        refine r_vret dX10_readSign_45 rfl (Nat.le_of_ble_eq_true rfl) (Nat.le_of_ble_eq_true rfl) ?_
        first | omega | (refine ⟨rfl, rfl, rfl, rfl, ?_⟩; rw [if_pos h4]; done) | (refine ⟨rfl, rfl, rfl, rfl, ?_⟩; rw [if_neg (by rw [h4]; decide), h13]; exact PF.of' rfl rfl)
end RPAD
