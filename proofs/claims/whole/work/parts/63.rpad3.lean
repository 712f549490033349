section RPAD3
variable {z : Nat} {sh : SH} {mi : MI} {mr : MR} {o : Nat}
def RPm (mi : MI) (o : Nat) (r : Nat ⊕ Pk) (v : Option Value) (m : MI) : Prop := PG mi m o ∧ match r with
  | .inl j => v = some (.int (nI j))
  | .inr p => v = some (.int (-6)) ∧ PkM (m (o + 5)) 0 p
theorem m_readPacket (hL : LM sh mr o) {P : List Nat} (hP : PdM mi o P) (hok : okD P) : Mi mX10_readPacket 4 [.ref o] z sh mi mr (RPm mi o (prs P)) := by
  obtain ⟨l0, -, -, -, ⟨l7, l8⟩, ⟨l9, l10⟩, -⟩ := id hL
  have h40 := hok.1
  generalize hs : lets 65 3 P 0 = s
  have hs3 : s.length ≤ 3 := by rw [← hs]; exact lets_len 65 3 P 0
  have hsl : s.length ≤ P.length := by
    by_cases h : s = []
    · rw [h]; exact Nat.zero_le _
    · rw [← hs] at h ⊢; have := lets_in (by omega : 0 < 65) 3 P 0 h; omega
  have KB : ∀ (m : MI) (j : Nat), PG mi m o → m o 6 = nI j → m o 7 = b2 true → j ≤ P.length → prs P = .inl j → Wp yX10_readPacket cX10_readPacket 2 (some .int) (EI 4 z sh mr (RPm mi o (prs P))) 0 0 119 [.ref o, .int (nI 0)] [] z sh m mr := by
    intro m j hG h6 h7 hj hp
    refine r_aload_n 0 dX10_readPacket_119 rfl rfl ?_
    refine r_bipush (v := nI 58) dX10_readPacket_120 (by decide) ?_
    refine r_callVw [_] dX10_readPacket_122 ok_RX10_67 ivX10_readSign (by assumption) ⟨_, _, rfl⟩ rfl rfl (Nat.le_of_ble_eq_true rfl) (by refine ⟨?_, ?_, ?_, ?_⟩ <;> exact Nat.le_of_ble_eq_true rfl) (m_readSign hL (hP.pg hG) hok h6 h7 hj (by omega) (by omega)) ?_
    intro mA uA
    rw [if_pos rfl] at uA
    subst uA
    refine r_aload_n 0 dX10_readPacket_125 rfl rfl ?_
    refine r_getV dX10_readPacket_126 fl_RX10_56 rfl (by assumption) (by first | assumption | exact up2_same _ _ _ _ | exact (Eq.trans (up2_ne _ _ (by omega)) (by first | assumption | exact up2_same _ _ _ _)) | exact (Eq.trans (up2_ne _ _ (by omega)) (Eq.trans (up2_ne _ _ (by omega)) (by first | assumption | exact up2_same _ _ _ _))) | exact (Eq.trans (up2_ne _ _ (by omega)) (Eq.trans (up2_ne _ _ (by omega)) (Eq.trans (up2_ne _ _ (by omega)) (by first | assumption | exact up2_same _ _ _ _)))) | exact (Eq.trans (up2_ne _ _ (by omega)) (Eq.trans (up2_ne _ _ (by omega)) (Eq.trans (up2_ne _ _ (by omega)) (Eq.trans (up2_ne _ _ (by omega)) (by first | assumption | exact up2_same _ _ _ _))))) | rfl) ?_
    refine r_ifB_ne 145 dX10_readPacket_129 (by decide) (fun h129 => ?_) (fun h129 => ?_)
    · refine r_aload_n 0 dX10_readPacket_145 rfl rfl ?_
      refine r_getV dX10_readPacket_146 fl_RX10_56 rfl (by assumption) (by first | assumption | exact up2_same _ _ _ _ | exact (Eq.trans (up2_ne _ _ (by omega)) (by first | assumption | exact up2_same _ _ _ _)) | exact (Eq.trans (up2_ne _ _ (by omega)) (Eq.trans (up2_ne _ _ (by omega)) (by first | assumption | exact up2_same _ _ _ _))) | exact (Eq.trans (up2_ne _ _ (by omega)) (Eq.trans (up2_ne _ _ (by omega)) (Eq.trans (up2_ne _ _ (by omega)) (by first | assumption | exact up2_same _ _ _ _)))) | exact (Eq.trans (up2_ne _ _ (by omega)) (Eq.trans (up2_ne _ _ (by omega)) (Eq.trans (up2_ne _ _ (by omega)) (Eq.trans (up2_ne _ _ (by omega)) (by first | assumption | exact up2_same _ _ _ _))))) | rfl) ?_
      refine r_ifB_ne 163 dX10_readPacket_149 (by decide) (fun h149 => ?_) (fun h149 => ?_)
      · refine r_aload_n 0 dX10_readPacket_163 rfl rfl ?_
        refine r_getV dX10_readPacket_164 fl_RX10_49 rfl (by assumption) (by first | assumption | exact up2_same _ _ _ _ | exact (Eq.trans (up2_ne _ _ (by omega)) (by first | assumption | exact up2_same _ _ _ _)) | exact (Eq.trans (up2_ne _ _ (by omega)) (Eq.trans (up2_ne _ _ (by omega)) (by first | assumption | exact up2_same _ _ _ _))) | exact (Eq.trans (up2_ne _ _ (by omega)) (Eq.trans (up2_ne _ _ (by omega)) (Eq.trans (up2_ne _ _ (by omega)) (by first | assumption | exact up2_same _ _ _ _)))) | exact (Eq.trans (up2_ne _ _ (by omega)) (Eq.trans (up2_ne _ _ (by omega)) (Eq.trans (up2_ne _ _ (by omega)) (Eq.trans (up2_ne _ _ (by omega)) (by first | assumption | exact up2_same _ _ _ _))))) | rfl) ?_
        refine r_goto 172 dX10_readPacket_167 (by decide) ?_
        refine r_iret dX10_readPacket_172 rfl (Nat.le_of_ble_eq_true rfl) (Nat.le_of_ble_eq_true rfl) ?_
        refine ⟨rfl, rfl, rfl, hG, ?_⟩
        rw [hp]
      · exact absurd h149 (by decide)
    · exact absurd h129 (by decide)
  have KO : ∀ (m : MI) (j : Nat) (ws : List Wd), PG mi m o → m o 6 = nI j → m o 7 = b2 false → j ≤ P.length → m (o + 5) 0 = nI (en 27 s) → m (o + 5) 2 = nI ws.length → (∀ i w, ws[i]? = some w → m (o + 5) (3 + i) = nI (wc 27 w)) → (sg P j ≠ 58 → prs P = .inl j) → (sg P j = 58 → rdX P (s.length + 1) = (some ws, j) ∧ s ≠ [] ∧ sg P s.length = 62) → Wp yX10_readPacket cX10_readPacket 2 (some .int) (EI 4 z sh mr (RPm mi o (prs P))) 0 0 119 [.ref o, .int (nI 0)] [] z sh m mr := by
    intro m j ws hG h6 h7 hj hs0 hw2 hw hn hy
    have hPm := hP.pg hG
    by_cases h58 : sg P j = 58
    · obtain ⟨hX, hsn, h62⟩ := hy h58
      have hjl := sg_pos (P := P) (i := j) (by omega)
      have ht4 := lets_len 97 4 P (j + 1)
      have hprs : prs P = if lets 97 4 P (j + 1) = [] ∨ j + 1 + (lets 97 4 P (j + 1)).length < P.length then .inl (j + 1 + (lets 97 4 P (j + 1)).length) else .inr (s, lets 97 4 P (j + 1), ws) := by
        unfold prs
        unfold rdX at hX
        simp only [hs]
        rw [if_neg hsn, if_neg (by omega), hX]
        show (if sg P j ≠ 58 then _ else _) = _
        rw [if_neg (by omega)]
      generalize ht : lets 97 4 P (j + 1) = t at *
      have htl : t ≠ [] → j + 1 + t.length ≤ P.length := fun h => by rw [← ht] at h ⊢; exact lets_in (by omega : 0 < 97) 4 P (j + 1) h
      refine r_aload_n 0 dX10_readPacket_119 rfl rfl ?_
      refine r_bipush (v := nI 58) dX10_readPacket_120 (by decide) ?_
      refine r_callVw [_] dX10_readPacket_122 ok_RX10_67 ivX10_readSign (by assumption) ⟨_, _, rfl⟩ rfl rfl (Nat.le_of_ble_eq_true rfl) (by refine ⟨?_, ?_, ?_, ?_⟩ <;> exact Nat.le_of_ble_eq_true rfl) (m_readSign hL hPm hok h6 h7 hj (by omega) (by omega)) ?_
      intro mA uA
      rw [if_neg (by decide), h58] at uA
      have uA6 : mA o 6 = nI (j + 1) := uA.1
      have uA7 : mA o 7 = b2 false := uA.2.1
      have uAG := hG.tr uA.pg
      have uA4 := (hP.pg uAG).1
      refine r_aload_n 0 dX10_readPacket_125 rfl rfl ?_
      refine r_getV dX10_readPacket_126 fl_RX10_56 rfl (by assumption) (by first | assumption | exact up2_same _ _ _ _ | exact (Eq.trans (up2_ne _ _ (by omega)) (by first | assumption | exact up2_same _ _ _ _)) | exact (Eq.trans (up2_ne _ _ (by omega)) (Eq.trans (up2_ne _ _ (by omega)) (by first | assumption | exact up2_same _ _ _ _))) | exact (Eq.trans (up2_ne _ _ (by omega)) (Eq.trans (up2_ne _ _ (by omega)) (Eq.trans (up2_ne _ _ (by omega)) (by first | assumption | exact up2_same _ _ _ _)))) | exact (Eq.trans (up2_ne _ _ (by omega)) (Eq.trans (up2_ne _ _ (by omega)) (Eq.trans (up2_ne _ _ (by omega)) (Eq.trans (up2_ne _ _ (by omega)) (by first | assumption | exact up2_same _ _ _ _))))) | rfl) ?_
      refine r_ifB_ne 145 dX10_readPacket_129 (by decide) (fun h129 => ?_) (fun h129 => ?_)
      · refine r_aload_n 0 dX10_readPacket_145 rfl rfl ?_
        refine r_getV dX10_readPacket_146 fl_RX10_56 rfl (by assumption) (by first | assumption | exact up2_same _ _ _ _ | exact (Eq.trans (up2_ne _ _ (by omega)) (by first | assumption | exact up2_same _ _ _ _)) | exact (Eq.trans (up2_ne _ _ (by omega)) (Eq.trans (up2_ne _ _ (by omega)) (by first | assumption | exact up2_same _ _ _ _))) | exact (Eq.trans (up2_ne _ _ (by omega)) (Eq.trans (up2_ne _ _ (by omega)) (Eq.trans (up2_ne _ _ (by omega)) (by first | assumption | exact up2_same _ _ _ _)))) | exact (Eq.trans (up2_ne _ _ (by omega)) (Eq.trans (up2_ne _ _ (by omega)) (Eq.trans (up2_ne _ _ (by omega)) (Eq.trans (up2_ne _ _ (by omega)) (by first | assumption | exact up2_same _ _ _ _))))) | rfl) ?_
        refine r_ifB_ne 163 dX10_readPacket_149 (by decide) (fun h149 => ?_) (fun h149 => ?_)
        · refine r_aload_n 0 dX10_readPacket_163 rfl rfl ?_
          refine r_getV dX10_readPacket_164 fl_RX10_49 rfl (by assumption) (by first | assumption | exact up2_same _ _ _ _ | exact (Eq.trans (up2_ne _ _ (by omega)) (by first | assumption | exact up2_same _ _ _ _)) | exact (Eq.trans (up2_ne _ _ (by omega)) (Eq.trans (up2_ne _ _ (by omega)) (by first | assumption | exact up2_same _ _ _ _))) | exact (Eq.trans (up2_ne _ _ (by omega)) (Eq.trans (up2_ne _ _ (by omega)) (Eq.trans (up2_ne _ _ (by omega)) (by first | assumption | exact up2_same _ _ _ _)))) | exact (Eq.trans (up2_ne _ _ (by omega)) (Eq.trans (up2_ne _ _ (by omega)) (Eq.trans (up2_ne _ _ (by omega)) (Eq.trans (up2_ne _ _ (by omega)) (by first | assumption | exact up2_same _ _ _ _))))) | rfl) ?_
          refine r_goto 172 dX10_readPacket_167 (by decide) ?_
          refine r_iret dX10_readPacket_172 rfl (Nat.le_of_ble_eq_true rfl) (Nat.le_of_ble_eq_true rfl) ?_
          first | exact absurd h129 (by decide) | (have h149' : t = [] := (by simpa using h149); refine ⟨rfl, rfl, rfl, uBG, ?_⟩; rw [hprs, if_pos (Or.inl h149')]) | (refine ⟨rfl, rfl, rfl, uBG, ?_⟩; rw [hprs, if_pos (Or.inr h160)]) | (have htn : t ≠ [] := (by simpa using h149); refine ⟨rfl, rfl, rfl, uBG, ?_⟩; rw [hprs, if_neg (by rintro (h | h); (exact htn h); omega)]; have e0 : up2 mB (o + 5) 1 (nI (en 27 t)) (o + 5) = upd (m (o + 5)) 1 (nI (en 27 t)) := (by rw [up2_upd, uB.2.2.1 (o + 5) (by omega), uA.2.2.1 (o + 5) (by omega)]); refine ⟨rfl, ?_⟩; rw [e0]; refine ⟨by simpa [upd] using hs0, by simp [upd], by simpa [upd] using hw2, fun i w hi => ?_⟩; have := hw i w hi; simpa [upd, show ¬ 3 + i = 1 by omega] using this)
        · refine r_aload_n 0 dX10_readPacket_152 rfl rfl ?_
          refine r_getV dX10_readPacket_153 fl_RX10_49 rfl (by assumption) (by first | assumption | exact up2_same _ _ _ _ | exact (Eq.trans (up2_ne _ _ (by omega)) (by first | assumption | exact up2_same _ _ _ _)) | exact (Eq.trans (up2_ne _ _ (by omega)) (Eq.trans (up2_ne _ _ (by omega)) (by first | assumption | exact up2_same _ _ _ _))) | exact (Eq.trans (up2_ne _ _ (by omega)) (Eq.trans (up2_ne _ _ (by omega)) (Eq.trans (up2_ne _ _ (by omega)) (by first | assumption | exact up2_same _ _ _ _)))) | exact (Eq.trans (up2_ne _ _ (by omega)) (Eq.trans (up2_ne _ _ (by omega)) (Eq.trans (up2_ne _ _ (by omega)) (Eq.trans (up2_ne _ _ (by omega)) (by first | assumption | exact up2_same _ _ _ _))))) | rfl) ?_
          refine r_aload_n 0 dX10_readPacket_156 rfl rfl ?_
          refine r_getV dX10_readPacket_157 fl_RX10_45 rfl (by assumption) (by first | assumption | exact up2_same _ _ _ _ | exact (Eq.trans (up2_ne _ _ (by omega)) (by first | assumption | exact up2_same _ _ _ _)) | exact (Eq.trans (up2_ne _ _ (by omega)) (Eq.trans (up2_ne _ _ (by omega)) (by first | assumption | exact up2_same _ _ _ _))) | exact (Eq.trans (up2_ne _ _ (by omega)) (Eq.trans (up2_ne _ _ (by omega)) (Eq.trans (up2_ne _ _ (by omega)) (by first | assumption | exact up2_same _ _ _ _)))) | exact (Eq.trans (up2_ne _ _ (by omega)) (Eq.trans (up2_ne _ _ (by omega)) (Eq.trans (up2_ne _ _ (by omega)) (Eq.trans (up2_ne _ _ (by omega)) (by first | assumption | exact up2_same _ _ _ _))))) | rfl) ?_
          refine r_icmpN_ge 170 dX10_readPacket_160 (by decide) (by omega) (by omega) (fun h160 => ?_) (fun h160 => ?_)
          · refine r_bipush (v := -6) dX10_readPacket_170 (by decide) ?_
            refine r_iret dX10_readPacket_172 rfl (Nat.le_of_ble_eq_true rfl) (Nat.le_of_ble_eq_true rfl) ?_
            first | exact absurd h129 (by decide) | (have h149' : t = [] := (by simpa using h149); refine ⟨rfl, rfl, rfl, uBG, ?_⟩; rw [hprs, if_pos (Or.inl h149')]) | (refine ⟨rfl, rfl, rfl, uBG, ?_⟩; rw [hprs, if_pos (Or.inr h160)]) | (have htn : t ≠ [] := (by simpa using h149); refine ⟨rfl, rfl, rfl, uBG, ?_⟩; rw [hprs, if_neg (by rintro (h | h); (exact htn h); omega)]; have e0 : up2 mB (o + 5) 1 (nI (en 27 t)) (o + 5) = upd (m (o + 5)) 1 (nI (en 27 t)) := (by rw [up2_upd, uB.2.2.1 (o + 5) (by omega), uA.2.2.1 (o + 5) (by omega)]); refine ⟨rfl, ?_⟩; rw [e0]; refine ⟨by simpa [upd] using hs0, by simp [upd], by simpa [upd] using hw2, fun i w hi => ?_⟩; have := hw i w hi; simpa [upd, show ¬ 3 + i = 1 by omega] using this)
          · refine r_aload_n 0 dX10_readPacket_163 rfl rfl ?_
            refine r_getV dX10_readPacket_164 fl_RX10_49 rfl (by assumption) (by first | assumption | exact up2_same _ _ _ _ | exact (Eq.trans (up2_ne _ _ (by omega)) (by first | assumption | exact up2_same _ _ _ _)) | exact (Eq.trans (up2_ne _ _ (by omega)) (Eq.trans (up2_ne _ _ (by omega)) (by first | assumption | exact up2_same _ _ _ _))) | exact (Eq.trans (up2_ne _ _ (by omega)) (Eq.trans (up2_ne _ _ (by omega)) (Eq.trans (up2_ne _ _ (by omega)) (by first | assumption | exact up2_same _ _ _ _)))) | exact (Eq.trans (up2_ne _ _ (by omega)) (Eq.trans (up2_ne _ _ (by omega)) (Eq.trans (up2_ne _ _ (by omega)) (Eq.trans (up2_ne _ _ (by omega)) (by first | assumption | exact up2_same _ _ _ _))))) | rfl) ?_
            refine r_goto 172 dX10_readPacket_167 (by decide) ?_
            refine r_iret dX10_readPacket_172 rfl (Nat.le_of_ble_eq_true rfl) (Nat.le_of_ble_eq_true rfl) ?_
            first | exact absurd h129 (by decide) | (have h149' : t = [] := (by simpa using h149); refine ⟨rfl, rfl, rfl, uBG, ?_⟩; rw [hprs, if_pos (Or.inl h149')]) | (refine ⟨rfl, rfl, rfl, uBG, ?_⟩; rw [hprs, if_pos (Or.inr h160)]) | (have htn : t ≠ [] := (by simpa using h149); refine ⟨rfl, rfl, rfl, uBG, ?_⟩; rw [hprs, if_neg (by rintro (h | h); (exact htn h); omega)]; have e0 : up2 mB (o + 5) 1 (nI (en 27 t)) (o + 5) = upd (m (o + 5)) 1 (nI (en 27 t)) := (by rw [up2_upd, uB.2.2.1 (o + 5) (by omega), uA.2.2.1 (o + 5) (by omega)]); refine ⟨rfl, ?_⟩; rw [e0]; refine ⟨by simpa [upd] using hs0, by simp [upd], by simpa [upd] using hw2, fun i w hi => ?_⟩; have := hw i w hi; simpa [upd, show ¬ 3 + i = 1 by omega] using this)
      · refine r_aload_n 0 dX10_readPacket_132 rfl rfl ?_
        refine r_getR dX10_readPacket_133 fl_RX10_23 rfl (by assumption) (by assumption) ?_
        refine r_iconst (v := nI 1) dX10_readPacket_136 (by decide) ?_
        refine r_aload_n 0 dX10_readPacket_137 rfl rfl ?_
        refine r_bipush (v := nI 97) dX10_readPacket_138 (by decide) ?_
        refine r_iconst (v := nI 4) dX10_readPacket_140 (by decide) ?_
        refine r_callVx [_, _] dX10_readPacket_141 ok_RX10_63 ivX10_readLetters (by assumption) ⟨_, _, rfl⟩ rfl rfl (Nat.le_of_ble_eq_true rfl) (by refine ⟨?_, ?_, ?_, ?_⟩ <;> exact Nat.le_of_ble_eq_true rfl) (m_readLetters hL (hP.pg uAG) hok uA6 uA7 (by omega) (by omega) (by omega) (by omega)) ?_
        intro mB uB
        rw [ht] at uB ⊢
        have uBG := (uAG.tr uB.pg).own (k := 1) (v := nI (en 27 t))
        have uB6 : up2 mB (o + 5) 1 (nI (en 27 t)) o 6 = nI (j + 1 + t.length) := by rw [up2_row _ _ (by omega)]; exact uB.1
        have uB7 : up2 mB (o + 5) 1 (nI (en 27 t)) o 7 = b2 (false || decide (t = [])) := by rw [up2_row _ _ (by omega)]; exact uB.2.1
        have uB4 := (hP.pg uBG).1
        refine r_iast dX10_readPacket_144 (by assumption) (by omega) (by omega) ?_
        refine r_aload_n 0 dX10_readPacket_145 rfl rfl ?_
        refine r_getV dX10_readPacket_146 fl_RX10_56 rfl (by assumption) (by first | assumption | exact up2_same _ _ _ _ | exact (Eq.trans (up2_ne _ _ (by omega)) (by first | assumption | exact up2_same _ _ _ _)) | exact (Eq.trans (up2_ne _ _ (by omega)) (Eq.trans (up2_ne _ _ (by omega)) (by first | assumption | exact up2_same _ _ _ _))) | exact (Eq.trans (up2_ne _ _ (by omega)) (Eq.trans (up2_ne _ _ (by omega)) (Eq.trans (up2_ne _ _ (by omega)) (by first | assumption | exact up2_same _ _ _ _)))) | exact (Eq.trans (up2_ne _ _ (by omega)) (Eq.trans (up2_ne _ _ (by omega)) (Eq.trans (up2_ne _ _ (by omega)) (Eq.trans (up2_ne _ _ (by omega)) (by first | assumption | exact up2_same _ _ _ _))))) | rfl) ?_
        refine r_ifB_ne 163 dX10_readPacket_149 (by decide) (fun h149 => ?_) (fun h149 => ?_)
        · refine r_aload_n 0 dX10_readPacket_163 rfl rfl ?_
          refine r_getV dX10_readPacket_164 fl_RX10_49 rfl (by assumption) (by first | assumption | exact up2_same _ _ _ _ | exact (Eq.trans (up2_ne _ _ (by omega)) (by first | assumption | exact up2_same _ _ _ _)) | exact (Eq.trans (up2_ne _ _ (by omega)) (Eq.trans (up2_ne _ _ (by omega)) (by first | assumption | exact up2_same _ _ _ _))) | exact (Eq.trans (up2_ne _ _ (by omega)) (Eq.trans (up2_ne _ _ (by omega)) (Eq.trans (up2_ne _ _ (by omega)) (by first | assumption | exact up2_same _ _ _ _)))) | exact (Eq.trans (up2_ne _ _ (by omega)) (Eq.trans (up2_ne _ _ (by omega)) (Eq.trans (up2_ne _ _ (by omega)) (Eq.trans (up2_ne _ _ (by omega)) (by first | assumption | exact up2_same _ _ _ _))))) | rfl) ?_
          refine r_goto 172 dX10_readPacket_167 (by decide) ?_
          refine r_iret dX10_readPacket_172 rfl (Nat.le_of_ble_eq_true rfl) (Nat.le_of_ble_eq_true rfl) ?_
          first | exact absurd h129 (by decide) | (have h149' : t = [] := (by simpa using h149); refine ⟨rfl, rfl, rfl, uBG, ?_⟩; rw [hprs, if_pos (Or.inl h149')]) | (refine ⟨rfl, rfl, rfl, uBG, ?_⟩; rw [hprs, if_pos (Or.inr h160)]) | (have htn : t ≠ [] := (by simpa using h149); refine ⟨rfl, rfl, rfl, uBG, ?_⟩; rw [hprs, if_neg (by rintro (h | h); (exact htn h); omega)]; have e0 : up2 mB (o + 5) 1 (nI (en 27 t)) (o + 5) = upd (m (o + 5)) 1 (nI (en 27 t)) := (by rw [up2_upd, uB.2.2.1 (o + 5) (by omega), uA.2.2.1 (o + 5) (by omega)]); refine ⟨rfl, ?_⟩; rw [e0]; refine ⟨by simpa [upd] using hs0, by simp [upd], by simpa [upd] using hw2, fun i w hi => ?_⟩; have := hw i w hi; simpa [upd, show ¬ 3 + i = 1 by omega] using this)
        · refine r_aload_n 0 dX10_readPacket_152 rfl rfl ?_
          refine r_getV dX10_readPacket_153 fl_RX10_49 rfl (by assumption) (by first | assumption | exact up2_same _ _ _ _ | exact (Eq.trans (up2_ne _ _ (by omega)) (by first | assumption | exact up2_same _ _ _ _)) | exact (Eq.trans (up2_ne _ _ (by omega)) (Eq.trans (up2_ne _ _ (by omega)) (by first | assumption | exact up2_same _ _ _ _))) | exact (Eq.trans (up2_ne _ _ (by omega)) (Eq.trans (up2_ne _ _ (by omega)) (Eq.trans (up2_ne _ _ (by omega)) (by first | assumption | exact up2_same _ _ _ _)))) | exact (Eq.trans (up2_ne _ _ (by omega)) (Eq.trans (up2_ne _ _ (by omega)) (Eq.trans (up2_ne _ _ (by omega)) (Eq.trans (up2_ne _ _ (by omega)) (by first | assumption | exact up2_same _ _ _ _))))) | rfl) ?_
          refine r_aload_n 0 dX10_readPacket_156 rfl rfl ?_
          refine r_getV dX10_readPacket_157 fl_RX10_45 rfl (by assumption) (by first | assumption | exact up2_same _ _ _ _ | exact (Eq.trans (up2_ne _ _ (by omega)) (by first | assumption | exact up2_same _ _ _ _)) | exact (Eq.trans (up2_ne _ _ (by omega)) (Eq.trans (up2_ne _ _ (by omega)) (by first | assumption | exact up2_same _ _ _ _))) | exact (Eq.trans (up2_ne _ _ (by omega)) (Eq.trans (up2_ne _ _ (by omega)) (Eq.trans (up2_ne _ _ (by omega)) (by first | assumption | exact up2_same _ _ _ _)))) | exact (Eq.trans (up2_ne _ _ (by omega)) (Eq.trans (up2_ne _ _ (by omega)) (Eq.trans (up2_ne _ _ (by omega)) (Eq.trans (up2_ne _ _ (by omega)) (by first | assumption | exact up2_same _ _ _ _))))) | rfl) ?_
          refine r_icmpN_ge 170 dX10_readPacket_160 (by decide) (by omega) (by omega) (fun h160 => ?_) (fun h160 => ?_)
          · refine r_bipush (v := -6) dX10_readPacket_170 (by decide) ?_
            refine r_iret dX10_readPacket_172 rfl (Nat.le_of_ble_eq_true rfl) (Nat.le_of_ble_eq_true rfl) ?_
            first | exact absurd h129 (by decide) | (have h149' : t = [] := (by simpa using h149); refine ⟨rfl, rfl, rfl, uBG, ?_⟩; rw [hprs, if_pos (Or.inl h149')]) | (refine ⟨rfl, rfl, rfl, uBG, ?_⟩; rw [hprs, if_pos (Or.inr h160)]) | (have htn : t ≠ [] := (by simpa using h149); refine ⟨rfl, rfl, rfl, uBG, ?_⟩; rw [hprs, if_neg (by rintro (h | h); (exact htn h); omega)]; have e0 : up2 mB (o + 5) 1 (nI (en 27 t)) (o + 5) = upd (m (o + 5)) 1 (nI (en 27 t)) := (by rw [up2_upd, uB.2.2.1 (o + 5) (by omega), uA.2.2.1 (o + 5) (by omega)]); refine ⟨rfl, ?_⟩; rw [e0]; refine ⟨by simpa [upd] using hs0, by simp [upd], by simpa [upd] using hw2, fun i w hi => ?_⟩; have := hw i w hi; simpa [upd, show ¬ 3 + i = 1 by omega] using this)
          · refine r_aload_n 0 dX10_readPacket_163 rfl rfl ?_
            refine r_getV dX10_readPacket_164 fl_RX10_49 rfl (by assumption) (by first | assumption | exact up2_same _ _ _ _ | exact (Eq.trans (up2_ne _ _ (by omega)) (by first | assumption | exact up2_same _ _ _ _)) | exact (Eq.trans (up2_ne _ _ (by omega)) (Eq.trans (up2_ne _ _ (by omega)) (by first | assumption | exact up2_same _ _ _ _))) | exact (Eq.trans (up2_ne _ _ (by omega)) (Eq.trans (up2_ne _ _ (by omega)) (Eq.trans (up2_ne _ _ (by omega)) (by first | assumption | exact up2_same _ _ _ _)))) | exact (Eq.trans (up2_ne _ _ (by omega)) (Eq.trans (up2_ne _ _ (by omega)) (Eq.trans (up2_ne _ _ (by omega)) (Eq.trans (up2_ne _ _ (by omega)) (by first | assumption | exact up2_same _ _ _ _))))) | rfl) ?_
            refine r_goto 172 dX10_readPacket_167 (by decide) ?_
            refine r_iret dX10_readPacket_172 rfl (Nat.le_of_ble_eq_true rfl) (Nat.le_of_ble_eq_true rfl) ?_
            first | exact absurd h129 (by decide) | (have h149' : t = [] := (by simpa using h149); refine ⟨rfl, rfl, rfl, uBG, ?_⟩; rw [hprs, if_pos (Or.inl h149')]) | (refine ⟨rfl, rfl, rfl, uBG, ?_⟩; rw [hprs, if_pos (Or.inr h160)]) | (have htn : t ≠ [] := (by simpa using h149); refine ⟨rfl, rfl, rfl, uBG, ?_⟩; rw [hprs, if_neg (by rintro (h | h); (exact htn h); omega)]; have e0 : up2 mB (o + 5) 1 (nI (en 27 t)) (o + 5) = upd (m (o + 5)) 1 (nI (en 27 t)) := (by rw [up2_upd, uB.2.2.1 (o + 5) (by omega), uA.2.2.1 (o + 5) (by omega)]); refine ⟨rfl, ?_⟩; rw [e0]; refine ⟨by simpa [upd] using hs0, by simp [upd], by simpa [upd] using hw2, fun i w hi => ?_⟩; have := hw i w hi; simpa [upd, show ¬ 3 + i = 1 by omega] using this)
    · have hp := hn h58
      refine r_aload_n 0 dX10_readPacket_119 rfl rfl ?_
      refine r_bipush (v := nI 58) dX10_readPacket_120 (by decide) ?_
      refine r_callVw [_] dX10_readPacket_122 ok_RX10_67 ivX10_readSign (by assumption) ⟨_, _, rfl⟩ rfl rfl (Nat.le_of_ble_eq_true rfl) (by refine ⟨?_, ?_, ?_, ?_⟩ <;> exact Nat.le_of_ble_eq_true rfl) (m_readSign hL hPm hok h6 h7 hj (by omega) (by omega)) ?_
      intro mA uA
      rw [if_neg (by decide), show decide (sg P j = 58) = false by simp [h58]] at uA
      have uA6 : mA o 6 = nI j := uA.1
      have uA7 : mA o 7 = b2 true := uA.2.1
      have uAG := hG.tr uA.pg
      refine r_aload_n 0 dX10_readPacket_125 rfl rfl ?_
      refine r_getV dX10_readPacket_126 fl_RX10_56 rfl (by assumption) (by first | assumption | exact up2_same _ _ _ _ | exact (Eq.trans (up2_ne _ _ (by omega)) (by first | assumption | exact up2_same _ _ _ _)) | exact (Eq.trans (up2_ne _ _ (by omega)) (Eq.trans (up2_ne _ _ (by omega)) (by first | assumption | exact up2_same _ _ _ _))) | exact (Eq.trans (up2_ne _ _ (by omega)) (Eq.trans (up2_ne _ _ (by omega)) (Eq.trans (up2_ne _ _ (by omega)) (by first | assumption | exact up2_same _ _ _ _)))) | exact (Eq.trans (up2_ne _ _ (by omega)) (Eq.trans (up2_ne _ _ (by omega)) (Eq.trans (up2_ne _ _ (by omega)) (Eq.trans (up2_ne _ _ (by omega)) (by first | assumption | exact up2_same _ _ _ _))))) | rfl) ?_
      refine r_ifB_ne 145 dX10_readPacket_129 (by decide) (fun h129 => ?_) (fun h129 => ?_)
      · refine r_aload_n 0 dX10_readPacket_145 rfl rfl ?_
        refine r_getV dX10_readPacket_146 fl_RX10_56 rfl (by assumption) (by first | assumption | exact up2_same _ _ _ _ | exact (Eq.trans (up2_ne _ _ (by omega)) (by first | assumption | exact up2_same _ _ _ _)) | exact (Eq.trans (up2_ne _ _ (by omega)) (Eq.trans (up2_ne _ _ (by omega)) (by first | assumption | exact up2_same _ _ _ _))) | exact (Eq.trans (up2_ne _ _ (by omega)) (Eq.trans (up2_ne _ _ (by omega)) (Eq.trans (up2_ne _ _ (by omega)) (by first | assumption | exact up2_same _ _ _ _)))) | exact (Eq.trans (up2_ne _ _ (by omega)) (Eq.trans (up2_ne _ _ (by omega)) (Eq.trans (up2_ne _ _ (by omega)) (Eq.trans (up2_ne _ _ (by omega)) (by first | assumption | exact up2_same _ _ _ _))))) | rfl) ?_
        refine r_ifB_ne 163 dX10_readPacket_149 (by decide) (fun h149 => ?_) (fun h149 => ?_)
        · refine r_aload_n 0 dX10_readPacket_163 rfl rfl ?_
          refine r_getV dX10_readPacket_164 fl_RX10_49 rfl (by assumption) (by first | assumption | exact up2_same _ _ _ _ | exact (Eq.trans (up2_ne _ _ (by omega)) (by first | assumption | exact up2_same _ _ _ _)) | exact (Eq.trans (up2_ne _ _ (by omega)) (Eq.trans (up2_ne _ _ (by omega)) (by first | assumption | exact up2_same _ _ _ _))) | exact (Eq.trans (up2_ne _ _ (by omega)) (Eq.trans (up2_ne _ _ (by omega)) (Eq.trans (up2_ne _ _ (by omega)) (by first | assumption | exact up2_same _ _ _ _)))) | exact (Eq.trans (up2_ne _ _ (by omega)) (Eq.trans (up2_ne _ _ (by omega)) (Eq.trans (up2_ne _ _ (by omega)) (Eq.trans (up2_ne _ _ (by omega)) (by first | assumption | exact up2_same _ _ _ _))))) | rfl) ?_
          refine r_goto 172 dX10_readPacket_167 (by decide) ?_
          refine r_iret dX10_readPacket_172 rfl (Nat.le_of_ble_eq_true rfl) (Nat.le_of_ble_eq_true rfl) ?_
          refine ⟨rfl, rfl, rfl, uAG, ?_⟩
          rw [hp]
        · exact absurd h149 (by decide)
      · exact absurd h129 (by decide)
  have ZB : ∀ (m : MI) (j : Nat), PG mi m o → m o 6 = nI j → m o 7 = b2 true → j ≤ P.length → prs P = .inl j → Wp yX10_readPacket cX10_readPacket 2 (some .int) (EI 4 z sh mr (RPm mi o (prs P))) 0 0 58 [.ref o, .int (nI 0)] [] z sh m mr := by
    intro m j hG h6 h7 hj hp
    refine r_iload_n 1 dX10_readPacket_58 rfl rfl ?_
    refine r_ifN_eq 119 dX10_readPacket_59 (by decide) (by omega) (fun h59 => ?_) (fun h59 => ?_)
    · exact KB m j hG h6 h7 hj hp
    · omega
  have ZO : ∀ (m : MI) (j : Nat) (ws : List Wd), PG mi m o → m o 6 = nI j → m o 7 = b2 false → j ≤ P.length → m (o + 5) 0 = nI (en 27 s) → m (o + 5) 2 = nI ws.length → (∀ i w, ws[i]? = some w → m (o + 5) (3 + i) = nI (wc 27 w)) → (sg P j ≠ 58 → prs P = .inl j) → (sg P j = 58 → rdX P (s.length + 1) = (some ws, j) ∧ s ≠ [] ∧ sg P s.length = 62) → Wp yX10_readPacket cX10_readPacket 2 (some .int) (EI 4 z sh mr (RPm mi o (prs P))) 0 0 58 [.ref o, .int (nI 0)] [] z sh m mr := by
    intro m j ws hG h6 h7 hj hs0 hw2 hw hn hy
    refine r_iload_n 1 dX10_readPacket_58 rfl rfl ?_
    refine r_ifN_eq 119 dX10_readPacket_59 (by decide) (by omega) (fun h59 => ?_) (fun h59 => ?_)
    · exact KO m j ws hG h6 h7 hj hs0 hw2 hw hn hy
    · omega
  have H : ∀ (t c q : Nat) (ws0 : List Wd) (m : MI), c + (t + 1) = 5 → ws0.length = c → q ≤ P.length → PG mi m o → m o 6 = nI q → m o 7 = b2 false → m (o + 5) 0 = nI (en 27 s) → m (o + 5) 2 = nI c → (∀ i w, ws0[i]? = some w → m (o + 5) (3 + i) = nI (wc 27 w)) → s ≠ [] → sg P s.length = 62 → rdX P (s.length + 1) = ((rdWs (t + 1) P q).1.map (fun ws => ws0 ++ ws), (rdWs (t + 1) P q).2) → Wp yX10_readPacket cX10_readPacket 2 (some .int) (EI 4 z sh mr (RPm mi o (prs P))) 0 0 58 [.ref o, .int (nI 1)] [] z sh m mr := by
    intro t
    induction t with
    | zero =>
      intro c q ws0 m hc hl hq hG h6 h7 hs0 hw2 hw hsn h62 hX
      have hle := rdW_le (P := P) hq
      have hPm := hP.pg hG
      cases hr : rdW P q with
      | mk r j =>
        rw [hr] at hle
        have hle : j ≤ P.length := hle
        cases r with
        | none =>
          have hX2 : prs P = .inl j := by
            have hX3 : rdX P (s.length + 1) = (none, j) := by rw [hX]; simp [rdWs, hr]
            unfold prs
            unfold rdX at hX3
            simp only [hs]
            rw [if_neg hsn, if_neg (by omega), hX3]
          refine r_iload_n 1 dX10_readPacket_58 rfl rfl ?_
          refine r_ifN_eq 119 dX10_readPacket_59 (by decide) (by omega) (fun h59 => ?_) (fun h59 => ?_)
          · omega
          · refine r_aload_n 0 dX10_readPacket_62 rfl rfl ?_
            refine r_callVw [] dX10_readPacket_63 ok_RX10_71 ivX10_readWord (by assumption) ⟨_, _, rfl⟩ rfl rfl (Nat.le_of_ble_eq_true rfl) (by refine ⟨?_, ?_, ?_, ?_⟩ <;> exact Nat.le_of_ble_eq_true rfl) (m_readWord hL hPm hok h6 h7 hq hw2 (by omega)) ?_
            intro mA ⟨uA, uA6, uA7, uA2, uAo, uAw⟩
            rw [hr] at uA6 uA7 uAw
            have uAG := hG.tr uA
            have uA6' : mA o 6 = nI j := uA6
            have uA7x : mA o 7 = b2 true := uA7
            refine r_aload_n 0 dX10_readPacket_66 rfl rfl ?_
            refine r_getV dX10_readPacket_67 fl_RX10_56 rfl (by assumption) (by first | assumption | exact up2_same _ _ _ _ | exact (Eq.trans (up2_ne _ _ (by omega)) (by first | assumption | exact up2_same _ _ _ _)) | exact (Eq.trans (up2_ne _ _ (by omega)) (Eq.trans (up2_ne _ _ (by omega)) (by first | assumption | exact up2_same _ _ _ _))) | exact (Eq.trans (up2_ne _ _ (by omega)) (Eq.trans (up2_ne _ _ (by omega)) (Eq.trans (up2_ne _ _ (by omega)) (by first | assumption | exact up2_same _ _ _ _)))) | exact (Eq.trans (up2_ne _ _ (by omega)) (Eq.trans (up2_ne _ _ (by omega)) (Eq.trans (up2_ne _ _ (by omega)) (Eq.trans (up2_ne _ _ (by omega)) (by first | assumption | exact up2_same _ _ _ _))))) | rfl) ?_
            refine r_ifB_ne 96 dX10_readPacket_70 (by decide) (fun h70 => ?_) (fun h70 => ?_)
            · refine r_iconst (v := nI 0) dX10_readPacket_96 (by decide) ?_
              refine r_istore_n 1 (ls2 := [_, _]) dX10_readPacket_97 rfl (by decide) (Nat.le_of_ble_eq_true rfl) rfl ?_
              refine r_aload_n 0 dX10_readPacket_98 rfl rfl ?_
              refine r_dup dX10_readPacket_99 rfl ?_
              refine r_getV dX10_readPacket_100 fl_RX10_49 rfl (by assumption) (by first | assumption | exact up2_same _ _ _ _ | exact (Eq.trans (up2_ne _ _ (by omega)) (by first | assumption | exact up2_same _ _ _ _)) | exact (Eq.trans (up2_ne _ _ (by omega)) (Eq.trans (up2_ne _ _ (by omega)) (by first | assumption | exact up2_same _ _ _ _))) | exact (Eq.trans (up2_ne _ _ (by omega)) (Eq.trans (up2_ne _ _ (by omega)) (Eq.trans (up2_ne _ _ (by omega)) (by first | assumption | exact up2_same _ _ _ _)))) | exact (Eq.trans (up2_ne _ _ (by omega)) (Eq.trans (up2_ne _ _ (by omega)) (Eq.trans (up2_ne _ _ (by omega)) (Eq.trans (up2_ne _ _ (by omega)) (by first | assumption | exact up2_same _ _ _ _))))) | rfl) ?_
              refine r_iload_n 1 dX10_readPacket_103 rfl rfl ?_
              refine r_ifN_eq 111 dX10_readPacket_104 (by decide) (by omega) (fun h104 => ?_) (fun h104 => ?_)
              · refine r_iconst (v := nI 0) dX10_readPacket_111 (by decide) ?_
                refine r_iaddN dX10_readPacket_112 ?_
                refine r_putI dX10_readPacket_113 fl_RX10_49 rfl rfl rfl (by assumption) ?_
                refine r_goto 58 dX10_readPacket_116 (by decide) ?_
                exact ZB _ j uAG.at (up2_same _ _ _ _) (by rw [up2_ne _ _ (Or.inr (by omega))]; exact uA7) hle hX2
              · omega
            · exact absurd h70 (by decide)
        | some w =>
          have hX3 : rdX P (s.length + 1) = (some (ws0 ++ [w]), j) := by rw [hX]; simp [rdWs, hr]
          have hn : sg P j ≠ 58 → prs P = .inl j := fun h58 => by
            unfold prs
            unfold rdX at hX3
            simp only [hs]
            rw [if_neg hsn, if_neg (by omega), hX3]
            show (if sg P j ≠ 58 then _ else _) = _
            rw [if_pos h58]
          refine r_iload_n 1 dX10_readPacket_58 rfl rfl ?_
          refine r_ifN_eq 119 dX10_readPacket_59 (by decide) (by omega) (fun h59 => ?_) (fun h59 => ?_)
          · omega
          · refine r_aload_n 0 dX10_readPacket_62 rfl rfl ?_
            refine r_callVw [] dX10_readPacket_63 ok_RX10_71 ivX10_readWord (by assumption) ⟨_, _, rfl⟩ rfl rfl (Nat.le_of_ble_eq_true rfl) (by refine ⟨?_, ?_, ?_, ?_⟩ <;> exact Nat.le_of_ble_eq_true rfl) (m_readWord hL hPm hok h6 h7 hq hw2 (by omega)) ?_
            intro mA ⟨uA, uA6, uA7, uA2, uAo, uAw⟩
            rw [hr] at uA6 uA7 uAw
            have uAG := hG.tr uA
            have uA6' : mA o 6 = nI j := uA6
            have uA7x : mA o 7 = b2 false := uA7
            refine r_aload_n 0 dX10_readPacket_66 rfl rfl ?_
            refine r_getV dX10_readPacket_67 fl_RX10_56 rfl (by assumption) (by first | assumption | exact up2_same _ _ _ _ | exact (Eq.trans (up2_ne _ _ (by omega)) (by first | assumption | exact up2_same _ _ _ _)) | exact (Eq.trans (up2_ne _ _ (by omega)) (Eq.trans (up2_ne _ _ (by omega)) (by first | assumption | exact up2_same _ _ _ _))) | exact (Eq.trans (up2_ne _ _ (by omega)) (Eq.trans (up2_ne _ _ (by omega)) (Eq.trans (up2_ne _ _ (by omega)) (by first | assumption | exact up2_same _ _ _ _)))) | exact (Eq.trans (up2_ne _ _ (by omega)) (Eq.trans (up2_ne _ _ (by omega)) (Eq.trans (up2_ne _ _ (by omega)) (Eq.trans (up2_ne _ _ (by omega)) (by first | assumption | exact up2_same _ _ _ _))))) | rfl) ?_
            refine r_ifB_ne 96 dX10_readPacket_70 (by decide) (fun h70 => ?_) (fun h70 => ?_)
            · refine r_iconst (v := nI 0) dX10_readPacket_96 (by decide) ?_
              refine r_istore_n 1 (ls2 := [_, _]) dX10_readPacket_97 rfl (by decide) (Nat.le_of_ble_eq_true rfl) rfl ?_
              refine r_aload_n 0 dX10_readPacket_98 rfl rfl ?_
              refine r_dup dX10_readPacket_99 rfl ?_
              refine r_getV dX10_readPacket_100 fl_RX10_49 rfl (by assumption) (by first | assumption | exact up2_same _ _ _ _ | exact (Eq.trans (up2_ne _ _ (by omega)) (by first | assumption | exact up2_same _ _ _ _)) | exact (Eq.trans (up2_ne _ _ (by omega)) (Eq.trans (up2_ne _ _ (by omega)) (by first | assumption | exact up2_same _ _ _ _))) | exact (Eq.trans (up2_ne _ _ (by omega)) (Eq.trans (up2_ne _ _ (by omega)) (Eq.trans (up2_ne _ _ (by omega)) (by first | assumption | exact up2_same _ _ _ _)))) | exact (Eq.trans (up2_ne _ _ (by omega)) (Eq.trans (up2_ne _ _ (by omega)) (Eq.trans (up2_ne _ _ (by omega)) (Eq.trans (up2_ne _ _ (by omega)) (by first | assumption | exact up2_same _ _ _ _))))) | rfl) ?_
              refine r_iload_n 1 dX10_readPacket_103 rfl rfl ?_
              refine r_ifN_eq 111 dX10_readPacket_104 (by decide) (by omega) (fun h104 => ?_) (fun h104 => ?_)
              · refine r_iconst (v := nI 0) dX10_readPacket_111 (by decide) ?_
                refine r_iaddN dX10_readPacket_112 ?_
                refine r_putI dX10_readPacket_113 fl_RX10_49 rfl rfl rfl (by assumption) ?_
                refine r_goto 58 dX10_readPacket_116 (by decide) ?_
                first | exact absurd h70 (by decide) | (refine ZO _ j (ws0 ++ [w]) uAG.at (up2_same _ _ _ _) (by rw [up2_ne _ _ (Or.inr (by omega))]; exact uA7) hle ?_ ?_ (fun i' w' hw' => ?_) hn (fun _ => ⟨hX3, hsn, h62⟩); (rw [up2_row _ _ (by omega), uAo 0 (by omega) (by omega)]; exact hs0); (rw [up2_row _ _ (by omega), uA2]; simp [hl]); (rw [up2_row _ _ (by omega)]; by_cases hi' : i' = c; (subst hi'; rw [List.getElem?_append_right (by omega), hl, Nat.sub_self] at hw'; cases hw'; exact uAw w rfl); (have hil := gl_lt hw'; simp at hil; rw [List.getElem?_append_left (by omega)] at hw'; rw [uAo _ (by omega) (by omega)]; exact hw i' w' hw')))
              · omega
            · refine r_aload_n 0 dX10_readPacket_73 rfl rfl ?_
              refine r_getR dX10_readPacket_74 fl_RX10_23 rfl (by assumption) (by assumption) ?_
              refine r_iconst (v := nI 2) dX10_readPacket_77 (by decide) ?_
              refine r_ialdV dX10_readPacket_78 (by assumption) (by omega) (by omega) (by first | assumption | exact up2_same _ _ _ _ | exact (Eq.trans (up2_ne _ _ (by omega)) (by first | assumption | exact up2_same _ _ _ _)) | exact (Eq.trans (up2_ne _ _ (by omega)) (Eq.trans (up2_ne _ _ (by omega)) (by first | assumption | exact up2_same _ _ _ _))) | exact (Eq.trans (up2_ne _ _ (by omega)) (Eq.trans (up2_ne _ _ (by omega)) (Eq.trans (up2_ne _ _ (by omega)) (by first | assumption | exact up2_same _ _ _ _)))) | exact (Eq.trans (up2_ne _ _ (by omega)) (Eq.trans (up2_ne _ _ (by omega)) (Eq.trans (up2_ne _ _ (by omega)) (Eq.trans (up2_ne _ _ (by omega)) (by first | assumption | exact up2_same _ _ _ _))))) | rfl) ?_
              refine r_iconst (v := nI 5) dX10_readPacket_79 (by decide) ?_
              refine r_icmpN_ge 96 dX10_readPacket_80 (by decide) (by omega) (by omega) (fun h80 => ?_) (fun h80 => ?_)
              · refine r_iconst (v := nI 0) dX10_readPacket_96 (by decide) ?_
                refine r_istore_n 1 (ls2 := [_, _]) dX10_readPacket_97 rfl (by decide) (Nat.le_of_ble_eq_true rfl) rfl ?_
                refine r_aload_n 0 dX10_readPacket_98 rfl rfl ?_
                refine r_dup dX10_readPacket_99 rfl ?_
                refine r_getV dX10_readPacket_100 fl_RX10_49 rfl (by assumption) (by first | assumption | exact up2_same _ _ _ _ | exact (Eq.trans (up2_ne _ _ (by omega)) (by first | assumption | exact up2_same _ _ _ _)) | exact (Eq.trans (up2_ne _ _ (by omega)) (Eq.trans (up2_ne _ _ (by omega)) (by first | assumption | exact up2_same _ _ _ _))) | exact (Eq.trans (up2_ne _ _ (by omega)) (Eq.trans (up2_ne _ _ (by omega)) (Eq.trans (up2_ne _ _ (by omega)) (by first | assumption | exact up2_same _ _ _ _)))) | exact (Eq.trans (up2_ne _ _ (by omega)) (Eq.trans (up2_ne _ _ (by omega)) (Eq.trans (up2_ne _ _ (by omega)) (Eq.trans (up2_ne _ _ (by omega)) (by first | assumption | exact up2_same _ _ _ _))))) | rfl) ?_
                refine r_iload_n 1 dX10_readPacket_103 rfl rfl ?_
                refine r_ifN_eq 111 dX10_readPacket_104 (by decide) (by omega) (fun h104 => ?_) (fun h104 => ?_)
                · refine r_iconst (v := nI 0) dX10_readPacket_111 (by decide) ?_
                  refine r_iaddN dX10_readPacket_112 ?_
                  refine r_putI dX10_readPacket_113 fl_RX10_49 rfl rfl rfl (by assumption) ?_
                  refine r_goto 58 dX10_readPacket_116 (by decide) ?_
                  first | exact absurd h70 (by decide) | (refine ZO _ j (ws0 ++ [w]) uAG.at (up2_same _ _ _ _) (by rw [up2_ne _ _ (Or.inr (by omega))]; exact uA7) hle ?_ ?_ (fun i' w' hw' => ?_) hn (fun _ => ⟨hX3, hsn, h62⟩); (rw [up2_row _ _ (by omega), uAo 0 (by omega) (by omega)]; exact hs0); (rw [up2_row _ _ (by omega), uA2]; simp [hl]); (rw [up2_row _ _ (by omega)]; by_cases hi' : i' = c; (subst hi'; rw [List.getElem?_append_right (by omega), hl, Nat.sub_self] at hw'; cases hw'; exact uAw w rfl); (have hil := gl_lt hw'; simp at hil; rw [List.getElem?_append_left (by omega)] at hw'; rw [uAo _ (by omega) (by omega)]; exact hw i' w' hw')))
                · omega
              · omega
    | succ t ih =>
      intro c q ws0 m hc hl hq hG h6 h7 hs0 hw2 hw hsn h62 hX
      have hle := rdW_le (P := P) hq
      have hPm := hP.pg hG
      cases hr : rdW P q with
      | mk r j =>
        rw [hr] at hle
        have hle : j ≤ P.length := hle
        cases r with
        | none =>
          have hX2 : prs P = .inl j := by
            have hX3 : rdX P (s.length + 1) = (none, j) := by rw [hX]; simp [rdWs, hr]
            unfold prs
            unfold rdX at hX3
            simp only [hs]
            rw [if_neg hsn, if_neg (by omega), hX3]
          refine r_iload_n 1 dX10_readPacket_58 rfl rfl ?_
          refine r_ifN_eq 119 dX10_readPacket_59 (by decide) (by omega) (fun h59 => ?_) (fun h59 => ?_)
          · omega
          · refine r_aload_n 0 dX10_readPacket_62 rfl rfl ?_
            refine r_callVw [] dX10_readPacket_63 ok_RX10_71 ivX10_readWord (by assumption) ⟨_, _, rfl⟩ rfl rfl (Nat.le_of_ble_eq_true rfl) (by refine ⟨?_, ?_, ?_, ?_⟩ <;> exact Nat.le_of_ble_eq_true rfl) (m_readWord hL hPm hok h6 h7 hq hw2 (by omega)) ?_
            intro mA ⟨uA, uA6, uA7, uA2, uAo, uAw⟩
            rw [hr] at uA6 uA7 uAw
            have uAG := hG.tr uA
            have uA6' : mA o 6 = nI j := uA6
            have uA7x : mA o 7 = b2 true := uA7
            refine r_aload_n 0 dX10_readPacket_66 rfl rfl ?_
            refine r_getV dX10_readPacket_67 fl_RX10_56 rfl (by assumption) (by first | assumption | exact up2_same _ _ _ _ | exact (Eq.trans (up2_ne _ _ (by omega)) (by first | assumption | exact up2_same _ _ _ _)) | exact (Eq.trans (up2_ne _ _ (by omega)) (Eq.trans (up2_ne _ _ (by omega)) (by first | assumption | exact up2_same _ _ _ _))) | exact (Eq.trans (up2_ne _ _ (by omega)) (Eq.trans (up2_ne _ _ (by omega)) (Eq.trans (up2_ne _ _ (by omega)) (by first | assumption | exact up2_same _ _ _ _)))) | exact (Eq.trans (up2_ne _ _ (by omega)) (Eq.trans (up2_ne _ _ (by omega)) (Eq.trans (up2_ne _ _ (by omega)) (Eq.trans (up2_ne _ _ (by omega)) (by first | assumption | exact up2_same _ _ _ _))))) | rfl) ?_
            refine r_ifB_ne 96 dX10_readPacket_70 (by decide) (fun h70 => ?_) (fun h70 => ?_)
            · refine r_iconst (v := nI 0) dX10_readPacket_96 (by decide) ?_
              refine r_istore_n 1 (ls2 := [_, _]) dX10_readPacket_97 rfl (by decide) (Nat.le_of_ble_eq_true rfl) rfl ?_
              refine r_aload_n 0 dX10_readPacket_98 rfl rfl ?_
              refine r_dup dX10_readPacket_99 rfl ?_
              refine r_getV dX10_readPacket_100 fl_RX10_49 rfl (by assumption) (by first | assumption | exact up2_same _ _ _ _ | exact (Eq.trans (up2_ne _ _ (by omega)) (by first | assumption | exact up2_same _ _ _ _)) | exact (Eq.trans (up2_ne _ _ (by omega)) (Eq.trans (up2_ne _ _ (by omega)) (by first | assumption | exact up2_same _ _ _ _))) | exact (Eq.trans (up2_ne _ _ (by omega)) (Eq.trans (up2_ne _ _ (by omega)) (Eq.trans (up2_ne _ _ (by omega)) (by first | assumption | exact up2_same _ _ _ _)))) | exact (Eq.trans (up2_ne _ _ (by omega)) (Eq.trans (up2_ne _ _ (by omega)) (Eq.trans (up2_ne _ _ (by omega)) (Eq.trans (up2_ne _ _ (by omega)) (by first | assumption | exact up2_same _ _ _ _))))) | rfl) ?_
              refine r_iload_n 1 dX10_readPacket_103 rfl rfl ?_
              refine r_ifN_eq 111 dX10_readPacket_104 (by decide) (by omega) (fun h104 => ?_) (fun h104 => ?_)
              · refine r_iconst (v := nI 0) dX10_readPacket_111 (by decide) ?_
                refine r_iaddN dX10_readPacket_112 ?_
                refine r_putI dX10_readPacket_113 fl_RX10_49 rfl rfl rfl (by assumption) ?_
                refine r_goto 58 dX10_readPacket_116 (by decide) ?_
                exact ZB _ j uAG.at (up2_same _ _ _ _) (by rw [up2_ne _ _ (Or.inr (by omega))]; exact uA7) hle hX2
              · omega
            · exact absurd h70 (by decide)
        | some w =>
          have hXo : sg P j ≠ 44 → rdX P (s.length + 1) = (some (ws0 ++ [w]), j) := fun h44 => by rw [hX]; unfold rdWs; rw [hr]; simp [h44]
          have hn : sg P j ≠ 44 → sg P j ≠ 58 → prs P = .inl j := fun h44 h58 => by
            have hX3 := hXo h44
            unfold prs
            unfold rdX at hX3
            simp only [hs]
            rw [if_neg hsn, if_neg (by omega), hX3]
            show (if sg P j ≠ 58 then _ else _) = _
            rw [if_pos h58]
          have hXc : sg P j = 44 → rdX P (s.length + 1) = ((rdWs (t + 1) P (j + 1)).1.map (fun ws => (ws0 ++ [w]) ++ ws), (rdWs (t + 1) P (j + 1)).2) := fun h44 => by
            rw [hX]
            conv => lhs; unfold rdWs
            rw [hr]
            simp only [h44]
            rw [if_pos ⟨by omega, trivial⟩]
            cases hz : (rdWs (t + 1) P (j + 1)).1 <;> simp
          have hw' : ∀ mA : MI, (∀ q, q ≠ 2 → q ≠ 3 + c → mA (o + 5) q = m (o + 5) q) → (∀ w', (some w : Option Wd) = some w' → mA (o + 5) (3 + c) = nI (wc 27 w')) → ∀ i' w', (ws0 ++ [w])[i']? = some w' → mA (o + 5) (3 + i') = nI (wc 27 w') := fun mA uAo uAw i' w' hw' => by
            by_cases hi' : i' = c
            · subst hi'
              rw [List.getElem?_append_right (by omega), hl, Nat.sub_self] at hw'
              cases hw'
              exact uAw w rfl
            · have hil := gl_lt hw'
              simp at hil
              rw [List.getElem?_append_left (by omega)] at hw'
              rw [uAo _ (by omega) (by omega)]; exact hw i' w' hw'
          refine r_iload_n 1 dX10_readPacket_58 rfl rfl ?_
          refine r_ifN_eq 119 dX10_readPacket_59 (by decide) (by omega) (fun h59 => ?_) (fun h59 => ?_)
          · omega
          · refine r_aload_n 0 dX10_readPacket_62 rfl rfl ?_
            refine r_callVw [] dX10_readPacket_63 ok_RX10_71 ivX10_readWord (by assumption) ⟨_, _, rfl⟩ rfl rfl (Nat.le_of_ble_eq_true rfl) (by refine ⟨?_, ?_, ?_, ?_⟩ <;> exact Nat.le_of_ble_eq_true rfl) (m_readWord hL hPm hok h6 h7 hq hw2 (by omega)) ?_
            intro mA ⟨uA, uA6, uA7, uA2, uAo, uAw⟩
            rw [hr] at uA6 uA7 uAw
            have uAG := hG.tr uA
            have uA6' : mA o 6 = nI j := uA6
            have uA7x : mA o 7 = b2 false := uA7
            refine r_aload_n 0 dX10_readPacket_66 rfl rfl ?_
            refine r_getV dX10_readPacket_67 fl_RX10_56 rfl (by assumption) (by first | assumption | exact up2_same _ _ _ _ | exact (Eq.trans (up2_ne _ _ (by omega)) (by first | assumption | exact up2_same _ _ _ _)) | exact (Eq.trans (up2_ne _ _ (by omega)) (Eq.trans (up2_ne _ _ (by omega)) (by first | assumption | exact up2_same _ _ _ _))) | exact (Eq.trans (up2_ne _ _ (by omega)) (Eq.trans (up2_ne _ _ (by omega)) (Eq.trans (up2_ne _ _ (by omega)) (by first | assumption | exact up2_same _ _ _ _)))) | exact (Eq.trans (up2_ne _ _ (by omega)) (Eq.trans (up2_ne _ _ (by omega)) (Eq.trans (up2_ne _ _ (by omega)) (Eq.trans (up2_ne _ _ (by omega)) (by first | assumption | exact up2_same _ _ _ _))))) | rfl) ?_
            refine r_ifB_ne 96 dX10_readPacket_70 (by decide) (fun h70 => ?_) (fun h70 => ?_)
            · refine r_iconst (v := nI 0) dX10_readPacket_96 (by decide) ?_
              have hk5 : c + 1 < 5 := by omega
              refine r_istore_n 1 (ls2 := [_, _]) dX10_readPacket_97 rfl (by decide) (Nat.le_of_ble_eq_true rfl) rfl ?_
              refine r_aload_n 0 dX10_readPacket_98 rfl rfl ?_
              refine r_dup dX10_readPacket_99 rfl ?_
              refine r_getV dX10_readPacket_100 fl_RX10_49 rfl (by assumption) (by first | assumption | exact up2_same _ _ _ _ | exact (Eq.trans (up2_ne _ _ (by omega)) (by first | assumption | exact up2_same _ _ _ _)) | exact (Eq.trans (up2_ne _ _ (by omega)) (Eq.trans (up2_ne _ _ (by omega)) (by first | assumption | exact up2_same _ _ _ _))) | exact (Eq.trans (up2_ne _ _ (by omega)) (Eq.trans (up2_ne _ _ (by omega)) (Eq.trans (up2_ne _ _ (by omega)) (by first | assumption | exact up2_same _ _ _ _)))) | exact (Eq.trans (up2_ne _ _ (by omega)) (Eq.trans (up2_ne _ _ (by omega)) (Eq.trans (up2_ne _ _ (by omega)) (Eq.trans (up2_ne _ _ (by omega)) (by first | assumption | exact up2_same _ _ _ _))))) | rfl) ?_
              refine r_iload_n 1 dX10_readPacket_103 rfl rfl ?_
              refine r_ifN_eq 111 dX10_readPacket_104 (by decide) (by omega) (fun h104 => ?_) (fun h104 => ?_)
              · refine r_iconst (v := nI 0) dX10_readPacket_111 (by decide) ?_
                refine r_iaddN dX10_readPacket_112 ?_
                refine r_putI dX10_readPacket_113 fl_RX10_49 rfl rfl rfl (by assumption) ?_
                refine r_goto 58 dX10_readPacket_116 (by decide) ?_
                first | exact absurd h70 (by decide) | omega | (have h44 : sg P j = 44 := (by simpa using h89); have hjl := sg_pos (P := P) (i := j) (by omega); refine ih (c + 1) (j + 1) (ws0 ++ [w]) _ (by omega) (by simp [hl]) (by omega) uAG.at (up2_same _ _ _ _) (by rw [up2_ne _ _ (Or.inr (by omega))]; exact uA7) (by rw [up2_row _ _ (by omega), uAo 0 (by omega) (by omega)]; exact hs0) (by rw [up2_row _ _ (by omega)]; exact uA2) (fun i' w' hq' => by rw [up2_row _ _ (by omega)]; exact hw' mA uAo uAw i' w' hq') hsn h62 (hXc h44)) | (have h44 : ¬ sg P j = 44 := (by simpa using h89); refine ZO _ j (ws0 ++ [w]) uAG.at (up2_same _ _ _ _) (by rw [up2_ne _ _ (Or.inr (by omega))]; exact uA7) hle (by rw [up2_row _ _ (by omega), uAo 0 (by omega) (by omega)]; exact hs0) (by rw [up2_row _ _ (by omega), uA2]; simp [hl]) (fun i' w' hq' => by rw [up2_row _ _ (by omega)]; exact hw' mA uAo uAw i' w' hq') (hn h44) (fun _ => ⟨hXo h44, hsn, h62⟩))
              · refine r_iconst (v := nI 1) dX10_readPacket_107 (by decide) ?_
                refine r_goto 112 dX10_readPacket_108 (by decide) ?_
                refine r_iaddN dX10_readPacket_112 ?_
                refine r_putI dX10_readPacket_113 fl_RX10_49 rfl rfl rfl (by assumption) ?_
                refine r_goto 58 dX10_readPacket_116 (by decide) ?_
                first | exact absurd h70 (by decide) | omega | (have h44 : sg P j = 44 := (by simpa using h89); have hjl := sg_pos (P := P) (i := j) (by omega); refine ih (c + 1) (j + 1) (ws0 ++ [w]) _ (by omega) (by simp [hl]) (by omega) uAG.at (up2_same _ _ _ _) (by rw [up2_ne _ _ (Or.inr (by omega))]; exact uA7) (by rw [up2_row _ _ (by omega), uAo 0 (by omega) (by omega)]; exact hs0) (by rw [up2_row _ _ (by omega)]; exact uA2) (fun i' w' hq' => by rw [up2_row _ _ (by omega)]; exact hw' mA uAo uAw i' w' hq') hsn h62 (hXc h44)) | (have h44 : ¬ sg P j = 44 := (by simpa using h89); refine ZO _ j (ws0 ++ [w]) uAG.at (up2_same _ _ _ _) (by rw [up2_ne _ _ (Or.inr (by omega))]; exact uA7) hle (by rw [up2_row _ _ (by omega), uAo 0 (by omega) (by omega)]; exact hs0) (by rw [up2_row _ _ (by omega), uA2]; simp [hl]) (fun i' w' hq' => by rw [up2_row _ _ (by omega)]; exact hw' mA uAo uAw i' w' hq') (hn h44) (fun _ => ⟨hXo h44, hsn, h62⟩))
            · refine r_aload_n 0 dX10_readPacket_73 rfl rfl ?_
              refine r_getR dX10_readPacket_74 fl_RX10_23 rfl (by assumption) (by assumption) ?_
              refine r_iconst (v := nI 2) dX10_readPacket_77 (by decide) ?_
              refine r_ialdV dX10_readPacket_78 (by assumption) (by omega) (by omega) (by first | assumption | exact up2_same _ _ _ _ | exact (Eq.trans (up2_ne _ _ (by omega)) (by first | assumption | exact up2_same _ _ _ _)) | exact (Eq.trans (up2_ne _ _ (by omega)) (Eq.trans (up2_ne _ _ (by omega)) (by first | assumption | exact up2_same _ _ _ _))) | exact (Eq.trans (up2_ne _ _ (by omega)) (Eq.trans (up2_ne _ _ (by omega)) (Eq.trans (up2_ne _ _ (by omega)) (by first | assumption | exact up2_same _ _ _ _)))) | exact (Eq.trans (up2_ne _ _ (by omega)) (Eq.trans (up2_ne _ _ (by omega)) (Eq.trans (up2_ne _ _ (by omega)) (Eq.trans (up2_ne _ _ (by omega)) (by first | assumption | exact up2_same _ _ _ _))))) | rfl) ?_
              refine r_iconst (v := nI 5) dX10_readPacket_79 (by decide) ?_
              refine r_icmpN_ge 96 dX10_readPacket_80 (by decide) (by omega) (by omega) (fun h80 => ?_) (fun h80 => ?_)
              · refine r_iconst (v := nI 0) dX10_readPacket_96 (by decide) ?_
                have hk5 : c + 1 < 5 := by omega
                refine r_istore_n 1 (ls2 := [_, _]) dX10_readPacket_97 rfl (by decide) (Nat.le_of_ble_eq_true rfl) rfl ?_
                refine r_aload_n 0 dX10_readPacket_98 rfl rfl ?_
                refine r_dup dX10_readPacket_99 rfl ?_
                refine r_getV dX10_readPacket_100 fl_RX10_49 rfl (by assumption) (by first | assumption | exact up2_same _ _ _ _ | exact (Eq.trans (up2_ne _ _ (by omega)) (by first | assumption | exact up2_same _ _ _ _)) | exact (Eq.trans (up2_ne _ _ (by omega)) (Eq.trans (up2_ne _ _ (by omega)) (by first | assumption | exact up2_same _ _ _ _))) | exact (Eq.trans (up2_ne _ _ (by omega)) (Eq.trans (up2_ne _ _ (by omega)) (Eq.trans (up2_ne _ _ (by omega)) (by first | assumption | exact up2_same _ _ _ _)))) | exact (Eq.trans (up2_ne _ _ (by omega)) (Eq.trans (up2_ne _ _ (by omega)) (Eq.trans (up2_ne _ _ (by omega)) (Eq.trans (up2_ne _ _ (by omega)) (by first | assumption | exact up2_same _ _ _ _))))) | rfl) ?_
                refine r_iload_n 1 dX10_readPacket_103 rfl rfl ?_
                refine r_ifN_eq 111 dX10_readPacket_104 (by decide) (by omega) (fun h104 => ?_) (fun h104 => ?_)
                · refine r_iconst (v := nI 0) dX10_readPacket_111 (by decide) ?_
                  refine r_iaddN dX10_readPacket_112 ?_
                  refine r_putI dX10_readPacket_113 fl_RX10_49 rfl rfl rfl (by assumption) ?_
                  refine r_goto 58 dX10_readPacket_116 (by decide) ?_
                  first | exact absurd h70 (by decide) | omega | (have h44 : sg P j = 44 := (by simpa using h89); have hjl := sg_pos (P := P) (i := j) (by omega); refine ih (c + 1) (j + 1) (ws0 ++ [w]) _ (by omega) (by simp [hl]) (by omega) uAG.at (up2_same _ _ _ _) (by rw [up2_ne _ _ (Or.inr (by omega))]; exact uA7) (by rw [up2_row _ _ (by omega), uAo 0 (by omega) (by omega)]; exact hs0) (by rw [up2_row _ _ (by omega)]; exact uA2) (fun i' w' hq' => by rw [up2_row _ _ (by omega)]; exact hw' mA uAo uAw i' w' hq') hsn h62 (hXc h44)) | (have h44 : ¬ sg P j = 44 := (by simpa using h89); refine ZO _ j (ws0 ++ [w]) uAG.at (up2_same _ _ _ _) (by rw [up2_ne _ _ (Or.inr (by omega))]; exact uA7) hle (by rw [up2_row _ _ (by omega), uAo 0 (by omega) (by omega)]; exact hs0) (by rw [up2_row _ _ (by omega), uA2]; simp [hl]) (fun i' w' hq' => by rw [up2_row _ _ (by omega)]; exact hw' mA uAo uAw i' w' hq') (hn h44) (fun _ => ⟨hXo h44, hsn, h62⟩))
                · refine r_iconst (v := nI 1) dX10_readPacket_107 (by decide) ?_
                  refine r_goto 112 dX10_readPacket_108 (by decide) ?_
                  refine r_iaddN dX10_readPacket_112 ?_
                  refine r_putI dX10_readPacket_113 fl_RX10_49 rfl rfl rfl (by assumption) ?_
                  refine r_goto 58 dX10_readPacket_116 (by decide) ?_
                  first | exact absurd h70 (by decide) | omega | (have h44 : sg P j = 44 := (by simpa using h89); have hjl := sg_pos (P := P) (i := j) (by omega); refine ih (c + 1) (j + 1) (ws0 ++ [w]) _ (by omega) (by simp [hl]) (by omega) uAG.at (up2_same _ _ _ _) (by rw [up2_ne _ _ (Or.inr (by omega))]; exact uA7) (by rw [up2_row _ _ (by omega), uAo 0 (by omega) (by omega)]; exact hs0) (by rw [up2_row _ _ (by omega)]; exact uA2) (fun i' w' hq' => by rw [up2_row _ _ (by omega)]; exact hw' mA uAo uAw i' w' hq') hsn h62 (hXc h44)) | (have h44 : ¬ sg P j = 44 := (by simpa using h89); refine ZO _ j (ws0 ++ [w]) uAG.at (up2_same _ _ _ _) (by rw [up2_ne _ _ (Or.inr (by omega))]; exact uA7) hle (by rw [up2_row _ _ (by omega), uAo 0 (by omega) (by omega)]; exact hs0) (by rw [up2_row _ _ (by omega), uA2]; simp [hl]) (fun i' w' hq' => by rw [up2_row _ _ (by omega)]; exact hw' mA uAo uAw i' w' hq') (hn h44) (fun _ => ⟨hXo h44, hsn, h62⟩))
              · refine r_aload_n 0 dX10_readPacket_83 rfl rfl ?_
                refine r_bipush (v := nI 44) dX10_readPacket_84 (by decide) ?_
                refine r_callVp [_] dX10_readPacket_86 ok_RX10_60 ivX10_isAt (by assumption) ⟨_, _, rfl⟩ rfl rfl (Nat.le_of_ble_eq_true rfl) (by refine ⟨?_, ?_, ?_, ?_⟩ <;> exact Nat.le_of_ble_eq_true rfl) (m_isAt hL (hP.pg uAG) hok uA6' hle (by omega) (by omega)) ?_
                refine r_ifB_eq 96 dX10_readPacket_89 (by decide) (fun h89 => ?_) (fun h89 => ?_)
                · refine r_iconst (v := nI 0) dX10_readPacket_96 (by decide) ?_
                  have hk5 : c + 1 < 5 := by omega
                  refine r_istore_n 1 (ls2 := [_, _]) dX10_readPacket_97 rfl (by decide) (Nat.le_of_ble_eq_true rfl) rfl ?_
                  refine r_aload_n 0 dX10_readPacket_98 rfl rfl ?_
                  refine r_dup dX10_readPacket_99 rfl ?_
                  refine r_getV dX10_readPacket_100 fl_RX10_49 rfl (by assumption) (by first | assumption | exact up2_same _ _ _ _ | exact (Eq.trans (up2_ne _ _ (by omega)) (by first | assumption | exact up2_same _ _ _ _)) | exact (Eq.trans (up2_ne _ _ (by omega)) (Eq.trans (up2_ne _ _ (by omega)) (by first | assumption | exact up2_same _ _ _ _))) | exact (Eq.trans (up2_ne _ _ (by omega)) (Eq.trans (up2_ne _ _ (by omega)) (Eq.trans (up2_ne _ _ (by omega)) (by first | assumption | exact up2_same _ _ _ _)))) | exact (Eq.trans (up2_ne _ _ (by omega)) (Eq.trans (up2_ne _ _ (by omega)) (Eq.trans (up2_ne _ _ (by omega)) (Eq.trans (up2_ne _ _ (by omega)) (by first | assumption | exact up2_same _ _ _ _))))) | rfl) ?_
                  refine r_iload_n 1 dX10_readPacket_103 rfl rfl ?_
                  refine r_ifN_eq 111 dX10_readPacket_104 (by decide) (by omega) (fun h104 => ?_) (fun h104 => ?_)
                  · refine r_iconst (v := nI 0) dX10_readPacket_111 (by decide) ?_
                    refine r_iaddN dX10_readPacket_112 ?_
                    refine r_putI dX10_readPacket_113 fl_RX10_49 rfl rfl rfl (by assumption) ?_
                    refine r_goto 58 dX10_readPacket_116 (by decide) ?_
                    first | exact absurd h70 (by decide) | omega | (have h44 : sg P j = 44 := (by simpa using h89); have hjl := sg_pos (P := P) (i := j) (by omega); refine ih (c + 1) (j + 1) (ws0 ++ [w]) _ (by omega) (by simp [hl]) (by omega) uAG.at (up2_same _ _ _ _) (by rw [up2_ne _ _ (Or.inr (by omega))]; exact uA7) (by rw [up2_row _ _ (by omega), uAo 0 (by omega) (by omega)]; exact hs0) (by rw [up2_row _ _ (by omega)]; exact uA2) (fun i' w' hq' => by rw [up2_row _ _ (by omega)]; exact hw' mA uAo uAw i' w' hq') hsn h62 (hXc h44)) | (have h44 : ¬ sg P j = 44 := (by simpa using h89); refine ZO _ j (ws0 ++ [w]) uAG.at (up2_same _ _ _ _) (by rw [up2_ne _ _ (Or.inr (by omega))]; exact uA7) hle (by rw [up2_row _ _ (by omega), uAo 0 (by omega) (by omega)]; exact hs0) (by rw [up2_row _ _ (by omega), uA2]; simp [hl]) (fun i' w' hq' => by rw [up2_row _ _ (by omega)]; exact hw' mA uAo uAw i' w' hq') (hn h44) (fun _ => ⟨hXo h44, hsn, h62⟩))
                  · refine r_iconst (v := nI 1) dX10_readPacket_107 (by decide) ?_
                    refine r_goto 112 dX10_readPacket_108 (by decide) ?_
                    refine r_iaddN dX10_readPacket_112 ?_
                    refine r_putI dX10_readPacket_113 fl_RX10_49 rfl rfl rfl (by assumption) ?_
                    refine r_goto 58 dX10_readPacket_116 (by decide) ?_
                    first | exact absurd h70 (by decide) | omega | (have h44 : sg P j = 44 := (by simpa using h89); have hjl := sg_pos (P := P) (i := j) (by omega); refine ih (c + 1) (j + 1) (ws0 ++ [w]) _ (by omega) (by simp [hl]) (by omega) uAG.at (up2_same _ _ _ _) (by rw [up2_ne _ _ (Or.inr (by omega))]; exact uA7) (by rw [up2_row _ _ (by omega), uAo 0 (by omega) (by omega)]; exact hs0) (by rw [up2_row _ _ (by omega)]; exact uA2) (fun i' w' hq' => by rw [up2_row _ _ (by omega)]; exact hw' mA uAo uAw i' w' hq') hsn h62 (hXc h44)) | (have h44 : ¬ sg P j = 44 := (by simpa using h89); refine ZO _ j (ws0 ++ [w]) uAG.at (up2_same _ _ _ _) (by rw [up2_ne _ _ (Or.inr (by omega))]; exact uA7) hle (by rw [up2_row _ _ (by omega), uAo 0 (by omega) (by omega)]; exact hs0) (by rw [up2_row _ _ (by omega), uA2]; simp [hl]) (fun i' w' hq' => by rw [up2_row _ _ (by omega)]; exact hw' mA uAo uAw i' w' hq') (hn h44) (fun _ => ⟨hXo h44, hsn, h62⟩))
                · refine r_iconst (v := nI 1) dX10_readPacket_92 (by decide) ?_
                  refine r_goto 97 dX10_readPacket_93 (by decide) ?_
                  have hk5 : c + 1 < 5 := by omega
                  refine r_istore_n 1 (ls2 := [_, _]) dX10_readPacket_97 rfl (by decide) (Nat.le_of_ble_eq_true rfl) rfl ?_
                  refine r_aload_n 0 dX10_readPacket_98 rfl rfl ?_
                  refine r_dup dX10_readPacket_99 rfl ?_
                  refine r_getV dX10_readPacket_100 fl_RX10_49 rfl (by assumption) (by first | assumption | exact up2_same _ _ _ _ | exact (Eq.trans (up2_ne _ _ (by omega)) (by first | assumption | exact up2_same _ _ _ _)) | exact (Eq.trans (up2_ne _ _ (by omega)) (Eq.trans (up2_ne _ _ (by omega)) (by first | assumption | exact up2_same _ _ _ _))) | exact (Eq.trans (up2_ne _ _ (by omega)) (Eq.trans (up2_ne _ _ (by omega)) (Eq.trans (up2_ne _ _ (by omega)) (by first | assumption | exact up2_same _ _ _ _)))) | exact (Eq.trans (up2_ne _ _ (by omega)) (Eq.trans (up2_ne _ _ (by omega)) (Eq.trans (up2_ne _ _ (by omega)) (Eq.trans (up2_ne _ _ (by omega)) (by first | assumption | exact up2_same _ _ _ _))))) | rfl) ?_
                  refine r_iload_n 1 dX10_readPacket_103 rfl rfl ?_
                  refine r_ifN_eq 111 dX10_readPacket_104 (by decide) (by omega) (fun h104 => ?_) (fun h104 => ?_)
                  · refine r_iconst (v := nI 0) dX10_readPacket_111 (by decide) ?_
                    refine r_iaddN dX10_readPacket_112 ?_
                    refine r_putI dX10_readPacket_113 fl_RX10_49 rfl rfl rfl (by assumption) ?_
                    refine r_goto 58 dX10_readPacket_116 (by decide) ?_
                    first | exact absurd h70 (by decide) | omega | (have h44 : sg P j = 44 := (by simpa using h89); have hjl := sg_pos (P := P) (i := j) (by omega); refine ih (c + 1) (j + 1) (ws0 ++ [w]) _ (by omega) (by simp [hl]) (by omega) uAG.at (up2_same _ _ _ _) (by rw [up2_ne _ _ (Or.inr (by omega))]; exact uA7) (by rw [up2_row _ _ (by omega), uAo 0 (by omega) (by omega)]; exact hs0) (by rw [up2_row _ _ (by omega)]; exact uA2) (fun i' w' hq' => by rw [up2_row _ _ (by omega)]; exact hw' mA uAo uAw i' w' hq') hsn h62 (hXc h44)) | (have h44 : ¬ sg P j = 44 := (by simpa using h89); refine ZO _ j (ws0 ++ [w]) uAG.at (up2_same _ _ _ _) (by rw [up2_ne _ _ (Or.inr (by omega))]; exact uA7) hle (by rw [up2_row _ _ (by omega), uAo 0 (by omega) (by omega)]; exact hs0) (by rw [up2_row _ _ (by omega), uA2]; simp [hl]) (fun i' w' hq' => by rw [up2_row _ _ (by omega)]; exact hw' mA uAo uAw i' w' hq') (hn h44) (fun _ => ⟨hXo h44, hsn, h62⟩))
                  · refine r_iconst (v := nI 1) dX10_readPacket_107 (by decide) ?_
                    refine r_goto 112 dX10_readPacket_108 (by decide) ?_
                    refine r_iaddN dX10_readPacket_112 ?_
                    refine r_putI dX10_readPacket_113 fl_RX10_49 rfl rfl rfl (by assumption) ?_
                    refine r_goto 58 dX10_readPacket_116 (by decide) ?_
                    first | exact absurd h70 (by decide) | omega | (have h44 : sg P j = 44 := (by simpa using h89); have hjl := sg_pos (P := P) (i := j) (by omega); refine ih (c + 1) (j + 1) (ws0 ++ [w]) _ (by omega) (by simp [hl]) (by omega) uAG.at (up2_same _ _ _ _) (by rw [up2_ne _ _ (Or.inr (by omega))]; exact uA7) (by rw [up2_row _ _ (by omega), uAo 0 (by omega) (by omega)]; exact hs0) (by rw [up2_row _ _ (by omega)]; exact uA2) (fun i' w' hq' => by rw [up2_row _ _ (by omega)]; exact hw' mA uAo uAw i' w' hq') hsn h62 (hXc h44)) | (have h44 : ¬ sg P j = 44 := (by simpa using h89); refine ZO _ j (ws0 ++ [w]) uAG.at (up2_same _ _ _ _) (by rw [up2_ne _ _ (Or.inr (by omega))]; exact uA7) hle (by rw [up2_row _ _ (by omega), uAo 0 (by omega) (by omega)]; exact hs0) (by rw [up2_row _ _ (by omega), uA2]; simp [hl]) (fun i' w' hq' => by rw [up2_row _ _ (by omega)]; exact hw' mA uAo uAw i' w' hq') (hn h44) (fun _ => ⟨hXo h44, hsn, h62⟩))
  have K36 : ∀ m : MI, PG mi m o → (s ≠ [] → m o 6 = nI (s.length + bn (decide (sg P s.length = 62)))) → m o 7 = b2 (decide (s = []) || !decide (sg P s.length = 62)) → m (o + 5) 0 = nI (en 27 s) → m (o + 5) 2 = nI 0 → (s = [] → m o 6 = nI 0) → Wp yX10_readPacket cX10_readPacket 2 (some .int) (EI 4 z sh mr (RPm mi o (prs P))) 0 0 36 [.ref o] [] z sh m mr := by
    intro m hG h6 h7 hs0 hw2 h6n
    have hPm := hP.pg hG
    by_cases hsn : s = []
    · have h6z : m o 6 = nI 0 := h6n hsn
      have h7z : m o 7 = b2 true := by rw [h7, hsn]; rfl
      have hp : prs P = .inl 0 := by unfold prs; simp only [hs]; rw [if_pos hsn]
      refine r_aload_n 0 dX10_readPacket_36 rfl rfl ?_
      refine r_getV dX10_readPacket_37 fl_RX10_56 rfl (by assumption) (by first | assumption | exact up2_same _ _ _ _ | exact (Eq.trans (up2_ne _ _ (by omega)) (by first | assumption | exact up2_same _ _ _ _)) | exact (Eq.trans (up2_ne _ _ (by omega)) (Eq.trans (up2_ne _ _ (by omega)) (by first | assumption | exact up2_same _ _ _ _))) | exact (Eq.trans (up2_ne _ _ (by omega)) (Eq.trans (up2_ne _ _ (by omega)) (Eq.trans (up2_ne _ _ (by omega)) (by first | assumption | exact up2_same _ _ _ _)))) | exact (Eq.trans (up2_ne _ _ (by omega)) (Eq.trans (up2_ne _ _ (by omega)) (Eq.trans (up2_ne _ _ (by omega)) (Eq.trans (up2_ne _ _ (by omega)) (by first | assumption | exact up2_same _ _ _ _))))) | rfl) ?_
      refine r_ifB_ne 56 dX10_readPacket_40 (by decide) (fun h40 => ?_) (fun h40 => ?_)
      · refine r_iconst (v := nI 0) dX10_readPacket_56 (by decide) ?_
        refine r_istore_n 1 (ls2 := [_, _]) dX10_readPacket_57 rfl (by decide) (Nat.le_of_ble_eq_true rfl) rfl ?_
        exact ZB m 0 hG h6z h7z (Nat.zero_le _) hp
      · exact absurd h40 (by decide)
    · by_cases h62 : sg P s.length = 62
      · have hsl2 := sg_pos (P := P) (i := s.length) (by omega)
        have h6z : m o 6 = nI (s.length + 1) := by rw [h6 hsn, h62]; rfl
        have h7z : m o 7 = b2 false := by rw [h7, h62]; simp [hsn]
        have hsb := sg_lt hok (s.length + 1)
        have hX0 : ¬ (65 ≤ sg P (s.length + 1) ∧ sg P (s.length + 1) ≤ 65 + 25) → sg P (s.length + 1) ≠ 58 → prs P = .inl (s.length + 1) := fun hA h58 => by
          have hl0 : lets 65 3 P (s.length + 1) = [] := by unfold lets; rw [if_neg hA]
          have hr0 : rdW P (s.length + 1) = (none, s.length + 1) := by unfold rdW; simp [hl0]
          unfold prs
          simp only [hs]
          rw [if_neg hsn, if_neg (by omega), if_neg h58]
          simp [rdWs, hr0]
        refine r_aload_n 0 dX10_readPacket_36 rfl rfl ?_
        refine r_getV dX10_readPacket_37 fl_RX10_56 rfl (by assumption) (by first | assumption | exact up2_same _ _ _ _ | exact (Eq.trans (up2_ne _ _ (by omega)) (by first | assumption | exact up2_same _ _ _ _)) | exact (Eq.trans (up2_ne _ _ (by omega)) (Eq.trans (up2_ne _ _ (by omega)) (by first | assumption | exact up2_same _ _ _ _))) | exact (Eq.trans (up2_ne _ _ (by omega)) (Eq.trans (up2_ne _ _ (by omega)) (Eq.trans (up2_ne _ _ (by omega)) (by first | assumption | exact up2_same _ _ _ _)))) | exact (Eq.trans (up2_ne _ _ (by omega)) (Eq.trans (up2_ne _ _ (by omega)) (Eq.trans (up2_ne _ _ (by omega)) (Eq.trans (up2_ne _ _ (by omega)) (by first | assumption | exact up2_same _ _ _ _))))) | rfl) ?_
        refine r_ifB_ne 56 dX10_readPacket_40 (by decide) (fun h40 => ?_) (fun h40 => ?_)
        · refine r_iconst (v := nI 0) dX10_readPacket_56 (by decide) ?_
          refine r_istore_n 1 (ls2 := [_, _]) dX10_readPacket_57 rfl (by decide) (Nat.le_of_ble_eq_true rfl) rfl ?_
          first | exact absurd h40 (by decide) | (have hA : ¬ (65 ≤ sg P (s.length + 1) ∧ sg P (s.length + 1) ≤ 65 + 25) := (by simpa using h49); refine ZO m (s.length + 1) [] hG h6z h7z (by omega) hs0 hw2 (fun i w hi => by simp at hi) (hX0 hA) (fun h58 => ⟨by unfold rdX; rw [if_pos h58], hsn, h62⟩)) | (have hA : 65 ≤ sg P (s.length + 1) ∧ sg P (s.length + 1) ≤ 65 + 25 := (by simpa using h49); refine H 4 0 (s.length + 1) [] m rfl rfl (by omega) hG h6z h7z hs0 hw2 (fun i w hi => by simp at hi) hsn h62 ?_; unfold rdX; rw [if_neg (by omega)]; cases hz : (rdWs (4 + 1) P (s.length + 1)) with | mk u v => cases u <;> simp)
        · refine r_aload_n 0 dX10_readPacket_43 rfl rfl ?_
          refine r_bipush (v := nI 65) dX10_readPacket_44 (by decide) ?_
          refine r_callVp [_] dX10_readPacket_46 ok_RX10_52 ivX10_isLetter (by assumption) ⟨_, _, rfl⟩ rfl rfl (Nat.le_of_ble_eq_true rfl) (by refine ⟨?_, ?_, ?_, ?_⟩ <;> exact Nat.le_of_ble_eq_true rfl) (m_isLetter hL hPm hok h6z (by omega) (by omega) (by omega)) ?_
          refine r_ifB_eq 56 dX10_readPacket_49 (by decide) (fun h49 => ?_) (fun h49 => ?_)
          · refine r_iconst (v := nI 0) dX10_readPacket_56 (by decide) ?_
            refine r_istore_n 1 (ls2 := [_, _]) dX10_readPacket_57 rfl (by decide) (Nat.le_of_ble_eq_true rfl) rfl ?_
            first | exact absurd h40 (by decide) | (have hA : ¬ (65 ≤ sg P (s.length + 1) ∧ sg P (s.length + 1) ≤ 65 + 25) := (by simpa using h49); refine ZO m (s.length + 1) [] hG h6z h7z (by omega) hs0 hw2 (fun i w hi => by simp at hi) (hX0 hA) (fun h58 => ⟨by unfold rdX; rw [if_pos h58], hsn, h62⟩)) | (have hA : 65 ≤ sg P (s.length + 1) ∧ sg P (s.length + 1) ≤ 65 + 25 := (by simpa using h49); refine H 4 0 (s.length + 1) [] m rfl rfl (by omega) hG h6z h7z hs0 hw2 (fun i w hi => by simp at hi) hsn h62 ?_; unfold rdX; rw [if_neg (by omega)]; cases hz : (rdWs (4 + 1) P (s.length + 1)) with | mk u v => cases u <;> simp)
          · refine r_iconst (v := nI 1) dX10_readPacket_52 (by decide) ?_
            refine r_goto 57 dX10_readPacket_53 (by decide) ?_
            refine r_istore_n 1 (ls2 := [_, _]) dX10_readPacket_57 rfl (by decide) (Nat.le_of_ble_eq_true rfl) rfl ?_
            first | exact absurd h40 (by decide) | (have hA : ¬ (65 ≤ sg P (s.length + 1) ∧ sg P (s.length + 1) ≤ 65 + 25) := (by simpa using h49); refine ZO m (s.length + 1) [] hG h6z h7z (by omega) hs0 hw2 (fun i w hi => by simp at hi) (hX0 hA) (fun h58 => ⟨by unfold rdX; rw [if_pos h58], hsn, h62⟩)) | (have hA : 65 ≤ sg P (s.length + 1) ∧ sg P (s.length + 1) ≤ 65 + 25 := (by simpa using h49); refine H 4 0 (s.length + 1) [] m rfl rfl (by omega) hG h6z h7z hs0 hw2 (fun i w hi => by simp at hi) hsn h62 ?_; unfold rdX; rw [if_neg (by omega)]; cases hz : (rdWs (4 + 1) P (s.length + 1)) with | mk u v => cases u <;> simp)
      · have h6z : m o 6 = nI s.length := by rw [h6 hsn]; simp [h62, bn]
        have h7z : m o 7 = b2 true := by rw [h7]; simp [h62]
        have hp : prs P = .inl s.length := by unfold prs; simp only [hs]; rw [if_neg hsn, if_pos h62]
        refine r_aload_n 0 dX10_readPacket_36 rfl rfl ?_
        refine r_getV dX10_readPacket_37 fl_RX10_56 rfl (by assumption) (by first | assumption | exact up2_same _ _ _ _ | exact (Eq.trans (up2_ne _ _ (by omega)) (by first | assumption | exact up2_same _ _ _ _)) | exact (Eq.trans (up2_ne _ _ (by omega)) (Eq.trans (up2_ne _ _ (by omega)) (by first | assumption | exact up2_same _ _ _ _))) | exact (Eq.trans (up2_ne _ _ (by omega)) (Eq.trans (up2_ne _ _ (by omega)) (Eq.trans (up2_ne _ _ (by omega)) (by first | assumption | exact up2_same _ _ _ _)))) | exact (Eq.trans (up2_ne _ _ (by omega)) (Eq.trans (up2_ne _ _ (by omega)) (Eq.trans (up2_ne _ _ (by omega)) (Eq.trans (up2_ne _ _ (by omega)) (by first | assumption | exact up2_same _ _ _ _))))) | rfl) ?_
        refine r_ifB_ne 56 dX10_readPacket_40 (by decide) (fun h40 => ?_) (fun h40 => ?_)
        · refine r_iconst (v := nI 0) dX10_readPacket_56 (by decide) ?_
          refine r_istore_n 1 (ls2 := [_, _]) dX10_readPacket_57 rfl (by decide) (Nat.le_of_ble_eq_true rfl) rfl ?_
          exact ZB m s.length hG h6z h7z hsl hp
        · exact absurd h40 (by decide)
  have g0 : PG mi (up2 (up2 (up2 mi o 6 (nI 0)) o 7 (nI 0)) (o + 5) 2 (nI 0)) o := PG.rf.at.bad.own
  refine Mv.of pnX10_readPacket (Nat.le_of_ble_eq_true rfl) rfl ?_
  refine r_aload_n 0 dX10_readPacket_0 rfl rfl ?_
  refine r_iconst (v := nI 0) dX10_readPacket_1 (by decide) ?_
  refine r_putI dX10_readPacket_2 fl_RX10_49 rfl rfl rfl (by assumption) ?_
  refine r_aload_n 0 dX10_readPacket_5 rfl rfl ?_
  refine r_iconst (v := nI 0) dX10_readPacket_6 (by decide) ?_
  refine r_putI dX10_readPacket_7 fl_RX10_56 rfl (by first | exact b2_nar _ | decide) (by first | exact b2_fit _ | decide) (by assumption) ?_
  refine r_aload_n 0 dX10_readPacket_10 rfl rfl ?_
  refine r_getR dX10_readPacket_11 fl_RX10_23 rfl (by assumption) (by assumption) ?_
  refine r_iconst (v := nI 2) dX10_readPacket_14 (by decide) ?_
  refine r_iconst (v := nI 0) dX10_readPacket_15 (by decide) ?_
  refine r_iast dX10_readPacket_16 (by assumption) (by omega) (by omega) ?_
  refine r_aload_n 0 dX10_readPacket_17 rfl rfl ?_
  refine r_getR dX10_readPacket_18 fl_RX10_23 rfl (by assumption) (by assumption) ?_
  refine r_iconst (v := nI 0) dX10_readPacket_21 (by decide) ?_
  refine r_aload_n 0 dX10_readPacket_22 rfl rfl ?_
  refine r_bipush (v := nI 65) dX10_readPacket_23 (by decide) ?_
  refine r_iconst (v := nI 3) dX10_readPacket_25 (by decide) ?_
  refine r_callVx [_, _] dX10_readPacket_26 ok_RX10_63 ivX10_readLetters (by assumption) ⟨_, _, rfl⟩ rfl rfl (Nat.le_of_ble_eq_true rfl) (by refine ⟨?_, ?_, ?_, ?_⟩ <;> exact Nat.le_of_ble_eq_true rfl) (m_readLetters (b := false) hL (hP.pg g0) hok (by rw [up2_row _ _ (by omega), up2_ne _ _ (Or.inr (by omega)), up2_same]) (by rw [up2_row _ _ (by omega), up2_same]; rfl) (by omega) (by omega) (by omega) (by omega)) ?_
  intro mA uA
  rw [hs, Nat.zero_add] at uA
  rw [hs]
  have uAG := (g0.tr uA.pg).own (k := 0) (v := nI (en 27 s))
  have uA6 : up2 mA (o + 5) 0 (nI (en 27 s)) o 6 = nI s.length := by rw [up2_row _ _ (by omega)]; exact uA.1
  have uA7 : up2 mA (o + 5) 0 (nI (en 27 s)) o 7 = b2 (false || decide (s = [])) := by rw [up2_row _ _ (by omega)]; exact uA.2.1
  have uA2 : up2 mA (o + 5) 0 (nI (en 27 s)) (o + 5) 2 = nI 0 := by rw [up2_ne _ _ (Or.inr (by omega)), uA.2.2.1 (o + 5) (by omega), up2_same]
  refine r_iast dX10_readPacket_29 (by assumption) (by omega) (by omega) ?_
  refine r_aload_n 0 dX10_readPacket_30 rfl rfl ?_
  refine r_bipush (v := nI 62) dX10_readPacket_31 (by decide) ?_
  refine r_callVw [_] dX10_readPacket_33 ok_RX10_67 ivX10_readSign (by assumption) ⟨_, _, rfl⟩ rfl rfl (Nat.le_of_ble_eq_true rfl) (by refine ⟨?_, ?_, ?_, ?_⟩ <;> exact Nat.le_of_ble_eq_true rfl) (m_readSign hL (hP.pg uAG) hok uA6 uA7 hsl (by omega) (by omega)) ?_
  intro mB uB
  by_cases hsn : s = []
  · rw [if_pos (by rw [hsn]; rfl)] at uB
    subst uB
    exact K36 _ uAG (fun h => absurd hsn h) (by rw [uA7, hsn]; rfl) (up2_same _ _ _ _) uA2 (fun _ => by rw [uA6, hsn]; rfl)
  · rw [if_neg (by simp [hsn])] at uB
    have hrow := uB.2.2.1 (o + 5) (by omega)
    refine K36 _ (uAG.tr uB.pg) (fun _ => uB.1) ?_ (by rw [hrow, up2_same]) (by rw [hrow]; exact uA2) (fun h => absurd h hsn)
    rw [uB.2.1]; simp [hsn]
end RPAD3
