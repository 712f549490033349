section RAPI1
variable {z : Nat} {sh : SH} {mi : MI} {mr : MR} {o : Nat}
def PM (mi : MI) (o : Nat) (p : Int32 × Al) : Option Value → MI → Prop := fun v m => v = some (.int p.1) ∧ RR m o p.2 ∧ Oth mi m o (o + 11)
theorem PG.oth {m : MI} (h : PG mi m o) : Oth mi m o (o + 11) := fun x hx => h.1 x (by omega) (by omega)
theorem RR.to {m : MI} {σ : Al} {P : List Nat} {n : Nt} (h : RR mi o σ) (hP : PdM m o P) (hN : NtM (m (o + 1)) n) (hLa : LaM (m (o + 1)) n) (h2 : m (o + 2) = mi (o + 2)) (h3 : m (o + 3) = mi (o + 3)) : RR m o (P, n, σ.2.2) := by
  refine ⟨hP, ⟨hN, hLa⟩, ?_⟩
  rw [h2, h3]; exact h.2.2
theorem RR.pad {m : MI} {σ : Al} {P : List Nat} (h : RR mi o σ) (hP : PdM m o P) (h1 : m (o + 1) = mi (o + 1)) (h2 : m (o + 2) = mi (o + 2)) (h3 : m (o + 3) = mi (o + 3)) : RR m o (P, σ.2) := by
  have := h.to hP (n := σ.2.1) (by rw [h1]; exact h.2.1.1) (by rw [h1]; exact h.2.1.2) h2 h3
  exact this
theorem RR.scr {m : MI} {σ : Al} (h : RR mi o σ) (hG : PG mi m o) : RR m o σ := h.pad (h.1.pg hG) (hG.1 _ (by omega) (by omega)) (hG.1 _ (by omega) (by omega)) (hG.1 _ (by omega) (by omega))
theorem PM.same {σ : Al} {a : Int32} (h : RR mi o σ) : PM mi o (a, σ) (some (.int a)) mi := ⟨rfl, h, Oth.rf⟩
theorem PM.scr {m : MI} {σ : Al} {a : Int32} (h : RR mi o σ) (hG : PG mi m o) : PM mi o (a, σ) (some (.int a)) m := ⟨rfl, h.scr hG, hG.oth⟩
theorem m_readName (hL : LM sh mr o) {P : List Nat} (hP : PdM mi o P) (hok : okD P) : Mi mX10_readName 3 [.ref o] z sh mi mr (fun v m => v = some (.int (match prsN P with | some nm => nI (en 27 nm) | none => -6)) ∧ PG mi m o) := by
  obtain ⟨l0, -⟩ := id hL
  have h40 := hok.1
  have h3 := lets_len 65 3 P 0
  have g0 : PG mi (up2 (up2 mi o 6 (nI 0)) o 7 (nI 0)) o := PG.rf.at.bad
  have hin : lets 65 3 P 0 ≠ [] → (lets 65 3 P 0).length ≤ P.length := fun h => by have := lets_in (by omega : 0 < 65) 3 P 0 h; omega
  refine Mv.of pnX10_readName (Nat.le_of_ble_eq_true rfl) rfl ?_
  refine r_aload_n 0 dX10_readName_0 rfl rfl ?_
  refine r_iconst (v := nI 0) dX10_readName_1 (by decide) ?_
  refine r_putI dX10_readName_2 fl_RX10_49 rfl rfl rfl (by assumption) ?_
  refine r_aload_n 0 dX10_readName_5 rfl rfl ?_
  refine r_iconst (v := nI 0) dX10_readName_6 (by decide) ?_
  refine r_putI dX10_readName_7 fl_RX10_56 rfl (by first | exact b2_nar _ | decide) (by first | exact b2_fit _ | decide) (by assumption) ?_
  refine r_aload_n 0 dX10_readName_10 rfl rfl ?_
  refine r_bipush (v := nI 65) dX10_readName_11 (by decide) ?_
  refine r_iconst (v := nI 3) dX10_readName_13 (by decide) ?_
  refine r_callVx [_, _] dX10_readName_14 ok_RX10_63 ivX10_readLetters (by assumption) ⟨_, _, rfl⟩ rfl rfl (Nat.le_of_ble_eq_true rfl) (by refine ⟨?_, ?_, ?_, ?_⟩ <;> exact Nat.le_of_ble_eq_true rfl) (m_readLetters (b := false) hL (hP.pg g0) hok (by rw [up2_ne _ _ (Or.inr (by omega)), up2_same]) (by rw [up2_same]; rfl) (by omega) (by omega) (by omega) (by omega)) ?_
  intro mA uA
  rw [Nat.zero_add] at uA
  have uAG := g0.tr uA.pg
  have uA6 := uA.1
  have uA7 := uA.2.1
  have uA4 := (hP.pg uAG).1
  refine r_istore_n 1 (ls2 := [_, _]) dX10_readName_17 rfl (by decide) (Nat.le_of_ble_eq_true rfl) rfl ?_
  refine r_aload_n 0 dX10_readName_18 rfl rfl ?_
  refine r_getV dX10_readName_19 fl_RX10_56 rfl (by assumption) (by first | assumption | exact up2_same _ _ _ _ | exact (Eq.trans (up2_ne _ _ (by omega)) (by first | assumption | exact up2_same _ _ _ _)) | exact (Eq.trans (up2_ne _ _ (by omega)) (Eq.trans (up2_ne _ _ (by omega)) (by first | assumption | exact up2_same _ _ _ _))) | exact (Eq.trans (up2_ne _ _ (by omega)) (Eq.trans (up2_ne _ _ (by omega)) (Eq.trans (up2_ne _ _ (by omega)) (by first | assumption | exact up2_same _ _ _ _)))) | exact (Eq.trans (up2_ne _ _ (by omega)) (Eq.trans (up2_ne _ _ (by omega)) (Eq.trans (up2_ne _ _ (by omega)) (Eq.trans (up2_ne _ _ (by omega)) (by first | assumption | exact up2_same _ _ _ _))))) | rfl) ?_
  refine r_ifB_ne 36 dX10_readName_22 (by decide) (fun h22 => ?_) (fun h22 => ?_)
  · refine r_bipush (v := -6) dX10_readName_36 (by decide) ?_
    refine r_goto 42 dX10_readName_38 (by decide) ?_
    refine r_iret dX10_readName_42 rfl (Nat.le_of_ble_eq_true rfl) (Nat.le_of_ble_eq_true rfl) ?_
    refine ⟨rfl, rfl, rfl, ?_, uAG⟩
    unfold prsN
    first | (rw [if_pos (Or.inl (by simpa using h22))]; done) | (rw [if_pos (Or.inr h33)]; done) | (have hne : ¬ lets 65 3 P 0 = [] := (by simpa using h22); have := hin hne; rw [if_neg (by rintro (h | h); (exact hne h); omega)])
  · refine r_aload_n 0 dX10_readName_25 rfl rfl ?_
    refine r_getV dX10_readName_26 fl_RX10_49 rfl (by assumption) (by first | assumption | exact up2_same _ _ _ _ | exact (Eq.trans (up2_ne _ _ (by omega)) (by first | assumption | exact up2_same _ _ _ _)) | exact (Eq.trans (up2_ne _ _ (by omega)) (Eq.trans (up2_ne _ _ (by omega)) (by first | assumption | exact up2_same _ _ _ _))) | exact (Eq.trans (up2_ne _ _ (by omega)) (Eq.trans (up2_ne _ _ (by omega)) (Eq.trans (up2_ne _ _ (by omega)) (by first | assumption | exact up2_same _ _ _ _)))) | exact (Eq.trans (up2_ne _ _ (by omega)) (Eq.trans (up2_ne _ _ (by omega)) (Eq.trans (up2_ne _ _ (by omega)) (Eq.trans (up2_ne _ _ (by omega)) (by first | assumption | exact up2_same _ _ _ _))))) | rfl) ?_
    refine r_aload_n 0 dX10_readName_29 rfl rfl ?_
    refine r_getV dX10_readName_30 fl_RX10_45 rfl (by assumption) (by first | assumption | exact up2_same _ _ _ _ | exact (Eq.trans (up2_ne _ _ (by omega)) (by first | assumption | exact up2_same _ _ _ _)) | exact (Eq.trans (up2_ne _ _ (by omega)) (Eq.trans (up2_ne _ _ (by omega)) (by first | assumption | exact up2_same _ _ _ _))) | exact (Eq.trans (up2_ne _ _ (by omega)) (Eq.trans (up2_ne _ _ (by omega)) (Eq.trans (up2_ne _ _ (by omega)) (by first | assumption | exact up2_same _ _ _ _)))) | exact (Eq.trans (up2_ne _ _ (by omega)) (Eq.trans (up2_ne _ _ (by omega)) (Eq.trans (up2_ne _ _ (by omega)) (Eq.trans (up2_ne _ _ (by omega)) (by first | assumption | exact up2_same _ _ _ _))))) | rfl) ?_
    refine r_icmpN_ge 41 dX10_readName_33 (by decide) (by omega) (by omega) (fun h33 => ?_) (fun h33 => ?_)
    · refine r_iload_n 1 dX10_readName_41 rfl rfl ?_
      refine r_iret dX10_readName_42 rfl (Nat.le_of_ble_eq_true rfl) (Nat.le_of_ble_eq_true rfl) ?_
      refine ⟨rfl, rfl, rfl, ?_, uAG⟩
      unfold prsN
      first | (rw [if_pos (Or.inl (by simpa using h22))]; done) | (rw [if_pos (Or.inr h33)]; done) | (have hne : ¬ lets 65 3 P 0 = [] := (by simpa using h22); have := hin hne; rw [if_neg (by rintro (h | h); (exact hne h); omega)])
    · refine r_bipush (v := -6) dX10_readName_36 (by decide) ?_
      refine r_goto 42 dX10_readName_38 (by decide) ?_
      refine r_iret dX10_readName_42 rfl (Nat.le_of_ble_eq_true rfl) (Nat.le_of_ble_eq_true rfl) ?_
      refine ⟨rfl, rfl, rfl, ?_, uAG⟩
      unfold prsN
      first | (rw [if_pos (Or.inl (by simpa using h22))]; done) | (rw [if_pos (Or.inr h33)]; done) | (have hne : ¬ lets 65 3 P 0 = [] := (by simpa using h22); have := hin hne; rw [if_neg (by rintro (h | h); (exact hne h); omega)])
theorem n_say (hL : LM sh mr o) {σ : Al} {N : Nat} (hR : RR mi o σ) (hok : okA σ N) (x : Int32) : Mi mX10_say 1 [.ref o, .int x] z sh mi mr (PM mi o (sp_say σ x)) := by
  obtain ⟨l0, -, -, -, ⟨l7, l8⟩, -⟩ := id hL
  have p4 := hR.1.1
  have h40 := hok.1.1
  by_cases hin : inB x (nI 33) (nI 126) = true
  · obtain ⟨k, k1, k2, rfl⟩ := inB_ex (by omega) hin (by omega)
    have hsk : sk (nI k) = k := sk_nI (by omega)
    refine Mv.of pnX10_say (Nat.le_of_ble_eq_true rfl) rfl ?_
    refine r_iload_n 1 dX10_say_0 rfl rfl ?_
    refine r_bipush (v := nI 33) dX10_say_1 (by decide) ?_
    refine r_bipush (v := nI 126) dX10_say_3 (by decide) ?_
    refine r_callSp [_, _, _] dX10_say_5 ok_RX10_41 isX10_in rfl rfl (Nat.le_of_ble_eq_true rfl) (by refine ⟨?_, ?_, ?_, ?_⟩ <;> exact Nat.le_of_ble_eq_true rfl) (c_in _ _ _) ?_
    rw [hin]
    refine r_ifB_ne 14 dX10_say_8 (by decide) (fun h8 => ?_) (fun h8 => ?_)
    · refine r_aload_n 0 dX10_say_14 rfl rfl ?_
      refine r_getV dX10_say_15 fl_RX10_45 rfl (by assumption) (by first | assumption | exact up2_same _ _ _ _ | exact (Eq.trans (up2_ne _ _ (by omega)) (by first | assumption | exact up2_same _ _ _ _)) | exact (Eq.trans (up2_ne _ _ (by omega)) (Eq.trans (up2_ne _ _ (by omega)) (by first | assumption | exact up2_same _ _ _ _))) | exact (Eq.trans (up2_ne _ _ (by omega)) (Eq.trans (up2_ne _ _ (by omega)) (Eq.trans (up2_ne _ _ (by omega)) (by first | assumption | exact up2_same _ _ _ _)))) | exact (Eq.trans (up2_ne _ _ (by omega)) (Eq.trans (up2_ne _ _ (by omega)) (Eq.trans (up2_ne _ _ (by omega)) (Eq.trans (up2_ne _ _ (by omega)) (by first | assumption | exact up2_same _ _ _ _))))) | rfl) ?_
      refine r_bipush (v := nI 40) dX10_say_18 (by decide) ?_
      refine r_icmpN_ne 26 dX10_say_20 (by decide) (by omega) (by omega) (fun h20 => ?_) (fun h20 => ?_)
      · refine r_aload_n 0 dX10_say_26 rfl rfl ?_
        refine r_getR dX10_say_27 fl_RX10_20 rfl (by assumption) (by assumption) ?_
        refine r_aload_n 0 dX10_say_30 rfl rfl ?_
        refine r_getV dX10_say_31 fl_RX10_45 rfl (by assumption) (by first | assumption | exact up2_same _ _ _ _ | exact (Eq.trans (up2_ne _ _ (by omega)) (by first | assumption | exact up2_same _ _ _ _)) | exact (Eq.trans (up2_ne _ _ (by omega)) (Eq.trans (up2_ne _ _ (by omega)) (by first | assumption | exact up2_same _ _ _ _))) | exact (Eq.trans (up2_ne _ _ (by omega)) (Eq.trans (up2_ne _ _ (by omega)) (Eq.trans (up2_ne _ _ (by omega)) (by first | assumption | exact up2_same _ _ _ _)))) | exact (Eq.trans (up2_ne _ _ (by omega)) (Eq.trans (up2_ne _ _ (by omega)) (Eq.trans (up2_ne _ _ (by omega)) (Eq.trans (up2_ne _ _ (by omega)) (by first | assumption | exact up2_same _ _ _ _))))) | rfl) ?_
        refine r_iload_n 1 dX10_say_34 rfl rfl ?_
        refine r_iast dX10_say_35 (by assumption) (by omega) (by omega) ?_
        have p4' : up2 mi (o + 4) σ.1.length (nI k) o 4 = nI σ.1.length := by rw [up2_row _ _ (by omega)]; exact p4
        refine r_aload_n 0 dX10_say_36 rfl rfl ?_
        refine r_dup dX10_say_37 rfl ?_
        refine r_getV dX10_say_38 fl_RX10_45 rfl (by assumption) (by first | assumption | exact up2_same _ _ _ _ | exact (Eq.trans (up2_ne _ _ (by omega)) (by first | assumption | exact up2_same _ _ _ _)) | exact (Eq.trans (up2_ne _ _ (by omega)) (Eq.trans (up2_ne _ _ (by omega)) (by first | assumption | exact up2_same _ _ _ _))) | exact (Eq.trans (up2_ne _ _ (by omega)) (Eq.trans (up2_ne _ _ (by omega)) (Eq.trans (up2_ne _ _ (by omega)) (by first | assumption | exact up2_same _ _ _ _)))) | exact (Eq.trans (up2_ne _ _ (by omega)) (Eq.trans (up2_ne _ _ (by omega)) (Eq.trans (up2_ne _ _ (by omega)) (Eq.trans (up2_ne _ _ (by omega)) (by first | assumption | exact up2_same _ _ _ _))))) | rfl) ?_
        refine r_iconst (v := nI 1) dX10_say_41 (by decide) ?_
        refine r_iaddN dX10_say_42 ?_
        refine r_putI dX10_say_43 fl_RX10_45 rfl rfl rfl (by assumption) ?_
        refine r_aload_n 0 dX10_say_46 rfl rfl ?_
        refine r_getV dX10_say_47 fl_RX10_45 rfl (by assumption) (by first | assumption | exact up2_same _ _ _ _ | exact (Eq.trans (up2_ne _ _ (by omega)) (by first | assumption | exact up2_same _ _ _ _)) | exact (Eq.trans (up2_ne _ _ (by omega)) (Eq.trans (up2_ne _ _ (by omega)) (by first | assumption | exact up2_same _ _ _ _))) | exact (Eq.trans (up2_ne _ _ (by omega)) (Eq.trans (up2_ne _ _ (by omega)) (Eq.trans (up2_ne _ _ (by omega)) (by first | assumption | exact up2_same _ _ _ _)))) | exact (Eq.trans (up2_ne _ _ (by omega)) (Eq.trans (up2_ne _ _ (by omega)) (Eq.trans (up2_ne _ _ (by omega)) (Eq.trans (up2_ne _ _ (by omega)) (by first | assumption | exact up2_same _ _ _ _))))) | rfl) ?_
        refine r_iret dX10_say_50 rfl (Nat.le_of_ble_eq_true rfl) (Nat.le_of_ble_eq_true rfl) ?_
        refine ⟨rfl, rfl, rfl, ?_⟩
        unfold sp_say
        rw [if_pos hin]
        first | (rw [if_pos h20]; exact PM.same hR) | (rw [if_neg h20, hsk]; refine ⟨rfl, hR.pad ⟨?_, fun i y hy => ?_⟩ ?_ ?_ ?_, fun q hq => ?_⟩; (rw [up2_same]; simp); (rw [up2_row _ _ (by omega)]; by_cases hi : i = σ.1.length; (subst hi; rw [List.getElem?_append_right (Nat.le_refl _), Nat.sub_self] at hy; cases hy; exact up2_same _ _ _ _); (have hil := gl_lt hy; simp at hil; rw [List.getElem?_append_left (by omega)] at hy; rw [up2_ne _ _ (Or.inr hi)]; exact hR.1.2 i y hy)); (rw [up2_row _ _ (by omega), up2_row _ _ (by omega)]); (rw [up2_row _ _ (by omega), up2_row _ _ (by omega)]); (rw [up2_row _ _ (by omega), up2_row _ _ (by omega)]); (rw [up2_row _ _ (by omega), up2_row _ _ (by omega)]))
      · refine r_bipush (v := -4) dX10_say_23 (by decide) ?_
        refine r_iret dX10_say_25 rfl (Nat.le_of_ble_eq_true rfl) (Nat.le_of_ble_eq_true rfl) ?_
        refine ⟨rfl, rfl, rfl, ?_⟩
        unfold sp_say
        rw [if_pos hin]
        first | (rw [if_pos h20]; exact PM.same hR) | (rw [if_neg h20, hsk]; refine ⟨rfl, hR.pad ⟨?_, fun i y hy => ?_⟩ ?_ ?_ ?_, fun q hq => ?_⟩; (rw [up2_same]; simp); (rw [up2_row _ _ (by omega)]; by_cases hi : i = σ.1.length; (subst hi; rw [List.getElem?_append_right (Nat.le_refl _), Nat.sub_self] at hy; cases hy; exact up2_same _ _ _ _); (have hil := gl_lt hy; simp at hil; rw [List.getElem?_append_left (by omega)] at hy; rw [up2_ne _ _ (Or.inr hi)]; exact hR.1.2 i y hy)); (rw [up2_row _ _ (by omega), up2_row _ _ (by omega)]); (rw [up2_row _ _ (by omega), up2_row _ _ (by omega)]); (rw [up2_row _ _ (by omega), up2_row _ _ (by omega)]); (rw [up2_row _ _ (by omega), up2_row _ _ (by omega)]))
    · exact absurd h8 (by decide)
  · have hin' : inB x (nI 33) (nI 126) = false := by simpa using hin
    refine Mv.of pnX10_say (Nat.le_of_ble_eq_true rfl) rfl ?_
    refine r_iload_n 1 dX10_say_0 rfl rfl ?_
    refine r_bipush (v := nI 33) dX10_say_1 (by decide) ?_
    refine r_bipush (v := nI 126) dX10_say_3 (by decide) ?_
    refine r_callSp [_, _, _] dX10_say_5 ok_RX10_41 isX10_in rfl rfl (Nat.le_of_ble_eq_true rfl) (by refine ⟨?_, ?_, ?_, ?_⟩ <;> exact Nat.le_of_ble_eq_true rfl) (c_in _ _ _) ?_
    rw [hin']
    refine r_ifB_ne 14 dX10_say_8 (by decide) (fun h8 => ?_) (fun h8 => ?_)
    · exact absurd h8 (by decide)
    · refine r_bipush (v := -2) dX10_say_11 (by decide) ?_
      refine r_iret dX10_say_13 rfl (Nat.le_of_ble_eq_true rfl) (Nat.le_of_ble_eq_true rfl) ?_
      refine ⟨rfl, rfl, rfl, ?_⟩
      unfold sp_say
      rw [if_neg hin]
      exact PM.same hR
theorem n_wipe (hL : LM sh mr o) {σ : Al} (hR : RR mi o σ) : Mi mX10_wipe 0 [.ref o] z sh mi mr (PM mi o (sp_wipe σ)) := by
  obtain ⟨l0, -⟩ := id hL
  have p4 := hR.1.1
  refine Mv.of pnX10_wipe (Nat.le_of_ble_eq_true rfl) rfl ?_
  refine r_aload_n 0 dX10_wipe_0 rfl rfl ?_
  refine r_getV dX10_wipe_1 fl_RX10_45 rfl (by assumption) (by first | assumption | exact up2_same _ _ _ _ | exact (Eq.trans (up2_ne _ _ (by omega)) (by first | assumption | exact up2_same _ _ _ _)) | exact (Eq.trans (up2_ne _ _ (by omega)) (Eq.trans (up2_ne _ _ (by omega)) (by first | assumption | exact up2_same _ _ _ _))) | exact (Eq.trans (up2_ne _ _ (by omega)) (Eq.trans (up2_ne _ _ (by omega)) (Eq.trans (up2_ne _ _ (by omega)) (by first | assumption | exact up2_same _ _ _ _)))) | exact (Eq.trans (up2_ne _ _ (by omega)) (Eq.trans (up2_ne _ _ (by omega)) (Eq.trans (up2_ne _ _ (by omega)) (Eq.trans (up2_ne _ _ (by omega)) (by first | assumption | exact up2_same _ _ _ _))))) | rfl) ?_
  refine r_istore_n 1 (ls2 := [_, _]) dX10_wipe_4 rfl (by decide) (Nat.le_of_ble_eq_true rfl) rfl ?_
  refine r_aload_n 0 dX10_wipe_5 rfl rfl ?_
  refine r_iconst (v := nI 0) dX10_wipe_6 (by decide) ?_
  refine r_putI dX10_wipe_7 fl_RX10_45 rfl rfl rfl (by assumption) ?_
  refine r_iload_n 1 dX10_wipe_10 rfl rfl ?_
  refine r_iret dX10_wipe_11 rfl (Nat.le_of_ble_eq_true rfl) (Nat.le_of_ble_eq_true rfl) ?_
  refine ⟨rfl, rfl, rfl, rfl, hR.pad ⟨up2_same _ _ _ _, fun i y hy => by simp at hy⟩ (up2_row _ _ (by omega)) (up2_row _ _ (by omega)) (up2_row _ _ (by omega)), fun q hq => up2_row _ _ (by omega)⟩
theorem n_fault (hL : LM sh mr o) {σ : Al} {N : Nat} (hR : RR mi o σ) (hok : okA σ N) : Mi mX10_fault 5 [.ref o] z sh mi mr (PM mi o (sp_fault σ)) := by
  obtain ⟨l0, -⟩ := id hL
  cases hp : prs σ.1 with
  | inl j =>
    refine Mv.of pnX10_fault (Nat.le_of_ble_eq_true rfl) rfl ?_
    refine r_aload_n 0 dX10_fault_0 rfl rfl ?_
    refine r_callVi [] dX10_fault_1 ok_RX10_74 ivX10_readPacket (by assumption) ⟨_, _, rfl⟩ rfl rfl (Nat.le_of_ble_eq_true rfl) (by refine ⟨?_, ?_, ?_, ?_⟩ <;> exact Nat.le_of_ble_eq_true rfl) (m_readPacket hL hR.1 hok.1) ?_
    intro vA mA uA
    rw [hp] at uA
    obtain ⟨uA, rfl⟩ := uA
    refine r_iret dX10_fault_4 rfl (Nat.le_of_ble_eq_true rfl) (Nat.le_of_ble_eq_true rfl) ?_
    refine ⟨rfl, rfl, rfl, ?_⟩
    unfold sp_fault
    rw [hp]
    exact PM.scr hR uA
  | inr p =>
    refine Mv.of pnX10_fault (Nat.le_of_ble_eq_true rfl) rfl ?_
    refine r_aload_n 0 dX10_fault_0 rfl rfl ?_
    refine r_callVi [] dX10_fault_1 ok_RX10_74 ivX10_readPacket (by assumption) ⟨_, _, rfl⟩ rfl rfl (Nat.le_of_ble_eq_true rfl) (by refine ⟨?_, ?_, ?_, ?_⟩ <;> exact Nat.le_of_ble_eq_true rfl) (m_readPacket hL hR.1 hok.1) ?_
    intro vA mA uA
    rw [hp] at uA
    obtain ⟨uA, rfl, -⟩ := uA
    refine r_iret dX10_fault_4 rfl (Nat.le_of_ble_eq_true rfl) (Nat.le_of_ble_eq_true rfl) ?_
    refine ⟨rfl, rfl, rfl, ?_⟩
    unfold sp_fault
    rw [hp]
    exact PM.scr hR uA
end RAPI1
