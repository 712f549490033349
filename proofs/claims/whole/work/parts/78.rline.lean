section RLINE
variable {z : Nat} {sh : SH} {mi : MI} {mr : MR} {o : Nat}
theorem nI_ne1 {k : Nat} (h : k < 2 ^ 31) : nI k ≠ -1 := fun e => by
  have e2 := congrArg Int32.toInt e
  rw [nI_toInt h] at e2
  have e1 : (-1 : Int32).toInt = -1 := by decide
  omega
theorem n_trail (hL : LM sh mr o) {σ : Al} {N : Nat} (hR : RR mi o σ) (hok : okA σ N) (hN : N < 2 ^ 27) (s x : Int32) : Mi mX10_trail 2 [.ref o, .int s, .int x] z sh mi mr (PM mi o (sp_trail σ s x)) := by
  obtain ⟨l0, ⟨l1, l2⟩, -⟩ := id hL
  by_cases hb : stB s = true
  · obtain ⟨k, hk, rfl⟩ := st_ex hb
    have hkk : sk (nI k) = k := sk_nI (by omega)
    cases hq : (stA σ k).2.2.2.2 with
    | none =>
      have hsp : sp_trail σ (nI k) x = (-3, σ) := by unfold sp_trail; rw [if_neg (by rw [hb]; decide), hkk, hq]
      rw [hsp]
      have hv := hR.2.1.2 k hk hq
      refine Mv.of pnX10_trail (Nat.le_of_ble_eq_true rfl) rfl ?_
      refine r_iload_n 1 dX10_trail_0 rfl rfl ?_
      refine r_callSp [_] dX10_trail_1 ok_RX10_78 isX10_isStation rfl rfl (Nat.le_of_ble_eq_true rfl) (by refine ⟨?_, ?_, ?_, ?_⟩ <;> exact Nat.le_of_ble_eq_true rfl) (c_isStation _) ?_
      rw [hb]
      refine r_ifB_ne 9 dX10_trail_4 (by decide) (fun h4 => ?_) (fun h4 => ?_)
      · refine r_aload_n 0 dX10_trail_9 rfl rfl ?_
        refine r_getR dX10_trail_10 fl_RX10_7 rfl (by assumption) (by assumption) ?_
        refine r_sipush (v := nI 1380) dX10_trail_13 (by decide) ?_
        refine r_iload_n 1 dX10_trail_16 rfl rfl ?_
        refine r_iaddN dX10_trail_17 ?_
        refine r_ialdV dX10_trail_18 (by assumption) (by omega) (by omega) (by first | assumption | exact up2_same _ _ _ _ | exact (Eq.trans (up2_ne _ _ (by omega)) (by first | assumption | exact up2_same _ _ _ _)) | exact (Eq.trans (up2_ne _ _ (by omega)) (Eq.trans (up2_ne _ _ (by omega)) (by first | assumption | exact up2_same _ _ _ _))) | exact (Eq.trans (up2_ne _ _ (by omega)) (Eq.trans (up2_ne _ _ (by omega)) (Eq.trans (up2_ne _ _ (by omega)) (by first | assumption | exact up2_same _ _ _ _)))) | exact (Eq.trans (up2_ne _ _ (by omega)) (Eq.trans (up2_ne _ _ (by omega)) (Eq.trans (up2_ne _ _ (by omega)) (Eq.trans (up2_ne _ _ (by omega)) (by first | assumption | exact up2_same _ _ _ _))))) | rfl) ?_
        refine r_if_ge 25 dX10_trail_19 (by decide) (fun h19 => ?_) (fun h19 => ?_)
        · exact absurd h19 (by decide)
        · refine r_bipush (v := -3) dX10_trail_22 (by decide) ?_
          refine r_iret dX10_trail_24 rfl (Nat.le_of_ble_eq_true rfl) (Nat.le_of_ble_eq_true rfl) ?_
          exact ⟨rfl, rfl, rfl, PM.same hR⟩
      · exact absurd h4 (by decide)
    | some q =>
      have hsp : sp_trail σ (nI k) x = (if x = -1 then nI (q.1.2.2.countP (fun w => w.2.2)) else match spF q.1.2.2 x with
        | some j => (match q.1.2.2[j]? with
          | some u => cal σ u.1
          | none => -6)
        | none => -6, σ) := by unfold sp_trail; rw [if_neg (by rw [hb]; decide), hkk, hq]; rfl
      obtain ⟨hP, hT⟩ := (hR.2.1.1.1 k hk).2.2.2.2 q hq
      obtain ⟨hpk, htl⟩ := (hok.2.1.1.1 k hk).2.2.2.2 q.1 q.2 hq
      have hnow := hok.2.1.2.2
      have h8 := hpk.2.2.1
      have H : ∀ t i : Nat, i + t = q.1.2.2.length → (∀ j, j < i → spQ q.1.2.2 x j = false) → Wp yX10_trail cX10_trail 5 (some .int) (EI 2 z sh mr (PM mi o (sp_trail σ (nI k) x))) 0 0 30 [.ref o, .int (nI k), .int x, .int (nI ((q.1.2.2.take i).countP (fun w => w.2.2))), .int (nI i)] [] z sh mi mr := by
        intro t
        induction t with
        | zero =>
          intro i hi hno
          have hi : i = q.1.2.2.length := hi
          subst hi
          rw [List.take_length]
          have hF : spF q.1.2.2 x = none := fr_no hno
          refine r_iload 4 dX10_trail_30 rfl ?_
          refine r_aload_n 0 dX10_trail_32 rfl rfl ?_
          refine r_iload_n 1 dX10_trail_33 rfl rfl ?_
          refine r_callVp [_] dX10_trail_34 ok_RX10_166 ivX10_words (by assumption) ⟨_, _, rfl⟩ rfl rfl (Nat.le_of_ble_eq_true rfl) (by refine ⟨?_, ?_, ?_, ?_⟩ <;> exact Nat.le_of_ble_eq_true rfl) (m_words hL hk hP.2.2.1) ?_
          refine r_icmpN_ge 82 dX10_trail_37 (by decide) (by omega) (by omega) (fun h37 => ?_) (fun h37 => ?_)
          · refine r_iload_n 2 dX10_trail_82 rfl rfl ?_
            refine r_iconst (v := -1) dX10_trail_83 (by decide) ?_
            refine r_icmp_ne 91 dX10_trail_84 (by decide) (fun h84 => ?_) (fun h84 => ?_)
            · refine r_bipush (v := -6) dX10_trail_91 (by decide) ?_
              refine r_iret dX10_trail_93 rfl (Nat.le_of_ble_eq_true rfl) (Nat.le_of_ble_eq_true rfl) ?_
              refine ⟨rfl, rfl, rfl, ?_⟩
              rw [hsp]
              first | (rw [if_pos h84]; exact PM.same hR) | (rw [if_neg h84, hF]; exact PM.same hR)
            · refine r_iload_n 3 dX10_trail_87 rfl rfl ?_
              refine r_goto 93 dX10_trail_88 (by decide) ?_
              refine r_iret dX10_trail_93 rfl (Nat.le_of_ble_eq_true rfl) (Nat.le_of_ble_eq_true rfl) ?_
              refine ⟨rfl, rfl, rfl, ?_⟩
              rw [hsp]
              first | (rw [if_pos h84]; exact PM.same hR) | (rw [if_neg h84, hF]; exact PM.same hR)
          · omega
        | succ t ih =>
          intro i hi hno
          obtain ⟨w, hw⟩ := gl_ex (l := q.1.2.2) (i := i) (by omega)
          have hwk := hpk.2.2.2 w (gl_mem hw)
          have hlt := wc_lt27 hwk
          have hd := wc_div16 (b := 27) hwk.2
          have hcl : (q.1.2.2.take i).countP (fun w => w.2.2) ≤ 8 := Nat.le_trans List.countP_le_length (by rw [List.length_take]; omega)
          have hih := ih (i + 1) (by omega)
          rw [cntP_take hw] at hih
          have hQ : spQ q.1.2.2 x i = (w.2.2 && (nI ((q.1.2.2.take i).countP (fun w => w.2.2)) == x)) := by unfold spQ; rw [hw]
          have ext : spQ q.1.2.2 x i = false → ∀ j, j < i + 1 → spQ q.1.2.2 x j = false := fun h j hj => by
            rcases Nat.lt_or_ge j i with e | e
            · exact hno j e
            · rw [show j = i by omega]; exact h
          refine r_iload 4 dX10_trail_30 rfl ?_
          refine r_aload_n 0 dX10_trail_32 rfl rfl ?_
          refine r_iload_n 1 dX10_trail_33 rfl rfl ?_
          refine r_callVp [_] dX10_trail_34 ok_RX10_166 ivX10_words (by assumption) ⟨_, _, rfl⟩ rfl rfl (Nat.le_of_ble_eq_true rfl) (by refine ⟨?_, ?_, ?_, ?_⟩ <;> exact Nat.le_of_ble_eq_true rfl) (m_words hL hk hP.2.2.1) ?_
          refine r_icmpN_ge 82 dX10_trail_37 (by decide) (by omega) (by omega) (fun h37 => ?_) (fun h37 => ?_)
          · omega
          · refine r_aload_n 0 dX10_trail_40 rfl rfl ?_
            refine r_iload_n 1 dX10_trail_41 rfl rfl ?_
            refine r_iload 4 dX10_trail_42 rfl ?_
            refine r_callVp [_, _] dX10_trail_44 ok_RX10_169 ivX10_word (by assumption) ⟨_, _, rfl⟩ rfl rfl (Nat.le_of_ble_eq_true rfl) (by refine ⟨?_, ?_, ?_, ?_⟩ <;> exact Nat.le_of_ble_eq_true rfl) (m_word hL hk (by omega) (hP.2.2.2 i w hw)) ?_
            refine r_callSp [_] dX10_trail_47 ok_RX10_135 isX10_isSpent rfl rfl (Nat.le_of_ble_eq_true rfl) (by refine ⟨?_, ?_, ?_, ?_⟩ <;> exact Nat.le_of_ble_eq_true rfl) (m_spW hwk) ?_
            refine r_ifB_eq 76 dX10_trail_50 (by decide) (fun h50 => ?_) (fun h50 => ?_)
            · refine r_iincN 4 (b := 1) (ls2 := [_, _, _, _, _]) dX10_trail_76 rfl (by decide) (by decide) rfl ?_
              refine r_goto 30 dX10_trail_79 (by decide) ?_
              first | (rw [h50] at hih hQ; exact hih (ext hQ)) | (rw [h50] at hih hQ; refine hih (ext ?_); rw [hQ]; simpa using h55)
            · refine r_iload_n 3 dX10_trail_53 rfl rfl ?_
              refine r_iload_n 2 dX10_trail_54 rfl rfl ?_
              refine r_icmp_ne 73 dX10_trail_55 (by decide) (fun h55 => ?_) (fun h55 => ?_)
              · refine r_iincN 3 (b := 1) (ls2 := [_, _, _, _, _]) dX10_trail_73 rfl (by decide) (by decide) rfl ?_
                refine r_iincN 4 (b := 1) (ls2 := [_, _, _, _, _]) dX10_trail_76 rfl (by decide) (by decide) rfl ?_
                refine r_goto 30 dX10_trail_79 (by decide) ?_
                first | (rw [h50] at hih hQ; exact hih (ext hQ)) | (rw [h50] at hih hQ; refine hih (ext ?_); rw [hQ]; simpa using h55)
              · refine r_aload_n 0 dX10_trail_58 rfl rfl ?_
                refine r_aload_n 0 dX10_trail_59 rfl rfl ?_
                refine r_iload_n 1 dX10_trail_60 rfl rfl ?_
                refine r_iload 4 dX10_trail_61 rfl ?_
                refine r_callVp [_, _] dX10_trail_63 ok_RX10_169 ivX10_word (by assumption) ⟨_, _, rfl⟩ rfl rfl (Nat.le_of_ble_eq_true rfl) (by refine ⟨?_, ?_, ?_, ?_⟩ <;> exact Nat.le_of_ble_eq_true rfl) (m_word hL hk (by omega) (hP.2.2.2 i w hw)) ?_
                refine r_bipush (v := nI 16) dX10_trail_66 (by decide) ?_
                refine r_idivN dX10_trail_68 (by omega) (by omega) (by omega) ?_
                rw [hd]
                refine r_callVp [_] dX10_trail_69 ok_RX10_181 ivX10_stationOf (by assumption) ⟨_, _, rfl⟩ rfl rfl (Nat.le_of_ble_eq_true rfl) (by refine ⟨?_, ?_, ?_, ?_⟩ <;> exact Nat.le_of_ble_eq_true rfl) (m_stationOf hL (c := fun t => (stA σ t).1.1) (fun t ht => ⟨by rw [Nat.zero_add]; exact (hR.2.1.1.1 t ht).1.1, (hok.2.1.1.1 t ht).1.1⟩) (fun a b ha hb' e => hok.2.1.1.2 a b ha hb' e) hwk.1) ?_
                refine r_iret dX10_trail_72 rfl (Nat.le_of_ble_eq_true rfl) (Nat.le_of_ble_eq_true rfl) ?_
                refine ⟨rfl, rfl, rfl, ?_⟩
                have hQt : spQ q.1.2.2 x i = true := by (rw [hQ, h50]; simpa using h55)
                have hF : spF q.1.2.2 x = some i := fr_at (by omega) hQt hno
                rw [hsp, if_neg (by rw [← h55]; exact nI_ne1 (by omega)), hF]
                simp only [hw]
                exact PM.same hR
      refine Mv.of pnX10_trail (Nat.le_of_ble_eq_true rfl) rfl ?_
      refine r_iload_n 1 dX10_trail_0 rfl rfl ?_
      refine r_callSp [_] dX10_trail_1 ok_RX10_78 isX10_isStation rfl rfl (Nat.le_of_ble_eq_true rfl) (by refine ⟨?_, ?_, ?_, ?_⟩ <;> exact Nat.le_of_ble_eq_true rfl) (c_isStation _) ?_
      rw [hb]
      refine r_ifB_ne 9 dX10_trail_4 (by decide) (fun h4 => ?_) (fun h4 => ?_)
      · refine r_aload_n 0 dX10_trail_9 rfl rfl ?_
        refine r_getR dX10_trail_10 fl_RX10_7 rfl (by assumption) (by assumption) ?_
        refine r_sipush (v := nI 1380) dX10_trail_13 (by decide) ?_
        refine r_iload_n 1 dX10_trail_16 rfl rfl ?_
        refine r_iaddN dX10_trail_17 ?_
        refine r_ialdV dX10_trail_18 (by assumption) (by omega) (by omega) (by first | assumption | exact up2_same _ _ _ _ | exact (Eq.trans (up2_ne _ _ (by omega)) (by first | assumption | exact up2_same _ _ _ _)) | exact (Eq.trans (up2_ne _ _ (by omega)) (Eq.trans (up2_ne _ _ (by omega)) (by first | assumption | exact up2_same _ _ _ _))) | exact (Eq.trans (up2_ne _ _ (by omega)) (Eq.trans (up2_ne _ _ (by omega)) (Eq.trans (up2_ne _ _ (by omega)) (by first | assumption | exact up2_same _ _ _ _)))) | exact (Eq.trans (up2_ne _ _ (by omega)) (Eq.trans (up2_ne _ _ (by omega)) (Eq.trans (up2_ne _ _ (by omega)) (Eq.trans (up2_ne _ _ (by omega)) (by first | assumption | exact up2_same _ _ _ _))))) | rfl) ?_
        refine r_ifN_ge 25 dX10_trail_19 (by decide) (by omega) ?_
        refine r_iconst (v := nI 0) dX10_trail_25 (by decide) ?_
        refine r_istore_n 3 (ls2 := [_, _, _, _]) dX10_trail_26 rfl (by decide) (Nat.le_of_ble_eq_true rfl) rfl ?_
        refine r_iconst (v := nI 0) dX10_trail_27 (by decide) ?_
        refine r_istore 4 (ls2 := [_, _, _, _, _]) dX10_trail_28 (by decide) (Nat.le_of_ble_eq_true rfl) rfl ?_
        exact H q.1.2.2.length 0 (by omega) (fun j hj => by omega)
      · exact absurd h4 (by decide)
  · have hb' : stB s = false := by simpa using hb
    have hsp : sp_trail σ s x = (-1, σ) := by unfold sp_trail; rw [if_pos hb']
    rw [hsp]
    refine Mv.of pnX10_trail (Nat.le_of_ble_eq_true rfl) rfl ?_
    refine r_iload_n 1 dX10_trail_0 rfl rfl ?_
    refine r_callSp [_] dX10_trail_1 ok_RX10_78 isX10_isStation rfl rfl (Nat.le_of_ble_eq_true rfl) (by refine ⟨?_, ?_, ?_, ?_⟩ <;> exact Nat.le_of_ble_eq_true rfl) (c_isStation _) ?_
    rw [hb']
    refine r_ifB_ne 9 dX10_trail_4 (by decide) (fun h4 => ?_) (fun h4 => ?_)
    · exact absurd h4 (by decide)
    · refine r_iconst (v := -1) dX10_trail_7 (by decide) ?_
      refine r_iret dX10_trail_8 rfl (Nat.le_of_ble_eq_true rfl) (Nat.le_of_ble_eq_true rfl) ?_
      exact ⟨rfl, rfl, rfl, PM.same hR⟩
def LnM (m : MI) (o : Nat) (D : List Nat) : Prop := m o 13 = nI D.length ∧ ∀ i x, D[i]? = some x → m (o + 10) i = nI x
def LF (mi m : MI) (o : Nat) : Prop := (∀ x, x ≠ o → x ≠ o + 10 → m x = mi x) ∧ ∀ k, k ≠ 13 → m o k = mi o k
theorem LF.tr {m m' : MI} (h : LF mi m o) (h' : LF m m' o) : LF mi m' o := ⟨fun x a b => (h'.1 x a b).trans (h.1 x a b), fun k a => (h'.2 k a).trans (h.2 k a)⟩
theorem m_put (hL : LM sh mr o) {D : List Nat} (hW : LnM mi o D) (hl : D.length < 80) {x : Nat} : Mi mX10_put 0 [.ref o, .int (nI x)] z sh mi mr (fun v m => v = none ∧ LnM m o (D ++ [x]) ∧ LF mi m o) := by
  obtain ⟨l0, -, -, -, -, -, -, -, -, -, ⟨l19, l20⟩⟩ := id hL
  obtain ⟨w1, w2⟩ := id hW
  have w1' : ∀ v, up2 mi (o + 10) D.length v o 13 = nI D.length := fun v => by rw [up2_row _ _ (by omega)]; exact w1
  have w1a := w1' (nI x)
  refine Mv.of pnX10_put (Nat.le_of_ble_eq_true rfl) rfl ?_
  refine r_aload_n 0 dX10_put_0 rfl rfl ?_
  refine r_getR dX10_put_1 fl_RX10_38 rfl (by assumption) (by assumption) ?_
  refine r_aload_n 0 dX10_put_4 rfl rfl ?_
  refine r_getV dX10_put_5 fl_RX10_157 rfl (by assumption) (by first | assumption | exact up2_same _ _ _ _ | exact (Eq.trans (up2_ne _ _ (by omega)) (by first | assumption | exact up2_same _ _ _ _)) | exact (Eq.trans (up2_ne _ _ (by omega)) (Eq.trans (up2_ne _ _ (by omega)) (by first | assumption | exact up2_same _ _ _ _))) | exact (Eq.trans (up2_ne _ _ (by omega)) (Eq.trans (up2_ne _ _ (by omega)) (Eq.trans (up2_ne _ _ (by omega)) (by first | assumption | exact up2_same _ _ _ _)))) | exact (Eq.trans (up2_ne _ _ (by omega)) (Eq.trans (up2_ne _ _ (by omega)) (Eq.trans (up2_ne _ _ (by omega)) (Eq.trans (up2_ne _ _ (by omega)) (by first | assumption | exact up2_same _ _ _ _))))) | rfl) ?_
  refine r_iload_n 1 dX10_put_8 rfl rfl ?_
  refine r_iast dX10_put_9 (by assumption) (by omega) (by omega) ?_
  refine r_aload_n 0 dX10_put_10 rfl rfl ?_
  refine r_dup dX10_put_11 rfl ?_
  refine r_getV dX10_put_12 fl_RX10_157 rfl (by assumption) (by first | assumption | exact up2_same _ _ _ _ | exact (Eq.trans (up2_ne _ _ (by omega)) (by first | assumption | exact up2_same _ _ _ _)) | exact (Eq.trans (up2_ne _ _ (by omega)) (Eq.trans (up2_ne _ _ (by omega)) (by first | assumption | exact up2_same _ _ _ _))) | exact (Eq.trans (up2_ne _ _ (by omega)) (Eq.trans (up2_ne _ _ (by omega)) (Eq.trans (up2_ne _ _ (by omega)) (by first | assumption | exact up2_same _ _ _ _)))) | exact (Eq.trans (up2_ne _ _ (by omega)) (Eq.trans (up2_ne _ _ (by omega)) (Eq.trans (up2_ne _ _ (by omega)) (Eq.trans (up2_ne _ _ (by omega)) (by first | assumption | exact up2_same _ _ _ _))))) | rfl) ?_
  refine r_iconst (v := nI 1) dX10_put_15 (by decide) ?_
  refine r_iaddN dX10_put_16 ?_
  refine r_putI dX10_put_17 fl_RX10_157 rfl rfl rfl (by assumption) ?_
  refine r_vret dX10_put_20 rfl (Nat.le_of_ble_eq_true rfl) (Nat.le_of_ble_eq_true rfl) ?_
  refine ⟨rfl, rfl, rfl, rfl, ⟨by rw [up2_same, List.length_append]; rfl, fun i y hy => ?_⟩, fun q q1 q2 => by rw [up2_row _ _ q1, up2_row _ _ q2], fun q q1 => by rw [up2_ne _ _ (Or.inr q1), up2_row _ _ (by omega)]⟩
  rw [up2_row _ _ (by omega)]
  by_cases e : i = D.length
  · subst e
    rw [List.getElem?_append_right (Nat.le_refl _), Nat.sub_self] at hy
    cases hy
    exact up2_same _ _ _ _
  · have hil := gl_lt hy
    rw [List.length_append] at hil
    simp at hil
    rw [List.getElem?_append_left (by omega)] at hy
    rw [up2_ne _ _ (Or.inr e)]; exact w2 i y hy
def pw (k : Nat) : Nat := match k with
  | 0 => 0
  | 1 => 1
  | 2 => 27
  | 3 => 729
  | _ => 19683
theorem pw_s : ∀ k, k < 4 → 0 < pw (k + 1) ∧ pw (k + 1) ≤ 19683 ∧ pw (k + 1) / 27 = pw k := by decide
def rst (f v : Nat) : Nat → List Nat
  | 0 => []
  | k + 1 => odq f (v / pw (k + 1) % 27) ++ rst f v k
theorem rst_4 {f : Nat} {l : Nm} (h : okL 4 l) : rst f (en 27 l) 4 = sgn f l := by
  rw [← od_en (b := 27) (f := f) (by omega) (by omega) h]
  show odq f (en 27 l / 19683 % 27) ++ (odq f (en 27 l / 729 % 27) ++ (odq f (en 27 l / 27 % 27) ++ (odq f (en 27 l / 1 % 27) ++ []))) = _
  rw [Nat.div_one, List.append_nil]
theorem m_putLetters (hL : LM sh mr o) {D : List Nat} (hW : LnM mi o D) {f : Nat} (hf : f ≤ 100) (hf1 : 1 ≤ f) {l : Nm} (hl : okL 4 l) (hlen : (D ++ sgn f l).length ≤ 64) : Mi mX10_putLetters 1 [.ref o, .int (nI (en 27 l)), .int (nI f)] z sh mi mr (fun v m => v = none ∧ LnM m o (D ++ sgn f l) ∧ LF mi m o) := by
  obtain ⟨l0, -⟩ := id hL
  have hv := okT_27 hl
  rw [← rst_4 hl] at hlen ⊢
  generalize en 27 l = v at hlen hv ⊢
  have H : ∀ (k : Nat) (m : MI) (D' : List Nat), k ≤ 4 → LnM m o D' → LF mi m o → D' ++ rst f v k = D ++ rst f v 4 → Wp yX10_putLetters cX10_putLetters 4 none (EI 1 z sh mr (fun w m => w = none ∧ LnM m o (D ++ rst f v 4) ∧ LF mi m o)) 0 0 4 [.ref o, .int (nI v), .int (nI f), .int (nI (pw k))] [] z sh m mr := by
    intro k
    induction k with
    | zero =>
      intro m D' hk hW' hF he
      have hp0 : pw 0 = 0 := rfl
      rw [hp0]
      refine r_iload_n 3 dX10_putLetters_4 rfl rfl ?_
      refine r_ifN_le 39 dX10_putLetters_5 (by decide) (by omega) (fun h5 => ?_) (fun h5 => ?_)
      · refine r_vret dX10_putLetters_39 rfl (Nat.le_of_ble_eq_true rfl) (Nat.le_of_ble_eq_true rfl) ?_
        refine ⟨rfl, rfl, rfl, rfl, ?_, hF⟩
        rw [← he]; show LnM m o (D' ++ []); rw [List.append_nil]; exact hW'
      · omega
    | succ k ih =>
      intro m D' hk hW' hF he
      obtain ⟨p1, p2, p3⟩ := pw_s k (by omega)
      have hr : rst f v (k + 1) = odq f (v / pw (k + 1) % 27) ++ rst f v k := rfl
      rw [hr] at he
      have hlD : D'.length ≤ 64 := by
        have := congrArg List.length he
        rw [List.length_append] at this
        omega
      generalize hB : pw (k + 1) = B at p1 p2 p3 he ⊢
      have hdv : v / B ≤ v := Nat.div_le_self _ _
      generalize hdd : v / B % 27 = d at he
      have hd27 : d < 27 := by rw [← hdd]; exact Nat.mod_lt _ (by omega)
      refine r_iload_n 3 dX10_putLetters_4 rfl rfl ?_
      refine r_ifN_le 39 dX10_putLetters_5 (by decide) (by omega) (fun h5 => ?_) (fun h5 => ?_)
      · omega
      · refine r_iload_n 1 dX10_putLetters_8 rfl rfl ?_
        refine r_iload_n 3 dX10_putLetters_9 rfl rfl ?_
        refine r_idivN dX10_putLetters_10 (by omega) (by omega) (by omega) ?_
        refine r_bipush (v := nI 27) dX10_putLetters_11 (by decide) ?_
        refine r_iremN dX10_putLetters_13 (by omega) (by omega) (by omega) ?_
        rw [hdd]
        refine r_ifN_le 31 dX10_putLetters_14 (by decide) (by omega) (fun h14 => ?_) (fun h14 => ?_)
        · refine r_iload_n 3 dX10_putLetters_31 rfl rfl ?_
          refine r_bipush (v := nI 27) dX10_putLetters_32 (by decide) ?_
          refine r_idivN dX10_putLetters_34 (by omega) (by omega) (by omega) ?_
          refine r_istore_n 3 (ls2 := [_, _, _, _]) dX10_putLetters_35 rfl (by decide) (Nat.le_of_ble_eq_true rfl) rfl ?_
          refine r_goto 4 dX10_putLetters_36 (by decide) ?_
          rw [p3]
          first | exact ih m D' (by omega) hW' hF (by rw [← he, odq_z h14]; rfl) | exact ih mA _ (by omega) u1 (hF.tr u2) (by rw [← he, odq_p h14, List.append_assoc])
        · refine r_aload_n 0 dX10_putLetters_17 rfl rfl ?_
          refine r_iload_n 2 dX10_putLetters_18 rfl rfl ?_
          refine r_iload_n 1 dX10_putLetters_19 rfl rfl ?_
          refine r_iload_n 3 dX10_putLetters_20 rfl rfl ?_
          refine r_idivN dX10_putLetters_21 (by omega) (by omega) (by omega) ?_
          refine r_bipush (v := nI 27) dX10_putLetters_22 (by decide) ?_
          refine r_iremN dX10_putLetters_24 (by omega) (by omega) (by omega) ?_
          rw [hdd]
          refine r_iaddN dX10_putLetters_25 ?_
          refine r_iconst (v := nI 1) dX10_putLetters_26 (by decide) ?_
          refine r_isubN dX10_putLetters_27 (by omega) ?_
          refine r_callVw [_] dX10_putLetters_28 ok_RX10_160 ivX10_put (by assumption) ⟨_, _, rfl⟩ rfl rfl (Nat.le_of_ble_eq_true rfl) (by refine ⟨?_, ?_, ?_, ?_⟩ <;> exact Nat.le_of_ble_eq_true rfl) (m_put hL hW' (by omega)) ?_
          intro mA ⟨u1, u2⟩
          refine r_iload_n 3 dX10_putLetters_31 rfl rfl ?_
          refine r_bipush (v := nI 27) dX10_putLetters_32 (by decide) ?_
          refine r_idivN dX10_putLetters_34 (by omega) (by omega) (by omega) ?_
          refine r_istore_n 3 (ls2 := [_, _, _, _]) dX10_putLetters_35 rfl (by decide) (Nat.le_of_ble_eq_true rfl) rfl ?_
          refine r_goto 4 dX10_putLetters_36 (by decide) ?_
          rw [p3]
          first | exact ih m D' (by omega) hW' hF (by rw [← he, odq_z h14]; rfl) | exact ih mA _ (by omega) u1 (hF.tr u2) (by rw [← he, odq_p h14, List.append_assoc])
  refine Mv.of pnX10_putLetters (Nat.le_of_ble_eq_true rfl) rfl ?_
  refine r_sipush (v := nI 19683) dX10_putLetters_0 (by decide) ?_
  refine r_istore_n 3 (ls2 := [_, _, _, _]) dX10_putLetters_3 rfl (by decide) (Nat.le_of_ble_eq_true rfl) rfl ?_
  exact H 4 mi D (Nat.le_refl _) hW ⟨fun _ _ _ => rfl, fun _ _ => rfl⟩ rfl
theorem m_layLine (hL : LM sh mr o) {s : Nat} (hs : s < 6) {p : Pk} (hp : PkM (mi (o + 1)) (1314 + 11 * s) p) (hpk : okP p) : Mi mX10_layLine 2 [.ref o, .int (nI s)] z sh mi mr (fun v m => v = none ∧ LnM m o (wrP p) ∧ LF mi m o) := by
  obtain ⟨l0, ⟨l1, l2⟩, -⟩ := id hL
  have h64 := wrP_len hpk
  have h8 := hpk.2.2.1
  have hwr : wrP p = sgn 65 p.1 ++ (62 :: (jw p.2.2 0 ++ (58 :: sgn 97 p.2.1))) := rfl
  generalize wrP p = F at h64 hwr ⊢
  have hrow : ∀ m, LF mi m o → m (o + 1) = mi (o + 1) := fun m h => h.1 _ (by omega) (by omega)
  have hlen : ∀ (D X : List Nat), D ++ X = F → D.length + X.length ≤ 64 := fun D X e => by rw [← List.length_append, e]; exact h64
  have H : ∀ (t i : Nat) (m : MI) (D : List Nat), i + t = p.2.2.length → LnM m o D → LF mi m o → D ++ (jw (p.2.2.drop i) i ++ (58 :: sgn 97 p.2.1)) = F → Wp yX10_layLine cX10_layLine 3 none (EI 2 z sh mr (fun v m => v = none ∧ LnM m o F ∧ LF mi m o)) 0 0 32 [.ref o, .int (nI s), .int (nI i)] [] z sh m mr := by
    intro t
    induction t with
    | zero =>
      intro i m D hi hW hF he
      have hi : i = p.2.2.length := hi
      subst hi
      rw [List.drop_length] at he
      have he : D ++ (58 :: sgn 97 p.2.1) = F := he
      have hl := hlen _ _ he
      rw [List.length_cons] at hl
      have hPm : PkM (m (o + 1)) (1314 + 11 * s) p := by rw [hrow m hF]; exact hp
      refine r_iload_n 2 dX10_layLine_32 rfl rfl ?_
      refine r_aload_n 0 dX10_layLine_33 rfl rfl ?_
      refine r_iload_n 1 dX10_layLine_34 rfl rfl ?_
      refine r_callVp [_] dX10_layLine_35 ok_RX10_166 ivX10_words (by assumption) ⟨_, _, rfl⟩ rfl rfl (Nat.le_of_ble_eq_true rfl) (by refine ⟨?_, ?_, ?_, ?_⟩ <;> exact Nat.le_of_ble_eq_true rfl) (m_words hL hs hPm.2.2.1) ?_
      refine r_icmpN_ge 124 dX10_layLine_38 (by decide) (by omega) (by omega) (fun h38 => ?_) (fun h38 => ?_)
      · refine r_aload_n 0 dX10_layLine_124 rfl rfl ?_
        refine r_bipush (v := nI 58) dX10_layLine_125 (by decide) ?_
        refine r_callVw [_] dX10_layLine_127 ok_RX10_160 ivX10_put (by assumption) ⟨_, _, rfl⟩ rfl rfl (Nat.le_of_ble_eq_true rfl) (by refine ⟨?_, ?_, ?_, ?_⟩ <;> exact Nat.le_of_ble_eq_true rfl) (m_put hL hW (by omega)) ?_
        intro mA ⟨u1, u2⟩
        have uF := hF.tr u2
        have uv : mA (o + 1) (1314 + 11 * s + 1) = nI (en 27 p.2.1) := by rw [hrow mA uF]; exact hp.2.1
        refine r_aload_n 0 dX10_layLine_130 rfl rfl ?_
        refine r_aload_n 0 dX10_layLine_131 rfl rfl ?_
        refine r_getR dX10_layLine_132 fl_RX10_7 rfl (by assumption) (by assumption) ?_
        refine r_sipush (v := nI 1314) dX10_layLine_135 (by decide) ?_
        refine r_bipush (v := nI 11) dX10_layLine_138 (by decide) ?_
        refine r_iload_n 1 dX10_layLine_140 rfl rfl ?_
        refine r_imulN dX10_layLine_141 ?_
        refine r_iaddN dX10_layLine_142 ?_
        refine r_iconst (v := nI 1) dX10_layLine_143 (by decide) ?_
        refine r_iaddN dX10_layLine_144 ?_
        refine r_ialdV dX10_layLine_145 (by assumption) (by omega) (by omega) (by first | assumption | exact up2_same _ _ _ _ | exact (Eq.trans (up2_ne _ _ (by omega)) (by first | assumption | exact up2_same _ _ _ _)) | exact (Eq.trans (up2_ne _ _ (by omega)) (Eq.trans (up2_ne _ _ (by omega)) (by first | assumption | exact up2_same _ _ _ _))) | exact (Eq.trans (up2_ne _ _ (by omega)) (Eq.trans (up2_ne _ _ (by omega)) (Eq.trans (up2_ne _ _ (by omega)) (by first | assumption | exact up2_same _ _ _ _)))) | exact (Eq.trans (up2_ne _ _ (by omega)) (Eq.trans (up2_ne _ _ (by omega)) (Eq.trans (up2_ne _ _ (by omega)) (Eq.trans (up2_ne _ _ (by omega)) (by first | assumption | exact up2_same _ _ _ _))))) | rfl) ?_
        refine r_bipush (v := nI 97) dX10_layLine_146 (by decide) ?_
        refine r_callVw [_, _] dX10_layLine_148 ok_RX10_163 ivX10_putLetters (by assumption) ⟨_, _, rfl⟩ rfl rfl (Nat.le_of_ble_eq_true rfl) (by refine ⟨?_, ?_, ?_, ?_⟩ <;> exact Nat.le_of_ble_eq_true rfl) (m_putLetters hL u1 (by omega) (by omega) hpk.2.1 (by rw [List.append_assoc]; show (D ++ (58 :: sgn 97 p.2.1)).length ≤ 64; rw [he]; exact h64)) ?_
        intro mB ⟨u3, u4⟩
        refine r_vret dX10_layLine_151 rfl (Nat.le_of_ble_eq_true rfl) (Nat.le_of_ble_eq_true rfl) ?_
        refine ⟨rfl, rfl, rfl, rfl, ?_, uF.tr u4⟩
        rw [← he]
        rw [List.append_assoc] at u3
        exact u3
      · omega
    | succ t ih =>
      intro i m D hi hW hF he
      obtain ⟨w, hw⟩ := gl_ex (l := p.2.2) (i := i) (by omega)
      have hwk := hpk.2.2.2 w (gl_mem hw)
      have hlt := wc_lt27 hwk
      have hd := wc_div16 (b := 27) hwk.2
      have hw7 := hwk.2
      rw [drop_1 hw] at he
      have hjw : jw (w :: p.2.2.drop (i + 1)) i = (if 0 < i then [44] else []) ++ (wrW w ++ jw (p.2.2.drop (i + 1)) (i + 1)) := rfl
      have hwW : wrW w = sgn 65 w.1 ++ ((if 0 < w.2.1 then [45, 48 + w.2.1] else []) ++ (if w.2.2 = true then [42] else [])) := rfl
      rw [hjw, hwW, List.append_assoc, List.append_assoc, List.append_assoc, List.append_assoc] at he
      obtain ⟨R, hRR⟩ : ∃ R, R = jw (p.2.2.drop (i + 1)) (i + 1) ++ (58 :: sgn 97 p.2.1) := ⟨_, rfl⟩
      rw [← hRR] at he
      have hwd : ∀ m, LF mi m o → m (o + 1) (1314 + 11 * s + 3 + i) = nI (wc 27 w) := fun m h => by rw [hrow m h]; exact hp.2.2.2 i w hw
      have K118 : ∀ (m : MI) (D : List Nat), LnM m o D → LF mi m o → D ++ R = F → Wp yX10_layLine cX10_layLine 3 none (EI 2 z sh mr (fun v m => v = none ∧ LnM m o F ∧ LF mi m o)) 0 0 118 [.ref o, .int (nI s), .int (nI i)] [] z sh m mr := by
        intro m D hW hF he
        refine r_iincN 2 (b := 1) (ls2 := [_, _, _]) dX10_layLine_118 rfl (by decide) (by decide) rfl ?_
        refine r_goto 32 dX10_layLine_121 (by decide) ?_
        exact ih (i + 1) m D (by omega) hW hF (by rw [← hRR]; exact he)
      have K100 : ∀ (m : MI) (D : List Nat), LnM m o D → LF mi m o → D ++ ((if w.2.2 = true then [42] else []) ++ R) = F → Wp yX10_layLine cX10_layLine 3 none (EI 2 z sh mr (fun v m => v = none ∧ LnM m o F ∧ LF mi m o)) 0 0 100 [.ref o, .int (nI s), .int (nI i)] [] z sh m mr := by
        intro m D hW hF he
        have hl := hlen _ _ he
        rw [List.length_append] at hl
        refine r_aload_n 0 dX10_layLine_100 rfl rfl ?_
        refine r_iload_n 1 dX10_layLine_101 rfl rfl ?_
        refine r_iload_n 2 dX10_layLine_102 rfl rfl ?_
        refine r_callVp [_, _] dX10_layLine_103 ok_RX10_169 ivX10_word (by assumption) ⟨_, _, rfl⟩ rfl rfl (Nat.le_of_ble_eq_true rfl) (by refine ⟨?_, ?_, ?_, ?_⟩ <;> exact Nat.le_of_ble_eq_true rfl) (m_word hL hs (by omega) (hwd m hF)) ?_
        refine r_callSp [_] dX10_layLine_106 ok_RX10_135 isX10_isSpent rfl rfl (Nat.le_of_ble_eq_true rfl) (by refine ⟨?_, ?_, ?_, ?_⟩ <;> exact Nat.le_of_ble_eq_true rfl) (m_spW hwk) ?_
        refine r_ifB_eq 118 dX10_layLine_109 (by decide) (fun h109 => ?_) (fun h109 => ?_)
        · first | exact K118 m D hW hF (by rw [← he, h109]; rfl) | exact K118 mA _ u1 (hF.tr u2) (by rw [← he, h109, List.append_assoc]; rfl)
        · refine r_aload_n 0 dX10_layLine_112 rfl rfl ?_
          refine r_bipush (v := nI 42) dX10_layLine_113 (by decide) ?_
          refine r_callVw [_] dX10_layLine_115 ok_RX10_160 ivX10_put (by assumption) ⟨_, _, rfl⟩ rfl rfl (Nat.le_of_ble_eq_true rfl) (by refine ⟨?_, ?_, ?_, ?_⟩ <;> exact Nat.le_of_ble_eq_true rfl) (m_put hL hW (by omega)) ?_
          intro mA ⟨u1, u2⟩
          first | exact K118 m D hW hF (by rw [← he, h109]; rfl) | exact K118 mA _ u1 (hF.tr u2) (by rw [← he, h109, List.append_assoc]; rfl)
      have K66 : ∀ (m : MI) (D : List Nat), LnM m o D → LF mi m o → D ++ ((if 0 < w.2.1 then [45, 48 + w.2.1] else []) ++ ((if w.2.2 = true then [42] else []) ++ R)) = F → Wp yX10_layLine cX10_layLine 3 none (EI 2 z sh mr (fun v m => v = none ∧ LnM m o F ∧ LF mi m o)) 0 0 66 [.ref o, .int (nI s), .int (nI i)] [] z sh m mr := by
        intro m D hW hF he
        have hl := hlen _ _ he
        rw [List.length_append, List.length_append] at hl
        refine r_aload_n 0 dX10_layLine_66 rfl rfl ?_
        refine r_iload_n 1 dX10_layLine_67 rfl rfl ?_
        refine r_iload_n 2 dX10_layLine_68 rfl rfl ?_
        refine r_callVp [_, _] dX10_layLine_69 ok_RX10_169 ivX10_word (by assumption) ⟨_, _, rfl⟩ rfl rfl (Nat.le_of_ble_eq_true rfl) (by refine ⟨?_, ?_, ?_, ?_⟩ <;> exact Nat.le_of_ble_eq_true rfl) (m_word hL hs (by omega) (hwd m hF)) ?_
        refine r_callSp [_] dX10_layLine_72 ok_RX10_144 isX10_hopsOf rfl rfl (Nat.le_of_ble_eq_true rfl) (by refine ⟨?_, ?_, ?_, ?_⟩ <;> exact Nat.le_of_ble_eq_true rfl) (m_hoW hwk) ?_
        refine r_ifN_le 100 dX10_layLine_75 (by decide) (by omega) (fun h75 => ?_) (fun h75 => ?_)
        · first | exact K100 m D hW hF (by rw [← he, if_neg (show ¬ 0 < w.2.1 by omega)]; rfl) | exact K100 mB _ u3 (uF.tr u4) (by rw [← he, List.append_assoc, List.append_assoc]; rfl)
        · refine r_aload_n 0 dX10_layLine_78 rfl rfl ?_
          refine r_bipush (v := nI 45) dX10_layLine_79 (by decide) ?_
          refine r_callVw [_] dX10_layLine_81 ok_RX10_160 ivX10_put (by assumption) ⟨_, _, rfl⟩ rfl rfl (Nat.le_of_ble_eq_true rfl) (by refine ⟨?_, ?_, ?_, ?_⟩ <;> exact Nat.le_of_ble_eq_true rfl) (m_put hL hW (by omega)) ?_
          intro mA ⟨u1, u2⟩
          have uF := hF.tr u2
          rw [if_pos h75] at he hl
          have hl2 : (D ++ [45]).length < 80 := by (rw [List.length_append]; simp; omega)
          refine r_aload_n 0 dX10_layLine_84 rfl rfl ?_
          refine r_bipush (v := nI 48) dX10_layLine_85 (by decide) ?_
          refine r_aload_n 0 dX10_layLine_87 rfl rfl ?_
          refine r_iload_n 1 dX10_layLine_88 rfl rfl ?_
          refine r_iload_n 2 dX10_layLine_89 rfl rfl ?_
          refine r_callVp [_, _] dX10_layLine_90 ok_RX10_169 ivX10_word (by assumption) ⟨_, _, rfl⟩ rfl rfl (Nat.le_of_ble_eq_true rfl) (by refine ⟨?_, ?_, ?_, ?_⟩ <;> exact Nat.le_of_ble_eq_true rfl) (m_word hL hs (by omega) (hwd mA uF)) ?_
          refine r_callSp [_] dX10_layLine_93 ok_RX10_144 isX10_hopsOf rfl rfl (Nat.le_of_ble_eq_true rfl) (by refine ⟨?_, ?_, ?_, ?_⟩ <;> exact Nat.le_of_ble_eq_true rfl) (m_hoW hwk) ?_
          refine r_iaddN dX10_layLine_96 ?_
          refine r_callVw [_] dX10_layLine_97 ok_RX10_160 ivX10_put (by assumption) ⟨_, _, rfl⟩ rfl rfl (Nat.le_of_ble_eq_true rfl) (by refine ⟨?_, ?_, ?_, ?_⟩ <;> exact Nat.le_of_ble_eq_true rfl) (m_put hL u1 hl2) ?_
          intro mB ⟨u3, u4⟩
          first | exact K100 m D hW hF (by rw [← he, if_neg (show ¬ 0 < w.2.1 by omega)]; rfl) | exact K100 mB _ u3 (uF.tr u4) (by rw [← he, List.append_assoc, List.append_assoc]; rfl)
      have K51 : ∀ (m : MI) (D : List Nat), LnM m o D → LF mi m o → D ++ (sgn 65 w.1 ++ ((if 0 < w.2.1 then [45, 48 + w.2.1] else []) ++ ((if w.2.2 = true then [42] else []) ++ R))) = F → Wp yX10_layLine cX10_layLine 3 none (EI 2 z sh mr (fun v m => v = none ∧ LnM m o F ∧ LF mi m o)) 0 0 51 [.ref o, .int (nI s), .int (nI i)] [] z sh m mr := by
        intro m D hW hF he
        have hl := hlen (D ++ sgn 65 w.1) ((if 0 < w.2.1 then [45, 48 + w.2.1] else []) ++ ((if w.2.2 = true then [42] else []) ++ R)) (by rw [List.append_assoc]; exact he)
        refine r_aload_n 0 dX10_layLine_51 rfl rfl ?_
        refine r_aload_n 0 dX10_layLine_52 rfl rfl ?_
        refine r_iload_n 1 dX10_layLine_53 rfl rfl ?_
        refine r_iload_n 2 dX10_layLine_54 rfl rfl ?_
        refine r_callVp [_, _] dX10_layLine_55 ok_RX10_169 ivX10_word (by assumption) ⟨_, _, rfl⟩ rfl rfl (Nat.le_of_ble_eq_true rfl) (by refine ⟨?_, ?_, ?_, ?_⟩ <;> exact Nat.le_of_ble_eq_true rfl) (m_word hL hs (by omega) (hwd m hF)) ?_
        refine r_bipush (v := nI 16) dX10_layLine_58 (by decide) ?_
        refine r_idivN dX10_layLine_60 (by omega) (by omega) (by omega) ?_
        rw [hd]
        refine r_bipush (v := nI 65) dX10_layLine_61 (by decide) ?_
        refine r_callVw [_, _] dX10_layLine_63 ok_RX10_163 ivX10_putLetters (by assumption) ⟨_, _, rfl⟩ rfl rfl (Nat.le_of_ble_eq_true rfl) (by refine ⟨?_, ?_, ?_, ?_⟩ <;> exact Nat.le_of_ble_eq_true rfl) (m_putLetters hL hW (by omega) (by omega) (okL_34 hwk.1) (by omega)) ?_
        intro mA ⟨u1, u2⟩
        exact K66 mA _ u1 (hF.tr u2) (by rw [← he, List.append_assoc])
      have hl := hlen _ _ he
      rw [List.length_append] at hl
      have hPm : PkM (m (o + 1)) (1314 + 11 * s) p := by rw [hrow m hF]; exact hp
      refine r_iload_n 2 dX10_layLine_32 rfl rfl ?_
      refine r_aload_n 0 dX10_layLine_33 rfl rfl ?_
      refine r_iload_n 1 dX10_layLine_34 rfl rfl ?_
      refine r_callVp [_] dX10_layLine_35 ok_RX10_166 ivX10_words (by assumption) ⟨_, _, rfl⟩ rfl rfl (Nat.le_of_ble_eq_true rfl) (by refine ⟨?_, ?_, ?_, ?_⟩ <;> exact Nat.le_of_ble_eq_true rfl) (m_words hL hs hPm.2.2.1) ?_
      refine r_icmpN_ge 124 dX10_layLine_38 (by decide) (by omega) (by omega) (fun h38 => ?_) (fun h38 => ?_)
      · omega
      · refine r_iload_n 2 dX10_layLine_41 rfl rfl ?_
        refine r_ifN_le 51 dX10_layLine_42 (by decide) (by omega) (fun h42 => ?_) (fun h42 => ?_)
        · first | exact K51 m D hW hF (by rw [← he, if_neg (show ¬ 0 < i by omega)]; rfl) | exact K51 mA _ u1 (hF.tr u2) (by rw [← he, if_pos h42, List.append_assoc])
        · refine r_aload_n 0 dX10_layLine_45 rfl rfl ?_
          refine r_bipush (v := nI 44) dX10_layLine_46 (by decide) ?_
          refine r_callVw [_] dX10_layLine_48 ok_RX10_160 ivX10_put (by assumption) ⟨_, _, rfl⟩ rfl rfl (Nat.le_of_ble_eq_true rfl) (by refine ⟨?_, ?_, ?_, ?_⟩ <;> exact Nat.le_of_ble_eq_true rfl) (m_put hL hW (by omega)) ?_
          intro mA ⟨u1, u2⟩
          first | exact K51 m D hW hF (by rw [← he, if_neg (show ¬ 0 < i by omega)]; rfl) | exact K51 mA _ u1 (hF.tr u2) (by rw [← he, if_pos h42, List.append_assoc])
  have W0 : LnM (up2 mi o 13 (nI 0)) o [] := ⟨up2_same _ _ _ _, fun i y hy => by simp at hy⟩
  have F0' : LF mi (up2 mi o 13 (nI 0)) o := ⟨fun x a b => up2_row _ _ a, fun k a => up2_ne _ _ (Or.inr a)⟩
  have hv0 : up2 mi o 13 (nI 0) (o + 1) (1314 + 11 * s) = nI (en 27 p.1) := by rw [up2_row _ _ (by omega)]; exact hp.1
  have hl0 : (sgn 65 p.1).length + 1 ≤ 64 := by
    rw [hwr, List.length_append, List.length_cons] at h64
    omega
  refine Mv.of pnX10_layLine (Nat.le_of_ble_eq_true rfl) rfl ?_
  refine r_aload_n 0 dX10_layLine_0 rfl rfl ?_
  refine r_iconst (v := nI 0) dX10_layLine_1 (by decide) ?_
  refine r_putI dX10_layLine_2 fl_RX10_157 rfl rfl rfl (by assumption) ?_
  refine r_aload_n 0 dX10_layLine_5 rfl rfl ?_
  refine r_aload_n 0 dX10_layLine_6 rfl rfl ?_
  refine r_getR dX10_layLine_7 fl_RX10_7 rfl (by assumption) (by assumption) ?_
  refine r_sipush (v := nI 1314) dX10_layLine_10 (by decide) ?_
  refine r_bipush (v := nI 11) dX10_layLine_13 (by decide) ?_
  refine r_iload_n 1 dX10_layLine_15 rfl rfl ?_
  refine r_imulN dX10_layLine_16 ?_
  refine r_iaddN dX10_layLine_17 ?_
  refine r_ialdV dX10_layLine_18 (by assumption) (by omega) (by omega) (by first | assumption | exact up2_same _ _ _ _ | exact (Eq.trans (up2_ne _ _ (by omega)) (by first | assumption | exact up2_same _ _ _ _)) | exact (Eq.trans (up2_ne _ _ (by omega)) (Eq.trans (up2_ne _ _ (by omega)) (by first | assumption | exact up2_same _ _ _ _))) | exact (Eq.trans (up2_ne _ _ (by omega)) (Eq.trans (up2_ne _ _ (by omega)) (Eq.trans (up2_ne _ _ (by omega)) (by first | assumption | exact up2_same _ _ _ _)))) | exact (Eq.trans (up2_ne _ _ (by omega)) (Eq.trans (up2_ne _ _ (by omega)) (Eq.trans (up2_ne _ _ (by omega)) (Eq.trans (up2_ne _ _ (by omega)) (by first | assumption | exact up2_same _ _ _ _))))) | rfl) ?_
  refine r_bipush (v := nI 65) dX10_layLine_19 (by decide) ?_
  refine r_callVw [_, _] dX10_layLine_21 ok_RX10_163 ivX10_putLetters (by assumption) ⟨_, _, rfl⟩ rfl rfl (Nat.le_of_ble_eq_true rfl) (by refine ⟨?_, ?_, ?_, ?_⟩ <;> exact Nat.le_of_ble_eq_true rfl) (m_putLetters hL W0 (by omega) (by omega) (okL_34 hpk.1) (by show (sgn 65 p.1).length ≤ 64; omega)) ?_
  intro mA ⟨u1, u2⟩
  have u1' : LnM mA o (sgn 65 p.1) := u1
  have uF := F0'.tr u2
  refine r_aload_n 0 dX10_layLine_24 rfl rfl ?_
  refine r_bipush (v := nI 62) dX10_layLine_25 (by decide) ?_
  refine r_callVw [_] dX10_layLine_27 ok_RX10_160 ivX10_put (by assumption) ⟨_, _, rfl⟩ rfl rfl (Nat.le_of_ble_eq_true rfl) (by refine ⟨?_, ?_, ?_, ?_⟩ <;> exact Nat.le_of_ble_eq_true rfl) (m_put hL u1' (by omega)) ?_
  intro mB ⟨u3, u4⟩
  refine r_iconst (v := nI 0) dX10_layLine_30 (by decide) ?_
  refine r_istore_n 2 (ls2 := [_, _, _]) dX10_layLine_31 rfl (by decide) (Nat.le_of_ble_eq_true rfl) rfl ?_
  exact H p.2.2.length 0 mB _ (by omega) u3 (uF.tr u4) (by rw [hwr, List.drop_zero, List.append_assoc]; rfl)
theorem RR.lf {m : MI} {σ : Al} (h : RR mi o σ) (hF : LF mi m o) : RR m o σ := h.pad (h.1.keep (hF.2 4 (by omega)) (hF.1 _ (by omega) (by omega))) (hF.1 _ (by omega) (by omega)) (hF.1 _ (by omega) (by omega)) (hF.1 _ (by omega) (by omega))
theorem n_written (hL : LM sh mr o) {σ : Al} {N : Nat} (hR : RR mi o σ) (hok : okA σ N) (hN : N < 2 ^ 27) (s x : Int32) : Mi mX10_written 3 [.ref o, .int s, .int x] z sh mi mr (PM mi o (sp_written σ s x)) := by
  obtain ⟨l0, ⟨l1, l2⟩, -, -, -, -, -, -, -, -, ⟨l19, l20⟩⟩ := id hL
  by_cases hb : stB s = true
  · obtain ⟨k, hk, rfl⟩ := st_ex hb
    have hkk : sk (nI k) = k := sk_nI (by omega)
    by_cases hx : x < -1
    · have hsp : sp_written σ (nI k) x = (-2, σ) := by unfold sp_written; rw [if_neg (by rw [hb]; decide), if_pos hx]
      rw [hsp]
      refine Mv.of pnX10_written (Nat.le_of_ble_eq_true rfl) rfl ?_
      refine r_iload_n 1 dX10_written_0 rfl rfl ?_
      refine r_callSp [_] dX10_written_1 ok_RX10_78 isX10_isStation rfl rfl (Nat.le_of_ble_eq_true rfl) (by refine ⟨?_, ?_, ?_, ?_⟩ <;> exact Nat.le_of_ble_eq_true rfl) (c_isStation _) ?_
      rw [hb]
      refine r_ifB_ne 9 dX10_written_4 (by decide) (fun h4 => ?_) (fun h4 => ?_)
      · refine r_iload_n 2 dX10_written_9 rfl rfl ?_
        refine r_iconst (v := -1) dX10_written_10 (by decide) ?_
        refine r_icmp_ge 17 dX10_written_11 (by decide) (fun h11 => ?_) (fun h11 => ?_)
        · exact absurd hx (by first | exact Int32.not_lt.mpr h11 | exact h11)
        · refine r_bipush (v := -2) dX10_written_14 (by decide) ?_
          refine r_iret dX10_written_16 rfl (Nat.le_of_ble_eq_true rfl) (Nat.le_of_ble_eq_true rfl) ?_
          exact ⟨rfl, rfl, rfl, PM.same hR⟩
      · exact absurd h4 (by decide)
    · have hx14 : ¬ (-1 : Int32) ≤ x → False := fun h => hx (Int32.not_le.mp h)
      cases hq : (stA σ k).2.2.2.2 with
      | none =>
        have hsp : sp_written σ (nI k) x = (-3, σ) := by unfold sp_written; rw [if_neg (by rw [hb]; decide), if_neg hx, hkk, hq]
        rw [hsp]
        have hv := hR.2.1.2 k hk hq
        refine Mv.of pnX10_written (Nat.le_of_ble_eq_true rfl) rfl ?_
        refine r_iload_n 1 dX10_written_0 rfl rfl ?_
        refine r_callSp [_] dX10_written_1 ok_RX10_78 isX10_isStation rfl rfl (Nat.le_of_ble_eq_true rfl) (by refine ⟨?_, ?_, ?_, ?_⟩ <;> exact Nat.le_of_ble_eq_true rfl) (c_isStation _) ?_
        rw [hb]
        refine r_ifB_ne 9 dX10_written_4 (by decide) (fun h4 => ?_) (fun h4 => ?_)
        · refine r_iload_n 2 dX10_written_9 rfl rfl ?_
          refine r_iconst (v := -1) dX10_written_10 (by decide) ?_
          refine r_icmp_ge 17 dX10_written_11 (by decide) (fun h11 => ?_) (fun h11 => ?_)
          · refine r_aload_n 0 dX10_written_17 rfl rfl ?_
            refine r_getR dX10_written_18 fl_RX10_7 rfl (by assumption) (by assumption) ?_
            refine r_sipush (v := nI 1380) dX10_written_21 (by decide) ?_
            refine r_iload_n 1 dX10_written_24 rfl rfl ?_
            refine r_iaddN dX10_written_25 ?_
            refine r_ialdV dX10_written_26 (by assumption) (by omega) (by omega) (by first | assumption | exact up2_same _ _ _ _ | exact (Eq.trans (up2_ne _ _ (by omega)) (by first | assumption | exact up2_same _ _ _ _)) | exact (Eq.trans (up2_ne _ _ (by omega)) (Eq.trans (up2_ne _ _ (by omega)) (by first | assumption | exact up2_same _ _ _ _))) | exact (Eq.trans (up2_ne _ _ (by omega)) (Eq.trans (up2_ne _ _ (by omega)) (Eq.trans (up2_ne _ _ (by omega)) (by first | assumption | exact up2_same _ _ _ _)))) | exact (Eq.trans (up2_ne _ _ (by omega)) (Eq.trans (up2_ne _ _ (by omega)) (Eq.trans (up2_ne _ _ (by omega)) (Eq.trans (up2_ne _ _ (by omega)) (by first | assumption | exact up2_same _ _ _ _))))) | rfl) ?_
            refine r_if_ge 33 dX10_written_27 (by decide) (fun h27 => ?_) (fun h27 => ?_)
            · exact absurd h27 (by decide)
            · refine r_bipush (v := -3) dX10_written_30 (by decide) ?_
              refine r_iret dX10_written_32 rfl (Nat.le_of_ble_eq_true rfl) (Nat.le_of_ble_eq_true rfl) ?_
              exact ⟨rfl, rfl, rfl, PM.same hR⟩
          · first | exact absurd h11 hx | exact absurd (Int32.not_le.mp h11) hx
        · exact absurd h4 (by decide)
      | some q =>
        have hsp : sp_written σ (nI k) x = (if x = -1 then nI (wrP q.1).length else match (wrP q.1)[sk x]? with
          | some y => nI y
          | none => -6, σ) := by unfold sp_written; rw [if_neg (by rw [hb]; decide), if_neg hx, hkk, hq]; rfl
        obtain ⟨hP, hT⟩ := (hR.2.1.1.1 k hk).2.2.2.2 q hq
        obtain ⟨hpk, htl⟩ := (hok.2.1.1.1 k hk).2.2.2.2 q.1 q.2 hq
        have hnow := hok.2.1.2.2
        have h64 := wrP_len hpk
        by_cases hx1 : x = -1
        · rw [if_pos hx1] at hsp
          rw [hsp]
          refine Mv.of pnX10_written (Nat.le_of_ble_eq_true rfl) rfl ?_
          refine r_iload_n 1 dX10_written_0 rfl rfl ?_
          refine r_callSp [_] dX10_written_1 ok_RX10_78 isX10_isStation rfl rfl (Nat.le_of_ble_eq_true rfl) (by refine ⟨?_, ?_, ?_, ?_⟩ <;> exact Nat.le_of_ble_eq_true rfl) (c_isStation _) ?_
          rw [hb]
          refine r_ifB_ne 9 dX10_written_4 (by decide) (fun h4 => ?_) (fun h4 => ?_)
          · refine r_iload_n 2 dX10_written_9 rfl rfl ?_
            refine r_iconst (v := -1) dX10_written_10 (by decide) ?_
            refine r_icmp_ge 17 dX10_written_11 (by decide) (fun h11 => ?_) (fun h11 => ?_)
            · refine r_aload_n 0 dX10_written_17 rfl rfl ?_
              refine r_getR dX10_written_18 fl_RX10_7 rfl (by assumption) (by assumption) ?_
              refine r_sipush (v := nI 1380) dX10_written_21 (by decide) ?_
              refine r_iload_n 1 dX10_written_24 rfl rfl ?_
              refine r_iaddN dX10_written_25 ?_
              refine r_ialdV dX10_written_26 (by assumption) (by omega) (by omega) (by first | assumption | exact up2_same _ _ _ _ | exact (Eq.trans (up2_ne _ _ (by omega)) (by first | assumption | exact up2_same _ _ _ _)) | exact (Eq.trans (up2_ne _ _ (by omega)) (Eq.trans (up2_ne _ _ (by omega)) (by first | assumption | exact up2_same _ _ _ _))) | exact (Eq.trans (up2_ne _ _ (by omega)) (Eq.trans (up2_ne _ _ (by omega)) (Eq.trans (up2_ne _ _ (by omega)) (by first | assumption | exact up2_same _ _ _ _)))) | exact (Eq.trans (up2_ne _ _ (by omega)) (Eq.trans (up2_ne _ _ (by omega)) (Eq.trans (up2_ne _ _ (by omega)) (Eq.trans (up2_ne _ _ (by omega)) (by first | assumption | exact up2_same _ _ _ _))))) | rfl) ?_
              refine r_ifN_ge 33 dX10_written_27 (by decide) (by omega) ?_
              refine r_aload_n 0 dX10_written_33 rfl rfl ?_
              refine r_iload_n 1 dX10_written_34 rfl rfl ?_
              refine r_callVw [_] dX10_written_35 ok_RX10_172 ivX10_layLine (by assumption) ⟨_, _, rfl⟩ rfl rfl (Nat.le_of_ble_eq_true rfl) (by refine ⟨?_, ?_, ?_, ?_⟩ <;> exact Nat.le_of_ble_eq_true rfl) (m_layLine hL hk hP hpk) ?_
              intro mA ⟨u1, u2⟩
              have u3 := u1.1
              refine r_iload_n 2 dX10_written_38 rfl rfl ?_
              refine r_iconst (v := -1) dX10_written_39 (by decide) ?_
              refine r_icmp_ne 50 dX10_written_40 (by decide) (fun h40 => ?_) (fun h40 => ?_)
              · exact absurd hx1 h40
              · refine r_aload_n 0 dX10_written_43 rfl rfl ?_
                refine r_getV dX10_written_44 fl_RX10_157 rfl (by assumption) (by first | assumption | exact up2_same _ _ _ _ | exact (Eq.trans (up2_ne _ _ (by omega)) (by first | assumption | exact up2_same _ _ _ _)) | exact (Eq.trans (up2_ne _ _ (by omega)) (Eq.trans (up2_ne _ _ (by omega)) (by first | assumption | exact up2_same _ _ _ _))) | exact (Eq.trans (up2_ne _ _ (by omega)) (Eq.trans (up2_ne _ _ (by omega)) (Eq.trans (up2_ne _ _ (by omega)) (by first | assumption | exact up2_same _ _ _ _)))) | exact (Eq.trans (up2_ne _ _ (by omega)) (Eq.trans (up2_ne _ _ (by omega)) (Eq.trans (up2_ne _ _ (by omega)) (Eq.trans (up2_ne _ _ (by omega)) (by first | assumption | exact up2_same _ _ _ _))))) | rfl) ?_
                refine r_goto 69 dX10_written_47 (by decide) ?_
                refine r_iret dX10_written_69 rfl (Nat.le_of_ble_eq_true rfl) (Nat.le_of_ble_eq_true rfl) ?_
                exact ⟨rfl, rfl, rfl, rfl, hR.lf u2, fun y hy => u2.1 y (by omega) (by omega)⟩
            · first | exact absurd h11 hx | exact absurd (Int32.not_le.mp h11) hx
          · exact absurd h4 (by decide)
        · rw [if_neg hx1] at hsp
          rw [hsp]
          obtain ⟨c, hc, rfl⟩ := nI_of (neg1 hx hx1)
          rw [sk_nI hc]
          rcases Nat.lt_or_ge c (wrP q.1).length with hcl | hcl
          · obtain ⟨y, hy⟩ := gl_ex hcl
            rw [hy]
            refine Mv.of pnX10_written (Nat.le_of_ble_eq_true rfl) rfl ?_
            refine r_iload_n 1 dX10_written_0 rfl rfl ?_
            refine r_callSp [_] dX10_written_1 ok_RX10_78 isX10_isStation rfl rfl (Nat.le_of_ble_eq_true rfl) (by refine ⟨?_, ?_, ?_, ?_⟩ <;> exact Nat.le_of_ble_eq_true rfl) (c_isStation _) ?_
            rw [hb]
            refine r_ifB_ne 9 dX10_written_4 (by decide) (fun h4 => ?_) (fun h4 => ?_)
            · refine r_iload_n 2 dX10_written_9 rfl rfl ?_
              refine r_iconst (v := -1) dX10_written_10 (by decide) ?_
              refine r_icmp_ge 17 dX10_written_11 (by decide) (fun h11 => ?_) (fun h11 => ?_)
              · refine r_aload_n 0 dX10_written_17 rfl rfl ?_
                refine r_getR dX10_written_18 fl_RX10_7 rfl (by assumption) (by assumption) ?_
                refine r_sipush (v := nI 1380) dX10_written_21 (by decide) ?_
                refine r_iload_n 1 dX10_written_24 rfl rfl ?_
                refine r_iaddN dX10_written_25 ?_
                refine r_ialdV dX10_written_26 (by assumption) (by omega) (by omega) (by first | assumption | exact up2_same _ _ _ _ | exact (Eq.trans (up2_ne _ _ (by omega)) (by first | assumption | exact up2_same _ _ _ _)) | exact (Eq.trans (up2_ne _ _ (by omega)) (Eq.trans (up2_ne _ _ (by omega)) (by first | assumption | exact up2_same _ _ _ _))) | exact (Eq.trans (up2_ne _ _ (by omega)) (Eq.trans (up2_ne _ _ (by omega)) (Eq.trans (up2_ne _ _ (by omega)) (by first | assumption | exact up2_same _ _ _ _)))) | exact (Eq.trans (up2_ne _ _ (by omega)) (Eq.trans (up2_ne _ _ (by omega)) (Eq.trans (up2_ne _ _ (by omega)) (Eq.trans (up2_ne _ _ (by omega)) (by first | assumption | exact up2_same _ _ _ _))))) | rfl) ?_
                refine r_ifN_ge 33 dX10_written_27 (by decide) (by omega) ?_
                refine r_aload_n 0 dX10_written_33 rfl rfl ?_
                refine r_iload_n 1 dX10_written_34 rfl rfl ?_
                refine r_callVw [_] dX10_written_35 ok_RX10_172 ivX10_layLine (by assumption) ⟨_, _, rfl⟩ rfl rfl (Nat.le_of_ble_eq_true rfl) (by refine ⟨?_, ?_, ?_, ?_⟩ <;> exact Nat.le_of_ble_eq_true rfl) (m_layLine hL hk hP hpk) ?_
                intro mA ⟨u1, u2⟩
                have u3 := u1.1
                have u4 := u1.2 c y hy
                refine r_iload_n 2 dX10_written_38 rfl rfl ?_
                refine r_iconst (v := -1) dX10_written_39 (by decide) ?_
                refine r_icmp_ne 50 dX10_written_40 (by decide) (fun h40 => ?_) (fun h40 => ?_)
                · refine r_iload_n 2 dX10_written_50 rfl rfl ?_
                  refine r_aload_n 0 dX10_written_51 rfl rfl ?_
                  refine r_getV dX10_written_52 fl_RX10_157 rfl (by assumption) (by first | assumption | exact up2_same _ _ _ _ | exact (Eq.trans (up2_ne _ _ (by omega)) (by first | assumption | exact up2_same _ _ _ _)) | exact (Eq.trans (up2_ne _ _ (by omega)) (Eq.trans (up2_ne _ _ (by omega)) (by first | assumption | exact up2_same _ _ _ _))) | exact (Eq.trans (up2_ne _ _ (by omega)) (Eq.trans (up2_ne _ _ (by omega)) (Eq.trans (up2_ne _ _ (by omega)) (by first | assumption | exact up2_same _ _ _ _)))) | exact (Eq.trans (up2_ne _ _ (by omega)) (Eq.trans (up2_ne _ _ (by omega)) (Eq.trans (up2_ne _ _ (by omega)) (Eq.trans (up2_ne _ _ (by omega)) (by first | assumption | exact up2_same _ _ _ _))))) | rfl) ?_
                  refine r_icmpN_ge 67 dX10_written_55 (by decide) (by omega) (by omega) (fun h55 => ?_) (fun h55 => ?_)
                  · omega
                  · refine r_aload_n 0 dX10_written_58 rfl rfl ?_
                    refine r_getR dX10_written_59 fl_RX10_38 rfl (by assumption) (by assumption) ?_
                    refine r_iload_n 2 dX10_written_62 rfl rfl ?_
                    refine r_ialdV dX10_written_63 (by assumption) (by omega) (by omega) (by first | assumption | exact up2_same _ _ _ _ | exact (Eq.trans (up2_ne _ _ (by omega)) (by first | assumption | exact up2_same _ _ _ _)) | exact (Eq.trans (up2_ne _ _ (by omega)) (Eq.trans (up2_ne _ _ (by omega)) (by first | assumption | exact up2_same _ _ _ _))) | exact (Eq.trans (up2_ne _ _ (by omega)) (Eq.trans (up2_ne _ _ (by omega)) (Eq.trans (up2_ne _ _ (by omega)) (by first | assumption | exact up2_same _ _ _ _)))) | exact (Eq.trans (up2_ne _ _ (by omega)) (Eq.trans (up2_ne _ _ (by omega)) (Eq.trans (up2_ne _ _ (by omega)) (Eq.trans (up2_ne _ _ (by omega)) (by first | assumption | exact up2_same _ _ _ _))))) | rfl) ?_
                    refine r_goto 69 dX10_written_64 (by decide) ?_
                    refine r_iret dX10_written_69 rfl (Nat.le_of_ble_eq_true rfl) (Nat.le_of_ble_eq_true rfl) ?_
                    exact ⟨rfl, rfl, rfl, rfl, hR.lf u2, fun y hy => u2.1 y (by omega) (by omega)⟩
                · exact absurd h40 hx1
              · first | exact absurd h11 hx | exact absurd (Int32.not_le.mp h11) hx
            · exact absurd h4 (by decide)
          · rw [List.getElem?_eq_none hcl]
            refine Mv.of pnX10_written (Nat.le_of_ble_eq_true rfl) rfl ?_
            refine r_iload_n 1 dX10_written_0 rfl rfl ?_
            refine r_callSp [_] dX10_written_1 ok_RX10_78 isX10_isStation rfl rfl (Nat.le_of_ble_eq_true rfl) (by refine ⟨?_, ?_, ?_, ?_⟩ <;> exact Nat.le_of_ble_eq_true rfl) (c_isStation _) ?_
            rw [hb]
            refine r_ifB_ne 9 dX10_written_4 (by decide) (fun h4 => ?_) (fun h4 => ?_)
            · refine r_iload_n 2 dX10_written_9 rfl rfl ?_
              refine r_iconst (v := -1) dX10_written_10 (by decide) ?_
              refine r_icmp_ge 17 dX10_written_11 (by decide) (fun h11 => ?_) (fun h11 => ?_)
              · refine r_aload_n 0 dX10_written_17 rfl rfl ?_
                refine r_getR dX10_written_18 fl_RX10_7 rfl (by assumption) (by assumption) ?_
                refine r_sipush (v := nI 1380) dX10_written_21 (by decide) ?_
                refine r_iload_n 1 dX10_written_24 rfl rfl ?_
                refine r_iaddN dX10_written_25 ?_
                refine r_ialdV dX10_written_26 (by assumption) (by omega) (by omega) (by first | assumption | exact up2_same _ _ _ _ | exact (Eq.trans (up2_ne _ _ (by omega)) (by first | assumption | exact up2_same _ _ _ _)) | exact (Eq.trans (up2_ne _ _ (by omega)) (Eq.trans (up2_ne _ _ (by omega)) (by first | assumption | exact up2_same _ _ _ _))) | exact (Eq.trans (up2_ne _ _ (by omega)) (Eq.trans (up2_ne _ _ (by omega)) (Eq.trans (up2_ne _ _ (by omega)) (by first | assumption | exact up2_same _ _ _ _)))) | exact (Eq.trans (up2_ne _ _ (by omega)) (Eq.trans (up2_ne _ _ (by omega)) (Eq.trans (up2_ne _ _ (by omega)) (Eq.trans (up2_ne _ _ (by omega)) (by first | assumption | exact up2_same _ _ _ _))))) | rfl) ?_
                refine r_ifN_ge 33 dX10_written_27 (by decide) (by omega) ?_
                refine r_aload_n 0 dX10_written_33 rfl rfl ?_
                refine r_iload_n 1 dX10_written_34 rfl rfl ?_
                refine r_callVw [_] dX10_written_35 ok_RX10_172 ivX10_layLine (by assumption) ⟨_, _, rfl⟩ rfl rfl (Nat.le_of_ble_eq_true rfl) (by refine ⟨?_, ?_, ?_, ?_⟩ <;> exact Nat.le_of_ble_eq_true rfl) (m_layLine hL hk hP hpk) ?_
                intro mA ⟨u1, u2⟩
                have u3 := u1.1
                refine r_iload_n 2 dX10_written_38 rfl rfl ?_
                refine r_iconst (v := -1) dX10_written_39 (by decide) ?_
                refine r_icmp_ne 50 dX10_written_40 (by decide) (fun h40 => ?_) (fun h40 => ?_)
                · refine r_iload_n 2 dX10_written_50 rfl rfl ?_
                  refine r_aload_n 0 dX10_written_51 rfl rfl ?_
                  refine r_getV dX10_written_52 fl_RX10_157 rfl (by assumption) (by first | assumption | exact up2_same _ _ _ _ | exact (Eq.trans (up2_ne _ _ (by omega)) (by first | assumption | exact up2_same _ _ _ _)) | exact (Eq.trans (up2_ne _ _ (by omega)) (Eq.trans (up2_ne _ _ (by omega)) (by first | assumption | exact up2_same _ _ _ _))) | exact (Eq.trans (up2_ne _ _ (by omega)) (Eq.trans (up2_ne _ _ (by omega)) (Eq.trans (up2_ne _ _ (by omega)) (by first | assumption | exact up2_same _ _ _ _)))) | exact (Eq.trans (up2_ne _ _ (by omega)) (Eq.trans (up2_ne _ _ (by omega)) (Eq.trans (up2_ne _ _ (by omega)) (Eq.trans (up2_ne _ _ (by omega)) (by first | assumption | exact up2_same _ _ _ _))))) | rfl) ?_
                  refine r_icmpN_ge 67 dX10_written_55 (by decide) (by omega) (by omega) (fun h55 => ?_) (fun h55 => ?_)
                  · refine r_bipush (v := -6) dX10_written_67 (by decide) ?_
                    refine r_iret dX10_written_69 rfl (Nat.le_of_ble_eq_true rfl) (Nat.le_of_ble_eq_true rfl) ?_
                    exact ⟨rfl, rfl, rfl, rfl, hR.lf u2, fun y hy => u2.1 y (by omega) (by omega)⟩
                  · omega
                · exact absurd h40 hx1
              · first | exact absurd h11 hx | exact absurd (Int32.not_le.mp h11) hx
            · exact absurd h4 (by decide)
  · have hb' : stB s = false := by simpa using hb
    have hsp : sp_written σ s x = (-1, σ) := by unfold sp_written; rw [if_pos hb']
    rw [hsp]
    refine Mv.of pnX10_written (Nat.le_of_ble_eq_true rfl) rfl ?_
    refine r_iload_n 1 dX10_written_0 rfl rfl ?_
    refine r_callSp [_] dX10_written_1 ok_RX10_78 isX10_isStation rfl rfl (Nat.le_of_ble_eq_true rfl) (by refine ⟨?_, ?_, ?_, ?_⟩ <;> exact Nat.le_of_ble_eq_true rfl) (c_isStation _) ?_
    rw [hb']
    refine r_ifB_ne 9 dX10_written_4 (by decide) (fun h4 => ?_) (fun h4 => ?_)
    · exact absurd h4 (by decide)
    · refine r_iconst (v := -1) dX10_written_7 (by decide) ?_
      refine r_iret dX10_written_8 rfl (Nat.le_of_ble_eq_true rfl) (Nat.le_of_ble_eq_true rfl) ?_
      exact ⟨rfl, rfl, rfl, PM.same hR⟩
end RLINE
