section RLOOK
variable {z : Nat} {sh : SH} {mi : MI} {mr : MR} {o : Nat}
def lk (st : St) : Prop := okSe st.1 ∧ (st.2.2.1.length ≤ 12 ∧ ∀ q ∈ st.2.2.1, q.1.2.2.length ≤ 8) ∧ st.2.2.2.1.length ≤ 16 ∧ ∀ q, st.2.2.2.2 = some q → q.1.2.2.length ≤ 8
theorem okSt.lk {st : St} {now : Nat} (h : okSt st now) : lk st := ⟨h.1, ⟨h.2.2.1.1, okKp_w h.2.2.1⟩, h.2.2.2.1.1, okLs_w h⟩
theorem TaM.bmp {f g : Rw} {s w : Nat} {t : Nat → Nat} (hs : s < 6) (hw : w < 9) (h : TaM f s t) (h0 : g (96 + 6 * w + s) = nI (t w + 1)) (hx : ∀ i, i ≠ 96 + 6 * w + s → g i = f i) : TaM g s (bump t w) := by
  intro u hu
  unfold bump
  by_cases e : u = w
  · subst e; rw [if_pos rfl]; exact h0
  · rw [if_neg e, hx _ (by omega)]; exact h u hu
theorem StM.ta {f g : Rw} {s w : Nat} {st : St} (hs : s < 6) (hw : w < 9) (h : StM f s st) (hk : lk st) (h0 : g (96 + 6 * w + s) = nI (st.2.1 w + 1)) (hx : ∀ i, i ≠ 96 + 6 * w + s → g i = f i) : StM g s (st.1, bump st.2.1 w, st.2.2) :=
  ⟨h.1.keep hs hk.1 (fun i _ a => hx i (by omega)), h.2.1.bmp hs hw h0 hx, h.2.2.1.keep hs hk.2.1.1 hk.2.1.2 (fun i _ a _ => hx i (by omega)), h.2.2.2.1.keep hs hk.2.2.1 (fun i _ a _ => hx i (by omega)), LsM.keep (o := st.2.2.2.2) hs h.2.2.2.2 hk.2.2.2 (fun i _ a _ => hx i (by omega))⟩
theorem StM.cnt {m : MI} {s w : Nat} {st : St} (hs : s < 6) (hw : w < 9) (h : StM (m (o + 1)) s st) (hk : lk st) : StM (up2 m (o + 1) (96 + 6 * w + s) (nI (st.2.1 w + 1)) (o + 1)) s (st.1, bump st.2.1 w, st.2.2) := h.ta hs hw hk (up2_same _ _ _ _) (fun i hi => up2_ne _ _ (Or.inr hi))
theorem StM.kn {f g : Rw} {s : Nat} {st : St} {l : Kn} (hs : s < 6) (h : StM f s st) (hk : lk st) (hF : Fr s 1020 1314 f g) (hK : KnM g s l) : StM g s (st.1, st.2.1, st.2.2.1, l, st.2.2.2.2) :=
  ⟨h.1.keep hs hk.1 (fun i _ a => hF.out (by omega)), h.2.1.keep hs (fun i _ a _ => hF.out (by omega)), h.2.2.1.keep hs hk.2.1.1 hk.2.1.2 (fun i _ a _ => hF.out (by omega)), hK, LsM.keep (o := st.2.2.2.2) hs h.2.2.2.2 hk.2.2.2 (fun i _ a _ => hF.out (by omega))⟩
theorem StM.kp {f g : Rw} {s : Nat} {st : St} {l : Kp} (hs : s < 6) (h : StM f s st) (hk : lk st) (hF : Fr s 150 1020 f g) (hK : KpM g s l) : StM g s (st.1, st.2.1, l, st.2.2.2) :=
  ⟨h.1.keep hs hk.1 (fun i _ a => hF.out (by omega)), h.2.1.keep hs (fun i _ a _ => hF.out (by omega)), hK, h.2.2.2.1.keep hs hk.2.2.1 (fun i _ a _ => hF.out (by omega)), LsM.keep (o := st.2.2.2.2) hs h.2.2.2.2 hk.2.2.2 (fun i _ a _ => hF.out (by omega))⟩
theorem StM.ls {f g : Rw} {s : Nat} {st : St} {q : Pk × Nat} (hs : s < 6) (h : StM f s st) (hk : lk st) (hF : Fr s 1314 1386 f g) (h1 : PkM g (1314 + 11 * s) q.1) (h2 : g (1380 + s) = nI q.2) : StM g s (st.1, st.2.1, st.2.2.1, st.2.2.2.1, some q) :=
  ⟨h.1.keep hs hk.1 (fun i _ a => hF.out (by omega)), h.2.1.keep hs (fun i _ a _ => hF.out (by omega)), h.2.2.1.keep hs hk.2.1.1 hk.2.1.2 (fun i _ a _ => hF.out (by omega)), h.2.2.2.1.keep hs hk.2.2.1 (fun i _ a _ => hF.out (by omega)), fun q' hq' => by
    have e : q = q' := Option.some.inj hq'
    subst e; exact ⟨h1, h2⟩⟩
theorem Fr.cnt {m : MI} {s w : Nat} {v : Int32} (hs : s < 6) (hw : w < 9) : Fr s 0 1314 (m (o + 1)) (up2 m (o + 1) (96 + 6 * w + s) v (o + 1)) := Fr.up (ow_ta hs hw) (Nat.zero_le _) (by omega)
theorem knAdd_len {l : Kn} {p : Pk} {now : Nat} (h : l.length ≤ 16) : (knAdd l p now).length ≤ 16 := by
  unfold knAdd
  by_cases h16 : 16 ≤ l.length
  · rw [if_pos h16, List.length_append, List.length_eraseIdx_of_lt (by omega)]; simp; omega
  · rw [if_neg h16, List.length_append]; simp; omega
def LoP (mi : MI) (o s : Nat) (st : St) : Option Value → MI → Prop := fun v m => v = none ∧ StM (m (o + 1)) s st ∧ Fr s 0 1314 (mi (o + 1)) (m (o + 1)) ∧ ∀ x, x ≠ o + 1 → x ≠ o + 5 → m x = mi x
theorem m_look (hL : LM sh mr o) {s now : Nat} (hs : s < 6) {st : St} (hS : StM (mi (o + 1)) s st) (hk : lk st) (hkn : okKn st.2.2.2.1 now) {p : Pk} (hp : PkM (mi (o + 5)) 0 p) (hpk : okP p) (hnow : mi (o + 1) 1386 = nI now) : Mi mX10_look 3 [.ref o, .int (nI s)] z sh mi mr (LoP mi o s (look st p now)) := by
  obtain ⟨l0, ⟨l1, l2⟩, -, -, -, ⟨l9, l10⟩, -⟩ := id hL
  have p0 : mi (o + 5) 0 = nI (en 27 p.1) := hp.1
  have p1 : mi (o + 5) 1 = nI (en 27 p.2.1) := hp.2.1
  have p2 : mi (o + 5) 2 = nI p.2.2.length := hp.2.2.1
  have h8 := hpk.2.2.1
  have hcall : mi (o + 1) (0 + s) = nI (en 27 st.1.1) := by rw [Nat.zero_add]; exact hS.1.1
  by_cases hown : ownP st.1.1 p = true
  · have hlk : look st p now = (st.1, bump st.2.1 2, st.2.2) := by unfold look; rw [if_pos hown]
    rw [hlk]
    have hv := hS.2.1 2 (by omega)
    refine Mv.of pnX10_look (Nat.le_of_ble_eq_true rfl) rfl ?_
    refine r_aload_n 0 dX10_look_0 rfl rfl ?_
    refine r_iload_n 1 dX10_look_1 rfl rfl ?_
    refine r_callVp [_] dX10_look_2 ok_RX10_138 ivX10_isOwn (by assumption) ⟨_, _, rfl⟩ rfl rfl (Nat.le_of_ble_eq_true rfl) (by refine ⟨?_, ?_, ?_, ?_⟩ <;> exact Nat.le_of_ble_eq_true rfl) (m_isOwn hL hs hp hpk hcall hk.1.1) ?_
    rw [hown]
    refine r_ifB_eq 15 dX10_look_5 (by decide) (fun h5 => ?_) (fun h5 => ?_)
    · exact absurd h5 (by decide)
    · refine r_aload_n 0 dX10_look_8 rfl rfl ?_
      refine r_iconst (v := nI 2) dX10_look_9 (by decide) ?_
      refine r_iload_n 1 dX10_look_10 rfl rfl ?_
      refine r_callVw [_, _] dX10_look_11 ok_RX10_119 ivX10_count (by assumption) ⟨_, _, rfl⟩ rfl rfl (Nat.le_of_ble_eq_true rfl) (by refine ⟨?_, ?_, ?_, ?_⟩ <;> exact Nat.le_of_ble_eq_true rfl) (m_cnt hL (w := 2) (by omega) hs hv) ?_
      intro mA uA
      subst uA
      refine r_vret dX10_look_14 rfl (Nat.le_of_ble_eq_true rfl) (Nat.le_of_ble_eq_true rfl) ?_
      exact ⟨rfl, rfl, rfl, rfl, hS.cnt hs (by omega) hk, Fr.cnt hs (by omega), fun x x1 _ => up2_row _ _ x1⟩
  · have hown' : ownP st.1.1 p = false := by simpa using hown
    by_cases hkx : knIx st.2.2.2.1 p < st.2.2.2.1.length
    · have hlk : look st p now = (st.1, bump st.2.1 3, st.2.2) := by unfold look; rw [if_neg hown, if_pos hkx]
      rw [hlk]
      have hv := hS.2.1 3 (by omega)
      have hk16 := hkn.1
      refine Mv.of pnX10_look (Nat.le_of_ble_eq_true rfl) rfl ?_
      refine r_aload_n 0 dX10_look_0 rfl rfl ?_
      refine r_iload_n 1 dX10_look_1 rfl rfl ?_
      refine r_callVp [_] dX10_look_2 ok_RX10_138 ivX10_isOwn (by assumption) ⟨_, _, rfl⟩ rfl rfl (Nat.le_of_ble_eq_true rfl) (by refine ⟨?_, ?_, ?_, ?_⟩ <;> exact Nat.le_of_ble_eq_true rfl) (m_isOwn hL hs hp hpk hcall hk.1.1) ?_
      rw [hown']
      refine r_ifB_eq 15 dX10_look_5 (by decide) (fun h5 => ?_) (fun h5 => ?_)
      · refine r_aload_n 0 dX10_look_15 rfl rfl ?_
        refine r_iload_n 1 dX10_look_16 rfl rfl ?_
        refine r_aload_n 0 dX10_look_17 rfl rfl ?_
        refine r_getR dX10_look_18 fl_RX10_23 rfl (by assumption) (by assumption) ?_
        refine r_iconst (v := nI 0) dX10_look_21 (by decide) ?_
        refine r_ialdV dX10_look_22 (by assumption) (by omega) (by omega) (by first | assumption | exact up2_same _ _ _ _ | exact (Eq.trans (up2_ne _ _ (by omega)) (by first | assumption | exact up2_same _ _ _ _)) | exact (Eq.trans (up2_ne _ _ (by omega)) (Eq.trans (up2_ne _ _ (by omega)) (by first | assumption | exact up2_same _ _ _ _))) | exact (Eq.trans (up2_ne _ _ (by omega)) (Eq.trans (up2_ne _ _ (by omega)) (Eq.trans (up2_ne _ _ (by omega)) (by first | assumption | exact up2_same _ _ _ _)))) | exact (Eq.trans (up2_ne _ _ (by omega)) (Eq.trans (up2_ne _ _ (by omega)) (Eq.trans (up2_ne _ _ (by omega)) (Eq.trans (up2_ne _ _ (by omega)) (by first | assumption | exact up2_same _ _ _ _))))) | rfl) ?_
        refine r_aload_n 0 dX10_look_23 rfl rfl ?_
        refine r_getR dX10_look_24 fl_RX10_23 rfl (by assumption) (by assumption) ?_
        refine r_iconst (v := nI 1) dX10_look_27 (by decide) ?_
        refine r_ialdV dX10_look_28 (by assumption) (by omega) (by omega) (by first | assumption | exact up2_same _ _ _ _ | exact (Eq.trans (up2_ne _ _ (by omega)) (by first | assumption | exact up2_same _ _ _ _)) | exact (Eq.trans (up2_ne _ _ (by omega)) (Eq.trans (up2_ne _ _ (by omega)) (by first | assumption | exact up2_same _ _ _ _))) | exact (Eq.trans (up2_ne _ _ (by omega)) (Eq.trans (up2_ne _ _ (by omega)) (Eq.trans (up2_ne _ _ (by omega)) (by first | assumption | exact up2_same _ _ _ _)))) | exact (Eq.trans (up2_ne _ _ (by omega)) (Eq.trans (up2_ne _ _ (by omega)) (Eq.trans (up2_ne _ _ (by omega)) (Eq.trans (up2_ne _ _ (by omega)) (by first | assumption | exact up2_same _ _ _ _))))) | rfl) ?_
        refine r_callVp [_, _, _] dX10_look_29 ok_RX10_105 ivX10_placeKnown (by assumption) ⟨_, _, rfl⟩ rfl rfl (Nat.le_of_ble_eq_true rfl) (by refine ⟨?_, ?_, ?_, ?_⟩ <;> exact Nat.le_of_ble_eq_true rfl) (m_place hL hs hS.2.2.2.1 hkn hpk.1 hpk.2.1) ?_
        rw [if_pos hkx]
        refine r_ifN_lt 42 dX10_look_32 (by decide) (by omega) ?_
        refine r_aload_n 0 dX10_look_35 rfl rfl ?_
        refine r_iconst (v := nI 3) dX10_look_36 (by decide) ?_
        refine r_iload_n 1 dX10_look_37 rfl rfl ?_
        refine r_callVw [_, _] dX10_look_38 ok_RX10_119 ivX10_count (by assumption) ⟨_, _, rfl⟩ rfl rfl (Nat.le_of_ble_eq_true rfl) (by refine ⟨?_, ?_, ?_, ?_⟩ <;> exact Nat.le_of_ble_eq_true rfl) (m_cnt hL (w := 3) (by omega) hs hv) ?_
        intro mA uA
        subst uA
        refine r_vret dX10_look_41 rfl (Nat.le_of_ble_eq_true rfl) (Nat.le_of_ble_eq_true rfl) ?_
        exact ⟨rfl, rfl, rfl, rfl, hS.cnt hs (by omega) hk, Fr.cnt hs (by omega), fun x x1 _ => up2_row _ _ x1⟩
      · exact absurd h5 (by decide)
    · have hlk : look st p now = if unIx p.2.2 = p.2.2.length then (st.1, bump st.2.1 4, st.2.2.1, knAdd st.2.2.2.1 p now, st.2.2.2.2) else match chg st.1 p (unIx p.2.2) with
          | none => (st.1, bump st.2.1 6, st.2.2.1, knAdd st.2.2.2.1 p now, st.2.2.2.2)
          | some p' => if st.2.2.1.length < 12 then (st.1, bump st.2.1 5, st.2.2.1 ++ [(p', now + st.1.2.2.2.2.1)], knAdd st.2.2.2.1 p now, st.2.2.2.2) else (st.1, bump (bump st.2.1 5) 8, st.2.2.1, knAdd st.2.2.2.1 p now, st.2.2.2.2) := by
        unfold look; rw [if_neg hown, if_neg hkx]
        rfl
      have K59 : ∀ m : MI, KnM (m (o + 1)) s (knAdd st.2.2.2.1 p now) → Fr s 1020 1314 (mi (o + 1)) (m (o + 1)) → (∀ x, x ≠ o + 1 → m x = mi x) → Wp yX10_look cX10_look 3 none (EI 3 z sh mr (LoP mi o s (look st p now))) 0 0 59 [.ref o, .int (nI s)] [] z sh m mr := by
        intro m hK hF ho
        have hS1 : StM (m (o + 1)) s (st.1, st.2.1, st.2.2.1, knAdd st.2.2.2.1 p now, st.2.2.2.2) := hS.kn hs hk hF hK
        have hk1 : lk (st.1, st.2.1, st.2.2.1, knAdd st.2.2.2.1 p now, st.2.2.2.2) := ⟨hk.1, hk.2.1, knAdd_len hk.2.2.1, hk.2.2.2⟩
        have hF1 : Fr s 0 1314 (mi (o + 1)) (m (o + 1)) := hF.wd (by omega) (Nat.le_refl _)
        have e5 : m (o + 5) = mi (o + 5) := ho _ (by omega)
        have p2' : m (o + 5) 2 = nI p.2.2.length := by rw [e5]; exact p2
        have hp' : PkM (m (o + 5)) 0 p := by rw [e5]; exact hp
        have hnow' : m (o + 1) 1386 = nI now := by rw [hF.out (by omega)]; exact hnow
        have K91 : Wp yX10_look cX10_look 3 none (EI 3 z sh mr (LoP mi o s (look st p now))) 0 0 91 [.ref o, .int (nI s), .int (nI (unIx p.2.2))] [] z sh m mr := by
          have hule : unIx p.2.2 ≤ p.2.2.length := List.findIdx_le_length
          by_cases hu : unIx p.2.2 = p.2.2.length
          · rw [if_pos hu] at hlk
            have hv := hS1.2.1 4 (by omega)
            refine r_iload_n 2 dX10_look_91 rfl rfl ?_
            refine r_aload_n 0 dX10_look_92 rfl rfl ?_
            refine r_getR dX10_look_93 fl_RX10_23 rfl (by assumption) (by assumption) ?_
            refine r_iconst (v := nI 2) dX10_look_96 (by decide) ?_
            refine r_ialdV dX10_look_97 (by assumption) (by omega) (by omega) (by first | assumption | exact up2_same _ _ _ _ | exact (Eq.trans (up2_ne _ _ (by omega)) (by first | assumption | exact up2_same _ _ _ _)) | exact (Eq.trans (up2_ne _ _ (by omega)) (Eq.trans (up2_ne _ _ (by omega)) (by first | assumption | exact up2_same _ _ _ _))) | exact (Eq.trans (up2_ne _ _ (by omega)) (Eq.trans (up2_ne _ _ (by omega)) (Eq.trans (up2_ne _ _ (by omega)) (by first | assumption | exact up2_same _ _ _ _)))) | exact (Eq.trans (up2_ne _ _ (by omega)) (Eq.trans (up2_ne _ _ (by omega)) (Eq.trans (up2_ne _ _ (by omega)) (Eq.trans (up2_ne _ _ (by omega)) (by first | assumption | exact up2_same _ _ _ _))))) | rfl) ?_
            refine r_icmpN_ne 110 dX10_look_98 (by decide) (by omega) (by omega) (fun h98 => ?_) (fun h98 => ?_)
            · omega
            · refine r_aload_n 0 dX10_look_101 rfl rfl ?_
              refine r_iconst (v := nI 4) dX10_look_102 (by decide) ?_
              refine r_iload_n 1 dX10_look_103 rfl rfl ?_
              refine r_callVw [_, _] dX10_look_104 ok_RX10_119 ivX10_count (by assumption) ⟨_, _, rfl⟩ rfl rfl (Nat.le_of_ble_eq_true rfl) (by refine ⟨?_, ?_, ?_, ?_⟩ <;> exact Nat.le_of_ble_eq_true rfl) (m_cnt hL (w := 4) (by omega) hs hv) ?_
              intro mA uA
              subst uA
              refine r_goto 168 dX10_look_107 (by decide) ?_
              refine r_vret dX10_look_168 rfl (Nat.le_of_ble_eq_true rfl) (Nat.le_of_ble_eq_true rfl) ?_
              refine ⟨rfl, rfl, rfl, rfl, ?_, hF1.tr (Fr.cnt hs (by omega)), fun x x1 _ => by rw [up2_row _ _ x1]; exact ho x x1⟩
              rw [hlk]
              exact hS1.cnt hs (by omega) hk1
          · rw [if_neg hu] at hlk
            obtain ⟨w, hw, hwu⟩ := fi_lt (l := p.2.2) (p := fun w => !w.2.2) (by show unIx p.2.2 < _; omega)
            have hw : p.2.2[unIx p.2.2]? = some w := hw
            have hwu' : w.2.2 = false := by simpa using hwu
            cases hc : chg st.1 p (unIx p.2.2) with
            | none =>
              rw [hc] at hlk
              have hv := hS1.2.1 6 (by omega)
              refine r_iload_n 2 dX10_look_91 rfl rfl ?_
              refine r_aload_n 0 dX10_look_92 rfl rfl ?_
              refine r_getR dX10_look_93 fl_RX10_23 rfl (by assumption) (by assumption) ?_
              refine r_iconst (v := nI 2) dX10_look_96 (by decide) ?_
              refine r_ialdV dX10_look_97 (by assumption) (by omega) (by omega) (by first | assumption | exact up2_same _ _ _ _ | exact (Eq.trans (up2_ne _ _ (by omega)) (by first | assumption | exact up2_same _ _ _ _)) | exact (Eq.trans (up2_ne _ _ (by omega)) (Eq.trans (up2_ne _ _ (by omega)) (by first | assumption | exact up2_same _ _ _ _))) | exact (Eq.trans (up2_ne _ _ (by omega)) (Eq.trans (up2_ne _ _ (by omega)) (Eq.trans (up2_ne _ _ (by omega)) (by first | assumption | exact up2_same _ _ _ _)))) | exact (Eq.trans (up2_ne _ _ (by omega)) (Eq.trans (up2_ne _ _ (by omega)) (Eq.trans (up2_ne _ _ (by omega)) (Eq.trans (up2_ne _ _ (by omega)) (by first | assumption | exact up2_same _ _ _ _))))) | rfl) ?_
              refine r_icmpN_ne 110 dX10_look_98 (by decide) (by omega) (by omega) (fun h98 => ?_) (fun h98 => ?_)
              · refine r_aload_n 0 dX10_look_110 rfl rfl ?_
                refine r_iload_n 1 dX10_look_111 rfl rfl ?_
                refine r_iload_n 2 dX10_look_112 rfl rfl ?_
                refine r_callVi [_, _] dX10_look_113 ok_RX10_141 ivX10_isFor (by assumption) ⟨_, _, rfl⟩ rfl rfl (Nat.le_of_ble_eq_true rfl) (by refine ⟨?_, ?_, ?_, ?_⟩ <;> exact Nat.le_of_ble_eq_true rfl) (m_isFor hL hs hp' hpk hS1.1 hk.1 hw hwu') ?_
                intro vA mA uA
                rw [hc] at uA
                obtain ⟨uO, rfl⟩ := uA
                have hvA : mA (o + 1) (96 + 6 * 6 + s) = nI (st.2.1 6) := by rw [uO _ (by omega)]; exact hv
                refine r_ifN_eq 161 dX10_look_116 (by decide) (by omega) (fun h116 => ?_) (fun h116 => ?_)
                · refine r_aload_n 0 dX10_look_161 rfl rfl ?_
                  refine r_bipush (v := nI 6) dX10_look_162 (by decide) ?_
                  refine r_iload_n 1 dX10_look_164 rfl rfl ?_
                  refine r_callVw [_, _] dX10_look_165 ok_RX10_119 ivX10_count (by assumption) ⟨_, _, rfl⟩ rfl rfl (Nat.le_of_ble_eq_true rfl) (by refine ⟨?_, ?_, ?_, ?_⟩ <;> exact Nat.le_of_ble_eq_true rfl) (m_cnt hL (w := 6) (by omega) hs hvA) ?_
                  intro mB uB
                  subst uB
                  refine r_vret dX10_look_168 rfl (Nat.le_of_ble_eq_true rfl) (Nat.le_of_ble_eq_true rfl) ?_
                  have eA : mA (o + 1) = m (o + 1) := uO _ (by omega)
                  refine ⟨rfl, rfl, rfl, rfl, ?_, hF1.tr (by rw [← eA]; exact Fr.cnt hs (by omega)), fun x x1 x2 => by rw [up2_row _ _ x1, uO x x2]; exact ho x x1⟩
                  rw [hlk]
                  rw [← eA] at hS1
                  exact hS1.cnt hs (by omega) hk1
                · omega
              · omega
            | some p' =>
              rw [hc] at hlk
              have hpk' := okSe_chg hk.1 hpk hc
              have hv := hS1.2.1 5 (by omega)
              have hde := hS1.1.2.2.2.2.1
              have hk2 : lk (st.1, bump st.2.1 5, st.2.2.1, knAdd st.2.2.2.1 p now, st.2.2.2.2) := hk1
              by_cases h12 : st.2.2.1.length < 12
              · have hlk : look st p now = (st.1, bump st.2.1 5, st.2.2.1 ++ [(p', now + st.1.2.2.2.2.1)], knAdd st.2.2.2.1 p now, st.2.2.2.2) := by rw [hlk]; exact if_pos h12
                refine r_iload_n 2 dX10_look_91 rfl rfl ?_
                refine r_aload_n 0 dX10_look_92 rfl rfl ?_
                refine r_getR dX10_look_93 fl_RX10_23 rfl (by assumption) (by assumption) ?_
                refine r_iconst (v := nI 2) dX10_look_96 (by decide) ?_
                refine r_ialdV dX10_look_97 (by assumption) (by omega) (by omega) (by first | assumption | exact up2_same _ _ _ _ | exact (Eq.trans (up2_ne _ _ (by omega)) (by first | assumption | exact up2_same _ _ _ _)) | exact (Eq.trans (up2_ne _ _ (by omega)) (Eq.trans (up2_ne _ _ (by omega)) (by first | assumption | exact up2_same _ _ _ _))) | exact (Eq.trans (up2_ne _ _ (by omega)) (Eq.trans (up2_ne _ _ (by omega)) (Eq.trans (up2_ne _ _ (by omega)) (by first | assumption | exact up2_same _ _ _ _)))) | exact (Eq.trans (up2_ne _ _ (by omega)) (Eq.trans (up2_ne _ _ (by omega)) (Eq.trans (up2_ne _ _ (by omega)) (Eq.trans (up2_ne _ _ (by omega)) (by first | assumption | exact up2_same _ _ _ _))))) | rfl) ?_
                refine r_icmpN_ne 110 dX10_look_98 (by decide) (by omega) (by omega) (fun h98 => ?_) (fun h98 => ?_)
                · refine r_aload_n 0 dX10_look_110 rfl rfl ?_
                  refine r_iload_n 1 dX10_look_111 rfl rfl ?_
                  refine r_iload_n 2 dX10_look_112 rfl rfl ?_
                  refine r_callVi [_, _] dX10_look_113 ok_RX10_141 ivX10_isFor (by assumption) ⟨_, _, rfl⟩ rfl rfl (Nat.le_of_ble_eq_true rfl) (by refine ⟨?_, ?_, ?_, ?_⟩ <;> exact Nat.le_of_ble_eq_true rfl) (m_isFor hL hs hp' hpk hS1.1 hk.1 hw hwu') ?_
                  intro vA mA uA
                  rw [hc] at uA
                  obtain ⟨uO, rfl, uP⟩ := uA
                  have eA : mA (o + 1) = m (o + 1) := uO _ (by omega)
                  have hvA : mA (o + 1) (96 + 6 * 5 + s) = nI (st.2.1 5) := by rw [eA]; exact hv
                  refine r_ifN_eq 161 dX10_look_116 (by decide) (by omega) (fun h116 => ?_) (fun h116 => ?_)
                  · omega
                  · refine r_aload_n 0 dX10_look_119 rfl rfl ?_
                    refine r_iconst (v := nI 5) dX10_look_120 (by decide) ?_
                    refine r_iload_n 1 dX10_look_121 rfl rfl ?_
                    refine r_callVw [_, _] dX10_look_122 ok_RX10_119 ivX10_count (by assumption) ⟨_, _, rfl⟩ rfl rfl (Nat.le_of_ble_eq_true rfl) (by refine ⟨?_, ?_, ?_, ?_⟩ <;> exact Nat.le_of_ble_eq_true rfl) (m_cnt hL (w := 5) (by omega) hs hvA) ?_
                    intro mB uB
                    have hSB : StM (mB (o + 1)) s (st.1, bump st.2.1 5, st.2.2.1, knAdd st.2.2.2.1 p now, st.2.2.2.2) := by rw [uB]; rw [← eA] at hS1; exact hS1.cnt hs (by omega) hk1
                    have hFB : Fr s 0 1314 (mi (o + 1)) (mB (o + 1)) := by rw [uB]; exact hF1.tr (by rw [← eA]; exact Fr.cnt hs (by omega))
                    have hOB : ∀ x, x ≠ o + 1 → mB x = mA x := fun x hx => by rw [uB]; exact up2_row _ _ hx
                    have hnB : mB (o + 1) 1386 = nI now := by rw [hFB.out (by omega)]; exact hnow
                    have hdB := hSB.1.2.2.2.2.1
                    have hPB : PkM (mB (o + 5)) 0 p' := by rw [hOB _ (by omega)]; exact uP
                    refine r_aload_n 0 dX10_look_125 rfl rfl ?_
                    refine r_iload_n 1 dX10_look_126 rfl rfl ?_
                    refine r_aload_n 0 dX10_look_127 rfl rfl ?_
                    refine r_getR dX10_look_128 fl_RX10_7 rfl (by assumption) (by assumption) ?_
                    refine r_sipush (v := nI 1386) dX10_look_131 (by decide) ?_
                    refine r_ialdV dX10_look_134 (by assumption) (by omega) (by omega) (by first | assumption | exact up2_same _ _ _ _ | exact (Eq.trans (up2_ne _ _ (by omega)) (by first | assumption | exact up2_same _ _ _ _)) | exact (Eq.trans (up2_ne _ _ (by omega)) (Eq.trans (up2_ne _ _ (by omega)) (by first | assumption | exact up2_same _ _ _ _))) | exact (Eq.trans (up2_ne _ _ (by omega)) (Eq.trans (up2_ne _ _ (by omega)) (Eq.trans (up2_ne _ _ (by omega)) (by first | assumption | exact up2_same _ _ _ _)))) | exact (Eq.trans (up2_ne _ _ (by omega)) (Eq.trans (up2_ne _ _ (by omega)) (Eq.trans (up2_ne _ _ (by omega)) (Eq.trans (up2_ne _ _ (by omega)) (by first | assumption | exact up2_same _ _ _ _))))) | rfl) ?_
                    refine r_aload_n 0 dX10_look_135 rfl rfl ?_
                    refine r_getR dX10_look_136 fl_RX10_7 rfl (by assumption) (by assumption) ?_
                    refine r_bipush (v := nI 48) dX10_look_139 (by decide) ?_
                    refine r_iload_n 1 dX10_look_141 rfl rfl ?_
                    refine r_iaddN dX10_look_142 ?_
                    refine r_ialdV dX10_look_143 (by assumption) (by omega) (by omega) (by first | assumption | exact up2_same _ _ _ _ | exact (Eq.trans (up2_ne _ _ (by omega)) (by first | assumption | exact up2_same _ _ _ _)) | exact (Eq.trans (up2_ne _ _ (by omega)) (Eq.trans (up2_ne _ _ (by omega)) (by first | assumption | exact up2_same _ _ _ _))) | exact (Eq.trans (up2_ne _ _ (by omega)) (Eq.trans (up2_ne _ _ (by omega)) (Eq.trans (up2_ne _ _ (by omega)) (by first | assumption | exact up2_same _ _ _ _)))) | exact (Eq.trans (up2_ne _ _ (by omega)) (Eq.trans (up2_ne _ _ (by omega)) (Eq.trans (up2_ne _ _ (by omega)) (Eq.trans (up2_ne _ _ (by omega)) (by first | assumption | exact up2_same _ _ _ _))))) | rfl) ?_
                    refine r_iaddN dX10_look_144 ?_
                    refine r_callVx [_, _] dX10_look_145 ok_RX10_113 ivX10_keep (by assumption) ⟨_, _, rfl⟩ rfl rfl (Nat.le_of_ble_eq_true rfl) (by refine ⟨?_, ?_, ?_, ?_⟩ <;> exact Nat.le_of_ble_eq_true rfl) (m_keepOk hL hs hSB.2.2.1 h12 hk.2.1.2 hPB hpk'.2.2.1) ?_
                    intro mC ⟨uK, uF, uQ⟩
                    refine r_ifN_ne 168 dX10_look_148 (by decide) (by omega) (fun h148 => ?_) (fun h148 => ?_)
                    · refine r_vret dX10_look_168 rfl (Nat.le_of_ble_eq_true rfl) (Nat.le_of_ble_eq_true rfl) ?_
                      refine ⟨rfl, rfl, rfl, rfl, ?_, hFB.tr (uF.wd (by omega) (by omega)), fun x x1 x2 => by rw [uQ x x1, hOB x x1, uO x x2]; exact ho x x1⟩
                      rw [hlk]
                      exact hSB.kp hs hk2 uF uK
                    · omega
                · omega
              · have hlk : look st p now = (st.1, bump (bump st.2.1 5) 8, st.2.2.1, knAdd st.2.2.2.1 p now, st.2.2.2.2) := by rw [hlk]; exact if_neg h12
                have h12' : st.2.2.1.length = 12 := by have := hk.2.1.1; omega
                refine r_iload_n 2 dX10_look_91 rfl rfl ?_
                refine r_aload_n 0 dX10_look_92 rfl rfl ?_
                refine r_getR dX10_look_93 fl_RX10_23 rfl (by assumption) (by assumption) ?_
                refine r_iconst (v := nI 2) dX10_look_96 (by decide) ?_
                refine r_ialdV dX10_look_97 (by assumption) (by omega) (by omega) (by first | assumption | exact up2_same _ _ _ _ | exact (Eq.trans (up2_ne _ _ (by omega)) (by first | assumption | exact up2_same _ _ _ _)) | exact (Eq.trans (up2_ne _ _ (by omega)) (Eq.trans (up2_ne _ _ (by omega)) (by first | assumption | exact up2_same _ _ _ _))) | exact (Eq.trans (up2_ne _ _ (by omega)) (Eq.trans (up2_ne _ _ (by omega)) (Eq.trans (up2_ne _ _ (by omega)) (by first | assumption | exact up2_same _ _ _ _)))) | exact (Eq.trans (up2_ne _ _ (by omega)) (Eq.trans (up2_ne _ _ (by omega)) (Eq.trans (up2_ne _ _ (by omega)) (Eq.trans (up2_ne _ _ (by omega)) (by first | assumption | exact up2_same _ _ _ _))))) | rfl) ?_
                refine r_icmpN_ne 110 dX10_look_98 (by decide) (by omega) (by omega) (fun h98 => ?_) (fun h98 => ?_)
                · refine r_aload_n 0 dX10_look_110 rfl rfl ?_
                  refine r_iload_n 1 dX10_look_111 rfl rfl ?_
                  refine r_iload_n 2 dX10_look_112 rfl rfl ?_
                  refine r_callVi [_, _] dX10_look_113 ok_RX10_141 ivX10_isFor (by assumption) ⟨_, _, rfl⟩ rfl rfl (Nat.le_of_ble_eq_true rfl) (by refine ⟨?_, ?_, ?_, ?_⟩ <;> exact Nat.le_of_ble_eq_true rfl) (m_isFor hL hs hp' hpk hS1.1 hk.1 hw hwu') ?_
                  intro vA mA uA
                  rw [hc] at uA
                  obtain ⟨uO, rfl, uP⟩ := uA
                  have eA : mA (o + 1) = m (o + 1) := uO _ (by omega)
                  have hvA : mA (o + 1) (96 + 6 * 5 + s) = nI (st.2.1 5) := by rw [eA]; exact hv
                  refine r_ifN_eq 161 dX10_look_116 (by decide) (by omega) (fun h116 => ?_) (fun h116 => ?_)
                  · omega
                  · refine r_aload_n 0 dX10_look_119 rfl rfl ?_
                    refine r_iconst (v := nI 5) dX10_look_120 (by decide) ?_
                    refine r_iload_n 1 dX10_look_121 rfl rfl ?_
                    refine r_callVw [_, _] dX10_look_122 ok_RX10_119 ivX10_count (by assumption) ⟨_, _, rfl⟩ rfl rfl (Nat.le_of_ble_eq_true rfl) (by refine ⟨?_, ?_, ?_, ?_⟩ <;> exact Nat.le_of_ble_eq_true rfl) (m_cnt hL (w := 5) (by omega) hs hvA) ?_
                    intro mB uB
                    have hSB : StM (mB (o + 1)) s (st.1, bump st.2.1 5, st.2.2.1, knAdd st.2.2.2.1 p now, st.2.2.2.2) := by rw [uB]; rw [← eA] at hS1; exact hS1.cnt hs (by omega) hk1
                    have hFB : Fr s 0 1314 (mi (o + 1)) (mB (o + 1)) := by rw [uB]; exact hF1.tr (by rw [← eA]; exact Fr.cnt hs (by omega))
                    have hOB : ∀ x, x ≠ o + 1 → mB x = mA x := fun x hx => by rw [uB]; exact up2_row _ _ hx
                    have hnB : mB (o + 1) 1386 = nI now := by rw [hFB.out (by omega)]; exact hnow
                    have hdB := hSB.1.2.2.2.2.1
                    have hv8 := hSB.2.1 8 (by omega)
                    refine r_aload_n 0 dX10_look_125 rfl rfl ?_
                    refine r_iload_n 1 dX10_look_126 rfl rfl ?_
                    refine r_aload_n 0 dX10_look_127 rfl rfl ?_
                    refine r_getR dX10_look_128 fl_RX10_7 rfl (by assumption) (by assumption) ?_
                    refine r_sipush (v := nI 1386) dX10_look_131 (by decide) ?_
                    refine r_ialdV dX10_look_134 (by assumption) (by omega) (by omega) (by first | assumption | exact up2_same _ _ _ _ | exact (Eq.trans (up2_ne _ _ (by omega)) (by first | assumption | exact up2_same _ _ _ _)) | exact (Eq.trans (up2_ne _ _ (by omega)) (Eq.trans (up2_ne _ _ (by omega)) (by first | assumption | exact up2_same _ _ _ _))) | exact (Eq.trans (up2_ne _ _ (by omega)) (Eq.trans (up2_ne _ _ (by omega)) (Eq.trans (up2_ne _ _ (by omega)) (by first | assumption | exact up2_same _ _ _ _)))) | exact (Eq.trans (up2_ne _ _ (by omega)) (Eq.trans (up2_ne _ _ (by omega)) (Eq.trans (up2_ne _ _ (by omega)) (Eq.trans (up2_ne _ _ (by omega)) (by first | assumption | exact up2_same _ _ _ _))))) | rfl) ?_
                    refine r_aload_n 0 dX10_look_135 rfl rfl ?_
                    refine r_getR dX10_look_136 fl_RX10_7 rfl (by assumption) (by assumption) ?_
                    refine r_bipush (v := nI 48) dX10_look_139 (by decide) ?_
                    refine r_iload_n 1 dX10_look_141 rfl rfl ?_
                    refine r_iaddN dX10_look_142 ?_
                    refine r_ialdV dX10_look_143 (by assumption) (by omega) (by omega) (by first | assumption | exact up2_same _ _ _ _ | exact (Eq.trans (up2_ne _ _ (by omega)) (by first | assumption | exact up2_same _ _ _ _)) | exact (Eq.trans (up2_ne _ _ (by omega)) (Eq.trans (up2_ne _ _ (by omega)) (by first | assumption | exact up2_same _ _ _ _))) | exact (Eq.trans (up2_ne _ _ (by omega)) (Eq.trans (up2_ne _ _ (by omega)) (Eq.trans (up2_ne _ _ (by omega)) (by first | assumption | exact up2_same _ _ _ _)))) | exact (Eq.trans (up2_ne _ _ (by omega)) (Eq.trans (up2_ne _ _ (by omega)) (Eq.trans (up2_ne _ _ (by omega)) (Eq.trans (up2_ne _ _ (by omega)) (by first | assumption | exact up2_same _ _ _ _))))) | rfl) ?_
                    refine r_iaddN dX10_look_144 ?_
                    refine r_callVp [_, _] dX10_look_145 ok_RX10_113 ivX10_keep (by assumption) ⟨_, _, rfl⟩ rfl rfl (Nat.le_of_ble_eq_true rfl) (by refine ⟨?_, ?_, ?_, ?_⟩ <;> exact Nat.le_of_ble_eq_true rfl) (m_keepNo hL hs hSB.2.2.1 h12') ?_
                    refine r_ifN_ne 168 dX10_look_148 (by decide) (by omega) (fun h148 => ?_) (fun h148 => ?_)
                    · refine r_vret dX10_look_168 rfl (Nat.le_of_ble_eq_true rfl) (Nat.le_of_ble_eq_true rfl) ?_
                      first | omega | (refine ⟨rfl, rfl, rfl, rfl, ?_, hFB.tr (Fr.cnt hs (by omega)), fun x x1 x2 => by rw [up2_row _ _ x1, hOB x x1, uO x x2]; exact ho x x1⟩; rw [hlk]; exact hSB.cnt hs (by omega) hk2)
                    · refine r_aload_n 0 dX10_look_151 rfl rfl ?_
                      refine r_bipush (v := nI 8) dX10_look_152 (by decide) ?_
                      refine r_iload_n 1 dX10_look_154 rfl rfl ?_
                      refine r_callVw [_, _] dX10_look_155 ok_RX10_119 ivX10_count (by assumption) ⟨_, _, rfl⟩ rfl rfl (Nat.le_of_ble_eq_true rfl) (by refine ⟨?_, ?_, ?_, ?_⟩ <;> exact Nat.le_of_ble_eq_true rfl) (m_cnt hL (w := 8) (by omega) hs hv8) ?_
                      intro mC uC
                      subst uC
                      refine r_goto 168 dX10_look_158 (by decide) ?_
                      refine r_vret dX10_look_168 rfl (Nat.le_of_ble_eq_true rfl) (Nat.le_of_ble_eq_true rfl) ?_
                      first | omega | (refine ⟨rfl, rfl, rfl, rfl, ?_, hFB.tr (Fr.cnt hs (by omega)), fun x x1 x2 => by rw [up2_row _ _ x1, hOB x x1, uO x x2]; exact ho x x1⟩; rw [hlk]; exact hSB.cnt hs (by omega) hk2)
                · omega
        have H : ∀ t i : Nat, i + t = unIx p.2.2 → Wp yX10_look cX10_look 3 none (EI 3 z sh mr (LoP mi o s (look st p now))) 0 0 61 [.ref o, .int (nI s), .int (nI i)] [] z sh m mr := by
          have hule : unIx p.2.2 ≤ p.2.2.length := List.findIdx_le_length
          intro t
          induction t with
          | zero =>
            intro i hi
            have hi : i = unIx p.2.2 := hi
            subst hi
            by_cases hu : unIx p.2.2 = p.2.2.length
            · skip
              refine r_iload_n 2 dX10_look_61 rfl rfl ?_
              refine r_aload_n 0 dX10_look_62 rfl rfl ?_
              refine r_getR dX10_look_63 fl_RX10_23 rfl (by assumption) (by assumption) ?_
              refine r_iconst (v := nI 2) dX10_look_66 (by decide) ?_
              refine r_ialdV dX10_look_67 (by assumption) (by omega) (by omega) (by first | assumption | exact up2_same _ _ _ _ | exact (Eq.trans (up2_ne _ _ (by omega)) (by first | assumption | exact up2_same _ _ _ _)) | exact (Eq.trans (up2_ne _ _ (by omega)) (Eq.trans (up2_ne _ _ (by omega)) (by first | assumption | exact up2_same _ _ _ _))) | exact (Eq.trans (up2_ne _ _ (by omega)) (Eq.trans (up2_ne _ _ (by omega)) (Eq.trans (up2_ne _ _ (by omega)) (by first | assumption | exact up2_same _ _ _ _)))) | exact (Eq.trans (up2_ne _ _ (by omega)) (Eq.trans (up2_ne _ _ (by omega)) (Eq.trans (up2_ne _ _ (by omega)) (Eq.trans (up2_ne _ _ (by omega)) (by first | assumption | exact up2_same _ _ _ _))))) | rfl) ?_
              refine r_icmpN_ge 91 dX10_look_68 (by decide) (by omega) (by omega) (fun h68 => ?_) (fun h68 => ?_)
              · exact K91
              · omega
            · obtain ⟨w, hw, hwu⟩ := fi_lt (l := p.2.2) (p := fun w => !w.2.2) (by show unIx p.2.2 < _; omega)
              have hw : p.2.2[unIx p.2.2]? = some w := hw
              have hwu' : w.2.2 = false := by simpa using hwu
              have hvw : m (o + 5) (3 + unIx p.2.2) = nI (wc 27 w) := hp'.2.2.2 _ w hw
              refine r_iload_n 2 dX10_look_61 rfl rfl ?_
              refine r_aload_n 0 dX10_look_62 rfl rfl ?_
              refine r_getR dX10_look_63 fl_RX10_23 rfl (by assumption) (by assumption) ?_
              refine r_iconst (v := nI 2) dX10_look_66 (by decide) ?_
              refine r_ialdV dX10_look_67 (by assumption) (by omega) (by omega) (by first | assumption | exact up2_same _ _ _ _ | exact (Eq.trans (up2_ne _ _ (by omega)) (by first | assumption | exact up2_same _ _ _ _)) | exact (Eq.trans (up2_ne _ _ (by omega)) (Eq.trans (up2_ne _ _ (by omega)) (by first | assumption | exact up2_same _ _ _ _))) | exact (Eq.trans (up2_ne _ _ (by omega)) (Eq.trans (up2_ne _ _ (by omega)) (Eq.trans (up2_ne _ _ (by omega)) (by first | assumption | exact up2_same _ _ _ _)))) | exact (Eq.trans (up2_ne _ _ (by omega)) (Eq.trans (up2_ne _ _ (by omega)) (Eq.trans (up2_ne _ _ (by omega)) (Eq.trans (up2_ne _ _ (by omega)) (by first | assumption | exact up2_same _ _ _ _))))) | rfl) ?_
              refine r_icmpN_ge 91 dX10_look_68 (by decide) (by omega) (by omega) (fun h68 => ?_) (fun h68 => ?_)
              · exact K91
              · refine r_aload_n 0 dX10_look_71 rfl rfl ?_
                refine r_getR dX10_look_72 fl_RX10_23 rfl (by assumption) (by assumption) ?_
                refine r_iconst (v := nI 3) dX10_look_75 (by decide) ?_
                refine r_iload_n 2 dX10_look_76 rfl rfl ?_
                refine r_iaddN dX10_look_77 ?_
                refine r_ialdV dX10_look_78 (by assumption) (by omega) (by omega) (by first | assumption | exact up2_same _ _ _ _ | exact (Eq.trans (up2_ne _ _ (by omega)) (by first | assumption | exact up2_same _ _ _ _)) | exact (Eq.trans (up2_ne _ _ (by omega)) (Eq.trans (up2_ne _ _ (by omega)) (by first | assumption | exact up2_same _ _ _ _))) | exact (Eq.trans (up2_ne _ _ (by omega)) (Eq.trans (up2_ne _ _ (by omega)) (Eq.trans (up2_ne _ _ (by omega)) (by first | assumption | exact up2_same _ _ _ _)))) | exact (Eq.trans (up2_ne _ _ (by omega)) (Eq.trans (up2_ne _ _ (by omega)) (Eq.trans (up2_ne _ _ (by omega)) (Eq.trans (up2_ne _ _ (by omega)) (by first | assumption | exact up2_same _ _ _ _))))) | rfl) ?_
                refine r_callSp [_] dX10_look_79 ok_RX10_135 isX10_isSpent rfl rfl (Nat.le_of_ble_eq_true rfl) (by refine ⟨?_, ?_, ?_, ?_⟩ <;> exact Nat.le_of_ble_eq_true rfl) (m_spW (hpk.2.2.2 w (gl_mem hw))) ?_
                rw [hwu']
                refine r_ifB_eq 91 dX10_look_82 (by decide) (fun h82 => ?_) (fun h82 => ?_)
                · exact K91
                · exact absurd h82 (by decide)
          | succ t ih =>
            intro i hi
            obtain ⟨w, hw⟩ := gl_ex (l := p.2.2) (i := i) (by omega)
            have hws := fi_bef (p := fun w => !w.2.2) (show i < p.2.2.findIdx (fun w => !w.2.2) by show i < unIx p.2.2; omega) hw
            have hws' : w.2.2 = true := by simpa using hws
            have hvw : m (o + 5) (3 + i) = nI (wc 27 w) := hp'.2.2.2 i w hw
            refine r_iload_n 2 dX10_look_61 rfl rfl ?_
            refine r_aload_n 0 dX10_look_62 rfl rfl ?_
            refine r_getR dX10_look_63 fl_RX10_23 rfl (by assumption) (by assumption) ?_
            refine r_iconst (v := nI 2) dX10_look_66 (by decide) ?_
            refine r_ialdV dX10_look_67 (by assumption) (by omega) (by omega) (by first | assumption | exact up2_same _ _ _ _ | exact (Eq.trans (up2_ne _ _ (by omega)) (by first | assumption | exact up2_same _ _ _ _)) | exact (Eq.trans (up2_ne _ _ (by omega)) (Eq.trans (up2_ne _ _ (by omega)) (by first | assumption | exact up2_same _ _ _ _))) | exact (Eq.trans (up2_ne _ _ (by omega)) (Eq.trans (up2_ne _ _ (by omega)) (Eq.trans (up2_ne _ _ (by omega)) (by first | assumption | exact up2_same _ _ _ _)))) | exact (Eq.trans (up2_ne _ _ (by omega)) (Eq.trans (up2_ne _ _ (by omega)) (Eq.trans (up2_ne _ _ (by omega)) (Eq.trans (up2_ne _ _ (by omega)) (by first | assumption | exact up2_same _ _ _ _))))) | rfl) ?_
            refine r_icmpN_ge 91 dX10_look_68 (by decide) (by omega) (by omega) (fun h68 => ?_) (fun h68 => ?_)
            · first | omega | exact absurd h82 (by decide)
            · refine r_aload_n 0 dX10_look_71 rfl rfl ?_
              refine r_getR dX10_look_72 fl_RX10_23 rfl (by assumption) (by assumption) ?_
              refine r_iconst (v := nI 3) dX10_look_75 (by decide) ?_
              refine r_iload_n 2 dX10_look_76 rfl rfl ?_
              refine r_iaddN dX10_look_77 ?_
              refine r_ialdV dX10_look_78 (by assumption) (by omega) (by omega) (by first | assumption | exact up2_same _ _ _ _ | exact (Eq.trans (up2_ne _ _ (by omega)) (by first | assumption | exact up2_same _ _ _ _)) | exact (Eq.trans (up2_ne _ _ (by omega)) (Eq.trans (up2_ne _ _ (by omega)) (by first | assumption | exact up2_same _ _ _ _))) | exact (Eq.trans (up2_ne _ _ (by omega)) (Eq.trans (up2_ne _ _ (by omega)) (Eq.trans (up2_ne _ _ (by omega)) (by first | assumption | exact up2_same _ _ _ _)))) | exact (Eq.trans (up2_ne _ _ (by omega)) (Eq.trans (up2_ne _ _ (by omega)) (Eq.trans (up2_ne _ _ (by omega)) (Eq.trans (up2_ne _ _ (by omega)) (by first | assumption | exact up2_same _ _ _ _))))) | rfl) ?_
              refine r_callSp [_] dX10_look_79 ok_RX10_135 isX10_isSpent rfl rfl (Nat.le_of_ble_eq_true rfl) (by refine ⟨?_, ?_, ?_, ?_⟩ <;> exact Nat.le_of_ble_eq_true rfl) (m_spW (hpk.2.2.2 w (gl_mem hw))) ?_
              rw [hws']
              refine r_ifB_eq 91 dX10_look_82 (by decide) (fun h82 => ?_) (fun h82 => ?_)
              · first | omega | exact absurd h82 (by decide)
              · refine r_iincN 2 (b := 1) (ls2 := [_, _, _]) dX10_look_85 rfl (by decide) (by decide) rfl ?_
                refine r_goto 61 dX10_look_88 (by decide) ?_
                exact ih (i + 1) (by omega)
        refine r_iconst (v := nI 0) dX10_look_59 (by decide) ?_
        refine r_istore_n 2 (ls2 := [_, _, _]) dX10_look_60 rfl (by decide) (Nat.le_of_ble_eq_true rfl) rfl ?_
        exact H (unIx p.2.2) 0 (by omega)
      refine Mv.of pnX10_look (Nat.le_of_ble_eq_true rfl) rfl ?_
      refine r_aload_n 0 dX10_look_0 rfl rfl ?_
      refine r_iload_n 1 dX10_look_1 rfl rfl ?_
      refine r_callVp [_] dX10_look_2 ok_RX10_138 ivX10_isOwn (by assumption) ⟨_, _, rfl⟩ rfl rfl (Nat.le_of_ble_eq_true rfl) (by refine ⟨?_, ?_, ?_, ?_⟩ <;> exact Nat.le_of_ble_eq_true rfl) (m_isOwn hL hs hp hpk hcall hk.1.1) ?_
      rw [hown']
      refine r_ifB_eq 15 dX10_look_5 (by decide) (fun h5 => ?_) (fun h5 => ?_)
      · refine r_aload_n 0 dX10_look_15 rfl rfl ?_
        refine r_iload_n 1 dX10_look_16 rfl rfl ?_
        refine r_aload_n 0 dX10_look_17 rfl rfl ?_
        refine r_getR dX10_look_18 fl_RX10_23 rfl (by assumption) (by assumption) ?_
        refine r_iconst (v := nI 0) dX10_look_21 (by decide) ?_
        refine r_ialdV dX10_look_22 (by assumption) (by omega) (by omega) (by first | assumption | exact up2_same _ _ _ _ | exact (Eq.trans (up2_ne _ _ (by omega)) (by first | assumption | exact up2_same _ _ _ _)) | exact (Eq.trans (up2_ne _ _ (by omega)) (Eq.trans (up2_ne _ _ (by omega)) (by first | assumption | exact up2_same _ _ _ _))) | exact (Eq.trans (up2_ne _ _ (by omega)) (Eq.trans (up2_ne _ _ (by omega)) (Eq.trans (up2_ne _ _ (by omega)) (by first | assumption | exact up2_same _ _ _ _)))) | exact (Eq.trans (up2_ne _ _ (by omega)) (Eq.trans (up2_ne _ _ (by omega)) (Eq.trans (up2_ne _ _ (by omega)) (Eq.trans (up2_ne _ _ (by omega)) (by first | assumption | exact up2_same _ _ _ _))))) | rfl) ?_
        refine r_aload_n 0 dX10_look_23 rfl rfl ?_
        refine r_getR dX10_look_24 fl_RX10_23 rfl (by assumption) (by assumption) ?_
        refine r_iconst (v := nI 1) dX10_look_27 (by decide) ?_
        refine r_ialdV dX10_look_28 (by assumption) (by omega) (by omega) (by first | assumption | exact up2_same _ _ _ _ | exact (Eq.trans (up2_ne _ _ (by omega)) (by first | assumption | exact up2_same _ _ _ _)) | exact (Eq.trans (up2_ne _ _ (by omega)) (Eq.trans (up2_ne _ _ (by omega)) (by first | assumption | exact up2_same _ _ _ _))) | exact (Eq.trans (up2_ne _ _ (by omega)) (Eq.trans (up2_ne _ _ (by omega)) (Eq.trans (up2_ne _ _ (by omega)) (by first | assumption | exact up2_same _ _ _ _)))) | exact (Eq.trans (up2_ne _ _ (by omega)) (Eq.trans (up2_ne _ _ (by omega)) (Eq.trans (up2_ne _ _ (by omega)) (Eq.trans (up2_ne _ _ (by omega)) (by first | assumption | exact up2_same _ _ _ _))))) | rfl) ?_
        refine r_callVp [_, _, _] dX10_look_29 ok_RX10_105 ivX10_placeKnown (by assumption) ⟨_, _, rfl⟩ rfl rfl (Nat.le_of_ble_eq_true rfl) (by refine ⟨?_, ?_, ?_, ?_⟩ <;> exact Nat.le_of_ble_eq_true rfl) (m_place hL hs hS.2.2.2.1 hkn hpk.1 hpk.2.1) ?_
        rw [if_neg hkx]
        refine r_if_lt 42 dX10_look_32 (by decide) (fun h32 => ?_) (fun h32 => ?_)
        · refine r_aload_n 0 dX10_look_42 rfl rfl ?_
          refine r_iload_n 1 dX10_look_43 rfl rfl ?_
          refine r_aload_n 0 dX10_look_44 rfl rfl ?_
          refine r_getR dX10_look_45 fl_RX10_23 rfl (by assumption) (by assumption) ?_
          refine r_iconst (v := nI 0) dX10_look_48 (by decide) ?_
          refine r_ialdV dX10_look_49 (by assumption) (by omega) (by omega) (by first | assumption | exact up2_same _ _ _ _ | exact (Eq.trans (up2_ne _ _ (by omega)) (by first | assumption | exact up2_same _ _ _ _)) | exact (Eq.trans (up2_ne _ _ (by omega)) (Eq.trans (up2_ne _ _ (by omega)) (by first | assumption | exact up2_same _ _ _ _))) | exact (Eq.trans (up2_ne _ _ (by omega)) (Eq.trans (up2_ne _ _ (by omega)) (Eq.trans (up2_ne _ _ (by omega)) (by first | assumption | exact up2_same _ _ _ _)))) | exact (Eq.trans (up2_ne _ _ (by omega)) (Eq.trans (up2_ne _ _ (by omega)) (Eq.trans (up2_ne _ _ (by omega)) (Eq.trans (up2_ne _ _ (by omega)) (by first | assumption | exact up2_same _ _ _ _))))) | rfl) ?_
          refine r_aload_n 0 dX10_look_50 rfl rfl ?_
          refine r_getR dX10_look_51 fl_RX10_23 rfl (by assumption) (by assumption) ?_
          refine r_iconst (v := nI 1) dX10_look_54 (by decide) ?_
          refine r_ialdV dX10_look_55 (by assumption) (by omega) (by omega) (by first | assumption | exact up2_same _ _ _ _ | exact (Eq.trans (up2_ne _ _ (by omega)) (by first | assumption | exact up2_same _ _ _ _)) | exact (Eq.trans (up2_ne _ _ (by omega)) (Eq.trans (up2_ne _ _ (by omega)) (by first | assumption | exact up2_same _ _ _ _))) | exact (Eq.trans (up2_ne _ _ (by omega)) (Eq.trans (up2_ne _ _ (by omega)) (Eq.trans (up2_ne _ _ (by omega)) (by first | assumption | exact up2_same _ _ _ _)))) | exact (Eq.trans (up2_ne _ _ (by omega)) (Eq.trans (up2_ne _ _ (by omega)) (Eq.trans (up2_ne _ _ (by omega)) (Eq.trans (up2_ne _ _ (by omega)) (by first | assumption | exact up2_same _ _ _ _))))) | rfl) ?_
          refine r_callVw [_, _, _] dX10_look_56 ok_RX10_109 ivX10_know (by assumption) ⟨_, _, rfl⟩ rfl rfl (Nat.le_of_ble_eq_true rfl) (by refine ⟨?_, ?_, ?_, ?_⟩ <;> exact Nat.le_of_ble_eq_true rfl) (m_know hL hs hS.2.2.2.1 hk.2.2.1 hnow) ?_
          intro mA ⟨uK, uF, uO⟩
          exact K59 mA uK uF uO
        · exact absurd (by decide) h32
      · exact absurd h5 (by decide)
end RLOOK
