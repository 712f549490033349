section RHEAR
variable {z : Nat} {sh : SH} {mi : MI} {mr : MR} {o : Nat}
def oldK (l : Kn) (k now win : Nat) : Kn := l.take k ++ (l.drop k).filter (fun q => decide (now - q.2.2 ≤ win))
theorem oldK_0 (l : Kn) (now win : Nat) : oldK l 0 now win = knOld l now win := by simp [oldK, knOld]
theorem oldK_n (l : Kn) (now win : Nat) : oldK l l.length now win = l := by simp [oldK]
theorem oldK_len (l : Kn) (k now win : Nat) : (oldK l k now win).length ≤ l.length := by
  unfold oldK
  rw [List.length_append, List.length_take]
  have := List.length_filter_le (fun q : Nm × Nm × Nat => decide (now - q.2.2 ≤ win)) (l.drop k)
  rw [List.length_drop] at this
  omega
theorem take_1 {α : Type} {l : List α} {j : Nat} {q : α} (h : l[j]? = some q) : l.take (j + 1) = l.take j ++ [q] := by rw [List.take_succ, h]; rfl
theorem drop_1 {α : Type} {l : List α} {j : Nat} {q : α} (h : l[j]? = some q) : l.drop j = q :: l.drop (j + 1) := by
  obtain ⟨h1, h2⟩ := List.getElem?_eq_some_iff.mp h
  rw [List.drop_eq_getElem_cons h1, h2]
theorem oldK_keep {l : Kn} {j now win : Nat} {q : Nm × Nm × Nat} (h : l[j]? = some q) (hp : now - q.2.2 ≤ win) : oldK l j now win = oldK l (j + 1) now win := by
  unfold oldK
  rw [take_1 h, drop_1 h, List.filter_cons, if_pos (by simpa using hp), List.append_assoc]
  rfl
theorem oldK_drop {l : Kn} {j now win : Nat} {q : Nm × Nm × Nat} (h : l[j]? = some q) (hp : ¬ now - q.2.2 ≤ win) : oldK l j now win = (oldK l (j + 1) now win).eraseIdx j := by
  have hl := gl_lt h
  unfold oldK
  rw [take_1 h, drop_1 h, List.filter_cons, if_neg (by simpa using hp), List.append_assoc, List.eraseIdx_append_of_length_le (by simp; omega)]
  rw [show j - (l.take j).length = 0 by simp; omega]
  rfl
theorem oldK_at {l : Kn} {j now win : Nat} {q : Nm × Nm × Nat} (h : l[j]? = some q) : (oldK l (j + 1) now win)[j]? = some q := by
  have hl := gl_lt h
  unfold oldK
  rw [List.getElem?_append_left (by simp; omega), List.getElem?_take_of_lt (by omega)]
  exact h
theorem Fr.lft {s lo hi : Nat} {f g : Rw} (h : Fr s lo hi f g) (h2 : hi ≤ 1386) : Fr s 0 1386 f g := h.wd (Nat.zero_le _) h2
def HeP (mi : MI) (o s now : Nat) (st : St) : Option Value → MI → Prop := fun v m => v = none ∧ StM (m (o + 1)) s st ∧ Fr s 0 1386 (mi (o + 1)) (m (o + 1)) ∧ m (o + 9) = up2 mi (o + 9) s (if mi (o + 9) s < 0 then nI now else mi (o + 9) s) (o + 9) ∧ ∀ x, x ≠ o + 1 → x ≠ o + 5 → x ≠ o + 9 → m x = mi x
theorem m_hear (hL : LM sh mr o) {s q now : Nat} (hs : s < 6) (hq : q < 6) {st : St} (hS : StM (mi (o + 1)) s st) (hok : okSt st now) {p : Pk} (hp : PkM (mi (o + 6)) (11 * q) p) (hpk : okP p) (hnow : mi (o + 1) 1386 = nI now) (hn30 : now < 2 ^ 30) : Mi mX10_hear 4 [.ref o, .int (nI s), .int (nI q)] z sh mi mr (HeP mi o s now (hears st p now)) := by
  obtain ⟨l0, ⟨l1, l2⟩, -, -, -, ⟨l9, l10⟩, ⟨l11, l12⟩, -, -, ⟨l17, l18⟩, -⟩ := id hL
  have hk := hok.lk
  have hkn := hok.2.2.2.1
  have hwin := hok.1.2.2.2.2.2
  -- the known ones that came too long ago go
  have K121 : ∀ m1 : MI, StM (m1 (o + 1)) s (st.1, bump st.2.1 1, st.2.2.1, st.2.2.2.1, some (p, now)) → PkM (m1 (o + 5)) 0 p → Fr s 0 1386 (mi (o + 1)) (m1 (o + 1)) → m1 (o + 9) = up2 mi (o + 9) s (if mi (o + 9) s < 0 then nI now else mi (o + 9) s) (o + 9) → (∀ x, x ≠ o + 1 → x ≠ o + 5 → x ≠ o + 9 → m1 x = mi x) → ∀ (k : Nat) (m : MI), k ≤ st.2.2.2.1.length → KnM (m (o + 1)) s (oldK st.2.2.2.1 k now st.1.2.2.2.2.2) → Fr s 1020 1314 (m1 (o + 1)) (m (o + 1)) → (∀ x, x ≠ o + 1 → m x = m1 x) → Wp yX10_hear cX10_hear 4 none (EI 4 z sh mr (HeP mi o s now (hears st p now))) 0 0 121 [.ref o, .int (nI s), .int (nI q), .int (nI k - nI 1)] [] z sh m mr := by
    intro m1 hS1 hP1 hF1 h91 ho1 k
    have hk1 : lk (st.1, bump st.2.1 1, st.2.2.1, st.2.2.2.1, some (p, now)) := ⟨hk.1, hk.2.1, hk.2.2.1, fun q' hq' => by
      have e : (p, now) = q' := Option.some.inj hq'
      rw [← e]; exact hpk.2.2.1⟩
    have hn1 : m1 (o + 1) 1386 = nI now := by rw [hF1.out (by omega)]; exact hnow
    induction k with
    | zero =>
      intro m hkl hK hF ho
      rw [oldK_0] at hK
      have hS2 := hS1.kn hs hk1 hF hK
      have hP2 : PkM (m (o + 5)) 0 p := by rw [ho _ (by omega)]; exact hP1
      have hn2 : m (o + 1) 1386 = nI now := by rw [hF.out (by omega)]; exact hn1
      have hk2 : lk (st.1, bump st.2.1 1, st.2.2.1, knOld st.2.2.2.1 now st.1.2.2.2.2.2, some (p, now)) := ⟨hk.1, hk.2.1, (okKn_old _ hkn).1, hk1.2.2.2⟩
      refine r_iload_n 3 dX10_hear_121 rfl rfl ?_
      refine r_if_lt 170 dX10_hear_122 (by decide) (fun h122 => ?_) (fun h122 => ?_)
      · refine r_aload_n 0 dX10_hear_170 rfl rfl ?_
        refine r_iload_n 1 dX10_hear_171 rfl rfl ?_
        refine r_callVw [_] dX10_hear_172 ok_RX10_132 ivX10_look (by assumption) ⟨_, _, rfl⟩ rfl rfl (Nat.le_of_ble_eq_true rfl) (by refine ⟨?_, ?_, ?_, ?_⟩ <;> exact Nat.le_of_ble_eq_true rfl) (m_look hL hs hS2 hk2 (okKn_old _ hkn) hP2 hpk hn2) ?_
        intro mA ⟨uS, uF, uO⟩
        refine r_vret dX10_hear_175 rfl (Nat.le_of_ble_eq_true rfl) (Nat.le_of_ble_eq_true rfl) ?_
        refine ⟨rfl, rfl, rfl, rfl, uS, (hF1.tr (hF.lft (by omega))).tr (uF.lft (by omega)), ?_, fun x x1 x2 x3 => by rw [uO x x1 x2, ho x x1]; exact ho1 x x1 x2 x3⟩
        rw [uO _ (by omega) (by omega), ho _ (by omega)]; exact h91
      · exact absurd (by decide) h122
    | succ j ih =>
      intro m hkl hK hF ho
      obtain ⟨x, hx⟩ := gl_ex (l := st.2.2.2.1) (i := j) (by omega)
      have h16 := hkn.1
      have hxk := hkn.2.1 x (gl_mem hx)
      have hxa := oldK_at (now := now) (win := st.1.2.2.2.2.2) hx
      have hv := (hK.2 j x hxa).2.2
      have hn2 : m (o + 1) 1386 = nI now := by rw [hF.out (by omega)]; exact hn1
      have hwn : m (o + 1) (54 + s) = nI st.1.2.2.2.2.2 := by rw [hF.out (by omega)]; exact hS1.1.2.2.2.2.2
      have hol := oldK_len st.2.2.2.1 (j + 1) now st.1.2.2.2.2.2
      rw [pk_sub (by omega : 1 ≤ j + 1), Nat.add_sub_cancel]
      refine r_iload_n 3 dX10_hear_121 rfl rfl ?_
      refine r_ifN_lt 170 dX10_hear_122 (by decide) (by omega) ?_
      refine r_aload_n 0 dX10_hear_125 rfl rfl ?_
      refine r_getR dX10_hear_126 fl_RX10_7 rfl (by assumption) (by assumption) ?_
      refine r_sipush (v := nI 1386) dX10_hear_129 (by decide) ?_
      refine r_ialdV dX10_hear_132 (by assumption) (by omega) (by omega) (by first | assumption | exact up2_same _ _ _ _ | exact (Eq.trans (up2_ne _ _ (by omega)) (by first | assumption | exact up2_same _ _ _ _)) | exact (Eq.trans (up2_ne _ _ (by omega)) (Eq.trans (up2_ne _ _ (by omega)) (by first | assumption | exact up2_same _ _ _ _))) | exact (Eq.trans (up2_ne _ _ (by omega)) (Eq.trans (up2_ne _ _ (by omega)) (Eq.trans (up2_ne _ _ (by omega)) (by first | assumption | exact up2_same _ _ _ _)))) | exact (Eq.trans (up2_ne _ _ (by omega)) (Eq.trans (up2_ne _ _ (by omega)) (Eq.trans (up2_ne _ _ (by omega)) (Eq.trans (up2_ne _ _ (by omega)) (by first | assumption | exact up2_same _ _ _ _))))) | rfl) ?_
      refine r_aload_n 0 dX10_hear_133 rfl rfl ?_
      refine r_getR dX10_hear_134 fl_RX10_7 rfl (by assumption) (by assumption) ?_
      refine r_iload_n 1 dX10_hear_137 rfl rfl ?_
      refine r_iload_n 3 dX10_hear_138 rfl rfl ?_
      refine r_callSp [_, _] dX10_hear_139 ok_RX10_98 isX10_known rfl rfl (Nat.le_of_ble_eq_true rfl) (by refine ⟨?_, ?_, ?_, ?_⟩ <;> exact Nat.le_of_ble_eq_true rfl) (m_known) ?_
      refine r_iconst (v := nI 2) dX10_hear_142 (by decide) ?_
      refine r_iaddN dX10_hear_143 ?_
      refine r_ialdV dX10_hear_144 (by assumption) (by omega) (by omega) (by first | assumption | exact up2_same _ _ _ _ | exact (Eq.trans (up2_ne _ _ (by omega)) (by first | assumption | exact up2_same _ _ _ _)) | exact (Eq.trans (up2_ne _ _ (by omega)) (Eq.trans (up2_ne _ _ (by omega)) (by first | assumption | exact up2_same _ _ _ _))) | exact (Eq.trans (up2_ne _ _ (by omega)) (Eq.trans (up2_ne _ _ (by omega)) (Eq.trans (up2_ne _ _ (by omega)) (by first | assumption | exact up2_same _ _ _ _)))) | exact (Eq.trans (up2_ne _ _ (by omega)) (Eq.trans (up2_ne _ _ (by omega)) (Eq.trans (up2_ne _ _ (by omega)) (Eq.trans (up2_ne _ _ (by omega)) (by first | assumption | exact up2_same _ _ _ _))))) | rfl) ?_
      refine r_isubN dX10_hear_145 (by omega) ?_
      refine r_aload_n 0 dX10_hear_146 rfl rfl ?_
      refine r_getR dX10_hear_147 fl_RX10_7 rfl (by assumption) (by assumption) ?_
      refine r_bipush (v := nI 54) dX10_hear_150 (by decide) ?_
      refine r_iload_n 1 dX10_hear_152 rfl rfl ?_
      refine r_iaddN dX10_hear_153 ?_
      refine r_ialdV dX10_hear_154 (by assumption) (by omega) (by omega) (by first | assumption | exact up2_same _ _ _ _ | exact (Eq.trans (up2_ne _ _ (by omega)) (by first | assumption | exact up2_same _ _ _ _)) | exact (Eq.trans (up2_ne _ _ (by omega)) (Eq.trans (up2_ne _ _ (by omega)) (by first | assumption | exact up2_same _ _ _ _))) | exact (Eq.trans (up2_ne _ _ (by omega)) (Eq.trans (up2_ne _ _ (by omega)) (Eq.trans (up2_ne _ _ (by omega)) (by first | assumption | exact up2_same _ _ _ _)))) | exact (Eq.trans (up2_ne _ _ (by omega)) (Eq.trans (up2_ne _ _ (by omega)) (Eq.trans (up2_ne _ _ (by omega)) (Eq.trans (up2_ne _ _ (by omega)) (by first | assumption | exact up2_same _ _ _ _))))) | rfl) ?_
      refine r_icmpN_le 164 dX10_hear_155 (by decide) (by omega) (by omega) (fun h155 => ?_) (fun h155 => ?_)
      · refine r_iinc 3 (ls2 := [_, _, _, _]) dX10_hear_164 rfl rfl (by decide) rfl ?_
        refine r_goto 121 dX10_hear_167 (by decide) ?_
        rw [show nI j + Int32.ofInt (-1) = nI j - nI 1 by rw [Int32.sub_eq_add_neg]; rfl]
        first | exact ih m (by omega) (by rw [oldK_keep hx h155]; exact hK) hF ho | exact ih mA (by omega) (by rw [oldK_drop hx (by omega)]; exact uK) (hF.tr uF) (fun x hx => (uO x hx).trans (ho x hx))
      · refine r_aload_n 0 dX10_hear_158 rfl rfl ?_
        refine r_iload_n 1 dX10_hear_159 rfl rfl ?_
        refine r_iload_n 3 dX10_hear_160 rfl rfl ?_
        refine r_callVw [_, _] dX10_hear_161 ok_RX10_101 ivX10_unknow (by assumption) ⟨_, _, rfl⟩ rfl rfl (Nat.le_of_ble_eq_true rfl) (by refine ⟨?_, ?_, ?_, ?_⟩ <;> exact Nat.le_of_ble_eq_true rfl) (m_unknow hL hs hK (by omega) (gl_lt hxa)) ?_
        intro mA ⟨uK, uF, uO⟩
        refine r_iinc 3 (ls2 := [_, _, _, _]) dX10_hear_164 rfl rfl (by decide) rfl ?_
        refine r_goto 121 dX10_hear_167 (by decide) ?_
        rw [show nI j + Int32.ofInt (-1) = nI j - nI 1 by rw [Int32.sub_eq_add_neg]; rfl]
        first | exact ih m (by omega) (by rw [oldK_keep hx h155]; exact hK) hF ho | exact ih mA (by omega) (by rw [oldK_drop hx (by omega)]; exact uK) (hF.tr uF) (fun x hx => (uO x hx).trans (ho x hx))
  -- the packet is laid
  have K8 : ∀ (t i : Nat) (m : MI), i + t = 11 → (∀ y, m (o + 5) y = if y < i then mi (o + 6) (11 * q + y) else mi (o + 5) y) → (∀ y, m (o + 1) y = if 1314 + 11 * s ≤ y ∧ y < 1314 + 11 * s + i then mi (o + 6) (11 * q + (y - (1314 + 11 * s))) else up2 mi (o + 1) (96 + 6 * 1 + s) (nI (st.2.1 1 + 1)) (o + 1) y) → (∀ x, x ≠ o + 1 → x ≠ o + 5 → m x = mi x) → Wp yX10_hear cX10_hear 4 none (EI 4 z sh mr (HeP mi o s now (hears st p now))) 0 0 8 [.ref o, .int (nI s), .int (nI q), .int (nI i)] [] z sh m mr := by
    intro t
    induction t with
    | zero =>
      intro i m hi h5 h1 ho
      have hi : i = 11 := hi
      subst hi
      have hn1 : m (o + 1) 1386 = nI now := by rw [h1, if_neg (by omega), up2_ne _ _ (Or.inr (by omega))]; exact hnow
      have hn1' : ∀ v, up2 m (o + 1) (1380 + s) v (o + 1) 1386 = nI now := fun v => by rw [up2_ne _ _ (Or.inr (by omega))]; exact hn1
      have hn1a := hn1' (nI now)
      have h9 : ∀ v, up2 m (o + 1) (1380 + s) v (o + 9) s = mi (o + 9) s := fun v => by rw [up2_row _ _ (by omega), ho _ (by omega) (by omega)]
      have h9a := h9 (nI now)
      have hS0 : StM (up2 mi (o + 1) (96 + 6 * 1 + s) (nI (st.2.1 1 + 1)) (o + 1)) s (st.1, bump st.2.1 1, st.2.2) := hS.cnt hs (by omega) hk
      have hkn0 : m (o + 1) (1020 + s) = nI st.2.2.2.1.length := by rw [h1, if_neg (by omega)]; exact hS0.2.2.2.1.1
      have hfin : ∀ v : Int32, v = (if mi (o + 9) s < 0 then nI now else mi (o + 9) s) → Wp yX10_hear cX10_hear 4 none (EI 4 z sh mr (HeP mi o s now (hears st p now))) 0 0 108 [.ref o, .int (nI s), .int (nI q), .int (nI 11)] [] z sh (up2 (up2 m (o + 1) (1380 + s) (nI now)) (o + 9) s v) mr := by
        intro v hvv
        have e1 : ∀ y, up2 (up2 m (o + 1) (1380 + s) (nI now)) (o + 9) s v (o + 1) y = if y = 1380 + s then nI now else m (o + 1) y := fun y => by
          rw [up2_row _ _ (by omega)]
          by_cases e : y = 1380 + s
          · rw [if_pos e, e, up2_same]
          · rw [if_neg e, up2_ne _ _ (Or.inr e)]
        have hF2 : Fr s 1314 1386 (up2 mi (o + 1) (96 + 6 * 1 + s) (nI (st.2.1 1 + 1)) (o + 1)) (up2 (up2 m (o + 1) (1380 + s) (nI now)) (o + 9) s v (o + 1)) := fun i hi => by
          have c1 : i ≠ 1380 + s := fun e => hi (ow_ls hs (Or.inl e))
          have c2 : ¬ (1314 + 11 * s ≤ i ∧ i < 1325 + 11 * s) := fun e => hi (ow_ls hs (Or.inr e))
          rw [e1, if_neg c1, h1, if_neg (by omega)]
        have hP2 : PkM (up2 (up2 m (o + 1) (1380 + s) (nI now)) (o + 9) s v (o + 1)) (1314 + 11 * s) p := hp.move hpk.2.2.1 (fun j hj => by
          rw [e1, if_neg (by omega), h1, if_pos (by omega)]; congr 1; omega)
        have hS2 : StM (up2 (up2 m (o + 1) (1380 + s) (nI now)) (o + 9) s v (o + 1)) s (st.1, bump st.2.1 1, st.2.2.1, st.2.2.2.1, some (p, now)) := hS0.ls hs hk hF2 hP2 (by rw [e1, if_pos rfl])
        have hP5 : PkM (up2 (up2 m (o + 1) (1380 + s) (nI now)) (o + 9) s v (o + 5)) 0 p := hp.move hpk.2.2.1 (fun j hj => by
          rw [up2_row _ _ (by omega), up2_row _ _ (by omega), h5, if_pos (by omega), Nat.zero_add])
        have hkl : up2 (up2 m (o + 1) (1380 + s) (nI now)) (o + 9) s v (o + 1) (1020 + s) = nI st.2.2.2.1.length := by rw [e1, if_neg (by omega)]; exact hkn0
        refine r_aload_n 0 dX10_hear_108 rfl rfl ?_
        refine r_getR dX10_hear_109 fl_RX10_7 rfl (by assumption) (by assumption) ?_
        refine r_sipush (v := nI 1020) dX10_hear_112 (by decide) ?_
        refine r_iload_n 1 dX10_hear_115 rfl rfl ?_
        refine r_iaddN dX10_hear_116 ?_
        refine r_ialdV dX10_hear_117 (by assumption) (by omega) (by omega) (by first | assumption | exact up2_same _ _ _ _ | exact (Eq.trans (up2_ne _ _ (by omega)) (by first | assumption | exact up2_same _ _ _ _)) | exact (Eq.trans (up2_ne _ _ (by omega)) (Eq.trans (up2_ne _ _ (by omega)) (by first | assumption | exact up2_same _ _ _ _))) | exact (Eq.trans (up2_ne _ _ (by omega)) (Eq.trans (up2_ne _ _ (by omega)) (Eq.trans (up2_ne _ _ (by omega)) (by first | assumption | exact up2_same _ _ _ _)))) | exact (Eq.trans (up2_ne _ _ (by omega)) (Eq.trans (up2_ne _ _ (by omega)) (Eq.trans (up2_ne _ _ (by omega)) (Eq.trans (up2_ne _ _ (by omega)) (by first | assumption | exact up2_same _ _ _ _))))) | rfl) ?_
        refine r_iconst (v := nI 1) dX10_hear_118 (by decide) ?_
        refine r_isub dX10_hear_119 ?_
        refine r_istore_n 3 (ls2 := [_, _, _, _]) dX10_hear_120 rfl (by decide) (Nat.le_of_ble_eq_true rfl) rfl ?_
        refine K121 _ hS2 hP5 (Fr.tr (Fr.lft (Fr.cnt hs (by omega)) (by omega)) (hF2.lft (Nat.le_refl _))) ?_ (fun x x1 x2 x3 => by rw [up2_row _ _ x3, up2_row _ _ x1]; exact ho x x1 x2) _ _ (Nat.le_refl _) (by rw [oldK_n]; exact hS2.2.2.2.1) Fr.rf (fun _ _ => rfl)
        funext y
        by_cases e : y = s
        · subst e; rw [up2_same, up2_same, hvv]
        · rw [up2_ne _ _ (Or.inr e), up2_ne _ _ (Or.inr e), up2_row _ _ (by omega), ho _ (by omega) (by omega)]
      refine r_iload_n 3 dX10_hear_8 rfl rfl ?_
      refine r_bipush (v := nI 11) dX10_hear_9 (by decide) ?_
      refine r_icmpN_ge 58 dX10_hear_11 (by decide) (by omega) (by omega) (fun h11 => ?_) (fun h11 => ?_)
      · refine r_aload_n 0 dX10_hear_58 rfl rfl ?_
        refine r_getR dX10_hear_59 fl_RX10_7 rfl (by assumption) (by assumption) ?_
        refine r_sipush (v := nI 1380) dX10_hear_62 (by decide) ?_
        refine r_iload_n 1 dX10_hear_65 rfl rfl ?_
        refine r_iaddN dX10_hear_66 ?_
        refine r_aload_n 0 dX10_hear_67 rfl rfl ?_
        refine r_getR dX10_hear_68 fl_RX10_7 rfl (by assumption) (by assumption) ?_
        refine r_sipush (v := nI 1386) dX10_hear_71 (by decide) ?_
        refine r_ialdV dX10_hear_74 (by assumption) (by omega) (by omega) (by first | assumption | exact up2_same _ _ _ _ | exact (Eq.trans (up2_ne _ _ (by omega)) (by first | assumption | exact up2_same _ _ _ _)) | exact (Eq.trans (up2_ne _ _ (by omega)) (Eq.trans (up2_ne _ _ (by omega)) (by first | assumption | exact up2_same _ _ _ _))) | exact (Eq.trans (up2_ne _ _ (by omega)) (Eq.trans (up2_ne _ _ (by omega)) (Eq.trans (up2_ne _ _ (by omega)) (by first | assumption | exact up2_same _ _ _ _)))) | exact (Eq.trans (up2_ne _ _ (by omega)) (Eq.trans (up2_ne _ _ (by omega)) (Eq.trans (up2_ne _ _ (by omega)) (Eq.trans (up2_ne _ _ (by omega)) (by first | assumption | exact up2_same _ _ _ _))))) | rfl) ?_
        refine r_iast dX10_hear_75 (by assumption) (by omega) (by omega) ?_
        refine r_aload_n 0 dX10_hear_76 rfl rfl ?_
        refine r_getR dX10_hear_77 fl_RX10_35 rfl (by assumption) (by assumption) ?_
        refine r_iload_n 1 dX10_hear_80 rfl rfl ?_
        refine r_aload_n 0 dX10_hear_81 rfl rfl ?_
        refine r_getR dX10_hear_82 fl_RX10_35 rfl (by assumption) (by assumption) ?_
        refine r_iload_n 1 dX10_hear_85 rfl rfl ?_
        refine r_ialdV dX10_hear_86 (by assumption) (by omega) (by omega) (by first | assumption | exact up2_same _ _ _ _ | exact (Eq.trans (up2_ne _ _ (by omega)) (by first | assumption | exact up2_same _ _ _ _)) | exact (Eq.trans (up2_ne _ _ (by omega)) (Eq.trans (up2_ne _ _ (by omega)) (by first | assumption | exact up2_same _ _ _ _))) | exact (Eq.trans (up2_ne _ _ (by omega)) (Eq.trans (up2_ne _ _ (by omega)) (Eq.trans (up2_ne _ _ (by omega)) (by first | assumption | exact up2_same _ _ _ _)))) | exact (Eq.trans (up2_ne _ _ (by omega)) (Eq.trans (up2_ne _ _ (by omega)) (Eq.trans (up2_ne _ _ (by omega)) (Eq.trans (up2_ne _ _ (by omega)) (by first | assumption | exact up2_same _ _ _ _))))) | rfl) ?_
        refine r_if_ge 101 dX10_hear_87 (by decide) (fun h87 => ?_) (fun h87 => ?_)
        · refine r_aload_n 0 dX10_hear_101 rfl rfl ?_
          refine r_getR dX10_hear_102 fl_RX10_35 rfl (by assumption) (by assumption) ?_
          refine r_iload_n 1 dX10_hear_105 rfl rfl ?_
          refine r_ialdV dX10_hear_106 (by assumption) (by omega) (by omega) (by first | assumption | exact up2_same _ _ _ _ | exact (Eq.trans (up2_ne _ _ (by omega)) (by first | assumption | exact up2_same _ _ _ _)) | exact (Eq.trans (up2_ne _ _ (by omega)) (Eq.trans (up2_ne _ _ (by omega)) (by first | assumption | exact up2_same _ _ _ _))) | exact (Eq.trans (up2_ne _ _ (by omega)) (Eq.trans (up2_ne _ _ (by omega)) (Eq.trans (up2_ne _ _ (by omega)) (by first | assumption | exact up2_same _ _ _ _)))) | exact (Eq.trans (up2_ne _ _ (by omega)) (Eq.trans (up2_ne _ _ (by omega)) (Eq.trans (up2_ne _ _ (by omega)) (Eq.trans (up2_ne _ _ (by omega)) (by first | assumption | exact up2_same _ _ _ _))))) | rfl) ?_
          refine r_iast dX10_hear_107 (by assumption) (by omega) (by omega) ?_
          first | exact hfin _ (by rw [if_neg h87]) | exact hfin _ (by rw [if_neg (Int32.not_lt.mpr h87)]) | exact hfin _ (by rw [if_pos h87]) | exact hfin _ (by rw [if_pos (Int32.not_le.mp h87)])
        · refine r_aload_n 0 dX10_hear_90 rfl rfl ?_
          refine r_getR dX10_hear_91 fl_RX10_7 rfl (by assumption) (by assumption) ?_
          refine r_sipush (v := nI 1386) dX10_hear_94 (by decide) ?_
          refine r_ialdV dX10_hear_97 (by assumption) (by omega) (by omega) (by first | assumption | exact up2_same _ _ _ _ | exact (Eq.trans (up2_ne _ _ (by omega)) (by first | assumption | exact up2_same _ _ _ _)) | exact (Eq.trans (up2_ne _ _ (by omega)) (Eq.trans (up2_ne _ _ (by omega)) (by first | assumption | exact up2_same _ _ _ _))) | exact (Eq.trans (up2_ne _ _ (by omega)) (Eq.trans (up2_ne _ _ (by omega)) (Eq.trans (up2_ne _ _ (by omega)) (by first | assumption | exact up2_same _ _ _ _)))) | exact (Eq.trans (up2_ne _ _ (by omega)) (Eq.trans (up2_ne _ _ (by omega)) (Eq.trans (up2_ne _ _ (by omega)) (Eq.trans (up2_ne _ _ (by omega)) (by first | assumption | exact up2_same _ _ _ _))))) | rfl) ?_
          refine r_goto 107 dX10_hear_98 (by decide) ?_
          refine r_iast dX10_hear_107 (by assumption) (by omega) (by omega) ?_
          first | exact hfin _ (by rw [if_neg h87]) | exact hfin _ (by rw [if_neg (Int32.not_lt.mpr h87)]) | exact hfin _ (by rw [if_pos h87]) | exact hfin _ (by rw [if_pos (Int32.not_le.mp h87)])
      · omega
    | succ t ih =>
      intro i m hi h5 h1 ho
      have h6 : m (o + 6) (11 * q + i) = mi (o + 6) (11 * q + i) := by rw [ho _ (by omega) (by omega)]
      refine r_iload_n 3 dX10_hear_8 rfl rfl ?_
      refine r_bipush (v := nI 11) dX10_hear_9 (by decide) ?_
      refine r_icmpN_ge 58 dX10_hear_11 (by decide) (by omega) (by omega) (fun h11 => ?_) (fun h11 => ?_)
      · omega
      · refine r_aload_n 0 dX10_hear_14 rfl rfl ?_
        refine r_getR dX10_hear_15 fl_RX10_23 rfl (by assumption) (by assumption) ?_
        refine r_iload_n 3 dX10_hear_18 rfl rfl ?_
        refine r_aload_n 0 dX10_hear_19 rfl rfl ?_
        refine r_getR dX10_hear_20 fl_RX10_26 rfl (by assumption) (by assumption) ?_
        refine r_bipush (v := nI 11) dX10_hear_23 (by decide) ?_
        refine r_iload_n 2 dX10_hear_25 rfl rfl ?_
        refine r_imulN dX10_hear_26 ?_
        refine r_iload_n 3 dX10_hear_27 rfl rfl ?_
        refine r_iaddN dX10_hear_28 ?_
        refine r_ialdV dX10_hear_29 (by assumption) (by omega) (by omega) (by first | assumption | exact up2_same _ _ _ _ | exact (Eq.trans (up2_ne _ _ (by omega)) (by first | assumption | exact up2_same _ _ _ _)) | exact (Eq.trans (up2_ne _ _ (by omega)) (Eq.trans (up2_ne _ _ (by omega)) (by first | assumption | exact up2_same _ _ _ _))) | exact (Eq.trans (up2_ne _ _ (by omega)) (Eq.trans (up2_ne _ _ (by omega)) (Eq.trans (up2_ne _ _ (by omega)) (by first | assumption | exact up2_same _ _ _ _)))) | exact (Eq.trans (up2_ne _ _ (by omega)) (Eq.trans (up2_ne _ _ (by omega)) (Eq.trans (up2_ne _ _ (by omega)) (Eq.trans (up2_ne _ _ (by omega)) (by first | assumption | exact up2_same _ _ _ _))))) | rfl) ?_
        refine r_iast dX10_hear_30 (by assumption) (by omega) (by omega) ?_
        refine r_aload_n 0 dX10_hear_31 rfl rfl ?_
        refine r_getR dX10_hear_32 fl_RX10_7 rfl (by assumption) (by assumption) ?_
        refine r_sipush (v := nI 1314) dX10_hear_35 (by decide) ?_
        refine r_bipush (v := nI 11) dX10_hear_38 (by decide) ?_
        refine r_iload_n 1 dX10_hear_40 rfl rfl ?_
        refine r_imulN dX10_hear_41 ?_
        refine r_iaddN dX10_hear_42 ?_
        refine r_iload_n 3 dX10_hear_43 rfl rfl ?_
        refine r_iaddN dX10_hear_44 ?_
        refine r_aload_n 0 dX10_hear_45 rfl rfl ?_
        refine r_getR dX10_hear_46 fl_RX10_23 rfl (by assumption) (by assumption) ?_
        refine r_iload_n 3 dX10_hear_49 rfl rfl ?_
        refine r_ialdV dX10_hear_50 (by assumption) (by omega) (by omega) (by first | assumption | exact up2_same _ _ _ _ | exact (Eq.trans (up2_ne _ _ (by omega)) (by first | assumption | exact up2_same _ _ _ _)) | exact (Eq.trans (up2_ne _ _ (by omega)) (Eq.trans (up2_ne _ _ (by omega)) (by first | assumption | exact up2_same _ _ _ _))) | exact (Eq.trans (up2_ne _ _ (by omega)) (Eq.trans (up2_ne _ _ (by omega)) (Eq.trans (up2_ne _ _ (by omega)) (by first | assumption | exact up2_same _ _ _ _)))) | exact (Eq.trans (up2_ne _ _ (by omega)) (Eq.trans (up2_ne _ _ (by omega)) (Eq.trans (up2_ne _ _ (by omega)) (Eq.trans (up2_ne _ _ (by omega)) (by first | assumption | exact up2_same _ _ _ _))))) | rfl) ?_
        refine r_iast dX10_hear_51 (by assumption) (by omega) (by omega) ?_
        refine r_iincN 3 (b := 1) (ls2 := [_, _, _, _]) dX10_hear_52 rfl (by decide) (by decide) rfl ?_
        refine r_goto 8 dX10_hear_55 (by decide) ?_
        refine ih (i + 1) _ (by omega) (fun y => ?_) (fun y => ?_) (fun x x1 x2 => by rw [up2_row _ _ x1, up2_row _ _ x2]; exact ho x x1 x2)
        · rw [up2_row _ _ (by omega)]
          by_cases e : y = i
          · subst e; rw [up2_same, if_pos (by omega)]
          · rw [up2_ne _ _ (Or.inr e), h5]
            by_cases c : y < i
            · rw [if_pos c, if_pos (by omega)]
            · rw [if_neg c, if_neg (by omega)]
        · by_cases e : y = 1314 + 11 * s + i
          · subst e; rw [up2_same, if_pos (by omega)]; congr 1; omega
          · rw [up2_ne _ _ (Or.inr e), up2_row _ _ (by omega), h1]
            by_cases c : 1314 + 11 * s ≤ y ∧ y < 1314 + 11 * s + i
            · rw [if_pos c, if_pos (by omega)]
            · rw [if_neg c, if_neg (by omega)]
  have hv1 := hS.2.1 1 (by omega)
  refine Mv.of pnX10_hear (Nat.le_of_ble_eq_true rfl) rfl ?_
  refine r_aload_n 0 dX10_hear_0 rfl rfl ?_
  refine r_iconst (v := nI 1) dX10_hear_1 (by decide) ?_
  refine r_iload_n 1 dX10_hear_2 rfl rfl ?_
  refine r_callVw [_, _] dX10_hear_3 ok_RX10_119 ivX10_count (by assumption) ⟨_, _, rfl⟩ rfl rfl (Nat.le_of_ble_eq_true rfl) (by refine ⟨?_, ?_, ?_, ?_⟩ <;> exact Nat.le_of_ble_eq_true rfl) (m_cnt hL (w := 1) (by omega) hs hv1) ?_
  intro mA uA
  subst uA
  refine r_iconst (v := nI 0) dX10_hear_6 (by decide) ?_
  refine r_istore_n 3 (ls2 := [_, _, _, _]) dX10_hear_7 rfl (by decide) (Nat.le_of_ble_eq_true rfl) rfl ?_
  exact K8 11 0 _ rfl (fun y => by rw [if_neg (by omega), up2_row _ _ (by omega)]) (fun y => by rw [if_neg (by omega)]) (fun x x1 _ => up2_row _ _ x1)
end RHEAR
