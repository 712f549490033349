section RKN
variable {z : Nat} {sh : SH} {mi : MI} {mr : MR} {o : Nat}
/-- a row whose places lo to e have moved down by d -/
def shf (g : Rw) (lo e d : Nat) : Rw := fun q => if lo ≤ q ∧ q < e then g (q + d) else g q
theorem shf_0 {g : Rw} {lo d : Nat} : shf g lo lo d = g := by
  funext q; unfold shf; rw [if_neg (by omega)]
theorem shf_hi {g : Rw} {lo e d q : Nat} (h : e ≤ q) : shf g lo e d q = g q := by unfold shf; rw [if_neg (by omega)]
theorem shf_lo {g : Rw} {lo e d q : Nat} (h : q < lo) : shf g lo e d q = g q := by unfold shf; rw [if_neg (by omega)]
theorem shf_in {g : Rw} {lo e d q : Nat} (h1 : lo ≤ q) (h2 : q < e) : shf g lo e d q = g (q + d) := by unfold shf; rw [if_pos ⟨h1, h2⟩]
theorem shf_up {m : MI} {a lo e d : Nat} {g : Rw} (h : m a = shf g lo e d) (hl : lo ≤ e) : up2 m a e (g (e + d)) a = shf g lo (e + 1) d := by
  funext q
  by_cases hq : q = e
  · subst hq; rw [up2_same, shf_in hl (by omega)]
  · rw [up2_ne _ _ (Or.inr hq), h]
    unfold shf
    by_cases h2 : lo ≤ q ∧ q < e
    · rw [if_pos h2, if_pos (by omega)]
    · rw [if_neg h2, if_neg (by omega)]
theorem m_keepNo (hL : LM sh mr o) {s : Nat} {due : Int32} (hs : s < 6) {l : Kp} (hK : KpM (mi (o + 1)) s l) (hl : l.length = 12) : Mp mX10_keep 1 [.ref o, .int (nI s), .int due] z sh mi mr (nI 0) := by
  obtain ⟨l0, ⟨l1, l2⟩, -⟩ := id hL
  have h1 := hK.1
  refine Mv.of pnX10_keep (Nat.le_of_ble_eq_true rfl) rfl ?_
  refine r_aload_n 0 dX10_keep_0 rfl rfl ?_
  refine r_getR dX10_keep_1 fl_RX10_7 rfl (by assumption) (by assumption) ?_
  refine r_sipush (v := nI 150) dX10_keep_4 (by decide) ?_
  refine r_iload_n 1 dX10_keep_7 rfl rfl ?_
  refine r_iaddN dX10_keep_8 ?_
  refine r_ialdV dX10_keep_9 (by assumption) (by omega) (by omega) (by first | assumption | exact up2_same _ _ _ _ | exact (Eq.trans (up2_ne _ _ (by omega)) (by first | assumption | exact up2_same _ _ _ _)) | exact (Eq.trans (up2_ne _ _ (by omega)) (Eq.trans (up2_ne _ _ (by omega)) (by first | assumption | exact up2_same _ _ _ _))) | exact (Eq.trans (up2_ne _ _ (by omega)) (Eq.trans (up2_ne _ _ (by omega)) (Eq.trans (up2_ne _ _ (by omega)) (by first | assumption | exact up2_same _ _ _ _)))) | exact (Eq.trans (up2_ne _ _ (by omega)) (Eq.trans (up2_ne _ _ (by omega)) (Eq.trans (up2_ne _ _ (by omega)) (Eq.trans (up2_ne _ _ (by omega)) (by first | assumption | exact up2_same _ _ _ _))))) | rfl) ?_
  refine r_istore_n 3 (ls2 := [_, _, _, _]) dX10_keep_10 rfl (by decide) (Nat.le_of_ble_eq_true rfl) rfl ?_
  refine r_iload_n 3 dX10_keep_11 rfl rfl ?_
  refine r_bipush (v := nI 12) dX10_keep_12 (by decide) ?_
  refine r_icmpN_ne 19 dX10_keep_14 (by decide) (by omega) (by omega) (fun h14 => ?_) (fun h14 => ?_)
  · omega
  · refine r_iconst (v := nI 0) dX10_keep_17 (by decide) ?_
    refine r_zret dX10_keep_18 rfl (by first | exact b2_nar _ | decide) (Nat.le_of_ble_eq_true rfl) (Nat.le_of_ble_eq_true rfl) ?_
    exact ⟨rfl, rfl, rfl, rfl, rfl⟩
theorem m_keepOk (hL : LM sh mr o) {s due : Nat} (hs : s < 6) {l : Kp} (hK : KpM (mi (o + 1)) s l) (hl : l.length < 12) (hw : ∀ q ∈ l, q.1.2.2.length ≤ 8) {p : Pk} (hp : PkM (mi (o + 5)) 0 p) (hp8 : p.2.2.length ≤ 8) : Mi mX10_keep 1 [.ref o, .int (nI s), .int (nI due)] z sh mi mr (fun v m => v = some (.int (nI 1)) ∧ KpM (m (o + 1)) s (l ++ [(p, due)]) ∧ Fr s 150 1020 (mi (o + 1)) (m (o + 1)) ∧ ∀ x, x ≠ o + 1 → m x = mi x) := by
  obtain ⟨l0, ⟨l1, l2⟩, -, -, -, ⟨l9, l10⟩, -⟩ := id hL
  have h1 := hK.1
  have hfin : ∀ m : MI, (∀ x, x ≠ o + 1 → m x = mi x) → (∀ q, m (o + 1) q = if 156 + 12 * (12 * s + l.length) ≤ q ∧ q < 156 + 12 * (12 * s + l.length) + 11 then mi (o + 5) (q - (156 + 12 * (12 * s + l.length))) else mi (o + 1) q) → KpM (up2 (up2 m (o + 1) (156 + 12 * (12 * s + l.length) + 11) (nI due)) (o + 1) (150 + s) (nI (l.length + 1)) (o + 1)) s (l ++ [(p, due)]) ∧ Fr s 150 1020 (mi (o + 1)) (up2 (up2 m (o + 1) (156 + 12 * (12 * s + l.length) + 11) (nI due)) (o + 1) (150 + s) (nI (l.length + 1)) (o + 1)) := by
    intro m ho hm
    have hq : ∀ q, q ≠ 150 + s → q ≠ 156 + 12 * (12 * s + l.length) + 11 → up2 (up2 m (o + 1) (156 + 12 * (12 * s + l.length) + 11) (nI due)) (o + 1) (150 + s) (nI (l.length + 1)) (o + 1) q = m (o + 1) q := fun q q1 q2 => by rw [up2_ne _ _ (Or.inr q1), up2_ne _ _ (Or.inr q2)]
    refine ⟨⟨by rw [up2_same, List.length_append]; rfl, fun i q hi => ?_⟩, fun i hi => ?_⟩
    · by_cases e : i = l.length
      · subst e
        rw [List.getElem?_append_right (Nat.le_refl _), Nat.sub_self] at hi
        cases hi
        refine ⟨hp.move hp8 (fun j hj => ?_), by rw [up2_ne _ _ (Or.inr (by omega)), up2_same]⟩
        rw [hq _ (by omega) (by omega), hm, if_pos (by omega)]
        congr 1; omega
      · have hil := gl_lt hi
        simp at hil
        rw [List.getElem?_append_left (by omega)] at hi
        obtain ⟨k1, k2⟩ := hK.2 i q hi
        refine ⟨k1.keep (hw q (gl_mem hi)) (fun j j1 j2 => ?_), ?_⟩
        · rw [hq _ (by omega) (by omega), hm, if_neg (by omega)]
        · rw [hq _ (by omega) (by omega), hm, if_neg (by omega)]; exact k2
    · have e1 : i ≠ 150 + s := fun e => hi (ow_kp hs (Or.inl e))
      have e2 : ¬ (156 + 144 * s ≤ i ∧ i < 300 + 144 * s) := fun e => hi (ow_kp hs (Or.inr e))
      rw [hq i e1 (by omega), hm, if_neg (by omega)]
  have H : ∀ (t i : Nat) (m : MI), i + t = 11 → (∀ x, x ≠ o + 1 → m x = mi x) → (∀ q, m (o + 1) q = if 156 + 12 * (12 * s + l.length) ≤ q ∧ q < 156 + 12 * (12 * s + l.length) + i then mi (o + 5) (q - (156 + 12 * (12 * s + l.length))) else mi (o + 1) q) → Wp yX10_keep cX10_keep 5 (some .boolean) (EI 1 z sh mr (fun v m => v = some (.int (nI 1)) ∧ KpM (m (o + 1)) s (l ++ [(p, due)]) ∧ Fr s 150 1020 (mi (o + 1)) (m (o + 1)) ∧ ∀ x, x ≠ o + 1 → m x = mi x)) 0 0 22 [.ref o, .int (nI s), .int (nI due), .int (nI l.length), .int (nI i)] [] z sh m mr := by
    intro t
    induction t with
    | zero =>
      intro i m hi ho hm
      have hi : i = 11 := hi
      subst hi
      obtain ⟨f1, f2⟩ := hfin m ho hm
      have hv : m (o + 1) (150 + s) = nI l.length := by rw [hm, if_neg (by omega)]; exact h1
      refine r_iload 4 dX10_keep_22 rfl ?_
      refine r_bipush (v := nI 11) dX10_keep_24 (by decide) ?_
      refine r_icmpN_ge 55 dX10_keep_26 (by decide) (by omega) (by omega) (fun h26 => ?_) (fun h26 => ?_)
      · refine r_aload_n 0 dX10_keep_55 rfl rfl ?_
        refine r_getR dX10_keep_56 fl_RX10_7 rfl (by assumption) (by assumption) ?_
        refine r_iload_n 1 dX10_keep_59 rfl rfl ?_
        refine r_iload_n 3 dX10_keep_60 rfl rfl ?_
        refine r_callSp [_, _] dX10_keep_61 ok_RX10_95 isX10_slot rfl rfl (Nat.le_of_ble_eq_true rfl) (by refine ⟨?_, ?_, ?_, ?_⟩ <;> exact Nat.le_of_ble_eq_true rfl) (m_slot) ?_
        refine r_bipush (v := nI 11) dX10_keep_64 (by decide) ?_
        refine r_iaddN dX10_keep_66 ?_
        refine r_iload_n 2 dX10_keep_67 rfl rfl ?_
        refine r_iast dX10_keep_68 (by assumption) (by omega) (by omega) ?_
        refine r_aload_n 0 dX10_keep_69 rfl rfl ?_
        refine r_getR dX10_keep_70 fl_RX10_7 rfl (by assumption) (by assumption) ?_
        refine r_sipush (v := nI 150) dX10_keep_73 (by decide) ?_
        refine r_iload_n 1 dX10_keep_76 rfl rfl ?_
        refine r_iaddN dX10_keep_77 ?_
        refine r_dup2 dX10_keep_78 rfl rfl ?_
        refine r_ialdV dX10_keep_79 (by assumption) (by omega) (by omega) (by first | assumption | exact up2_same _ _ _ _ | exact (Eq.trans (up2_ne _ _ (by omega)) (by first | assumption | exact up2_same _ _ _ _)) | exact (Eq.trans (up2_ne _ _ (by omega)) (Eq.trans (up2_ne _ _ (by omega)) (by first | assumption | exact up2_same _ _ _ _))) | exact (Eq.trans (up2_ne _ _ (by omega)) (Eq.trans (up2_ne _ _ (by omega)) (Eq.trans (up2_ne _ _ (by omega)) (by first | assumption | exact up2_same _ _ _ _)))) | exact (Eq.trans (up2_ne _ _ (by omega)) (Eq.trans (up2_ne _ _ (by omega)) (Eq.trans (up2_ne _ _ (by omega)) (Eq.trans (up2_ne _ _ (by omega)) (by first | assumption | exact up2_same _ _ _ _))))) | rfl) ?_
        refine r_iconst (v := nI 1) dX10_keep_80 (by decide) ?_
        refine r_iaddN dX10_keep_81 ?_
        refine r_iast dX10_keep_82 (by assumption) (by omega) (by omega) ?_
        refine r_iconst (v := nI 1) dX10_keep_83 (by decide) ?_
        refine r_zret dX10_keep_84 rfl (by first | exact b2_nar _ | decide) (Nat.le_of_ble_eq_true rfl) (Nat.le_of_ble_eq_true rfl) ?_
        exact ⟨rfl, rfl, rfl, rfl, f1, f2, fun x hx => by rw [up2_row _ _ hx, up2_row _ _ hx]; exact ho x hx⟩
      · omega
    | succ t ih =>
      intro i m hi ho hm
      have hv : m (o + 5) i = mi (o + 5) i := by rw [ho _ (by omega)]
      refine r_iload 4 dX10_keep_22 rfl ?_
      refine r_bipush (v := nI 11) dX10_keep_24 (by decide) ?_
      refine r_icmpN_ge 55 dX10_keep_26 (by decide) (by omega) (by omega) (fun h26 => ?_) (fun h26 => ?_)
      · omega
      · refine r_aload_n 0 dX10_keep_29 rfl rfl ?_
        refine r_getR dX10_keep_30 fl_RX10_7 rfl (by assumption) (by assumption) ?_
        refine r_iload_n 1 dX10_keep_33 rfl rfl ?_
        refine r_iload_n 3 dX10_keep_34 rfl rfl ?_
        refine r_callSp [_, _] dX10_keep_35 ok_RX10_95 isX10_slot rfl rfl (Nat.le_of_ble_eq_true rfl) (by refine ⟨?_, ?_, ?_, ?_⟩ <;> exact Nat.le_of_ble_eq_true rfl) (m_slot) ?_
        refine r_iload 4 dX10_keep_38 rfl ?_
        refine r_iaddN dX10_keep_40 ?_
        refine r_aload_n 0 dX10_keep_41 rfl rfl ?_
        refine r_getR dX10_keep_42 fl_RX10_23 rfl (by assumption) (by assumption) ?_
        refine r_iload 4 dX10_keep_45 rfl ?_
        refine r_ialdV dX10_keep_47 (by assumption) (by omega) (by omega) (by first | assumption | exact up2_same _ _ _ _ | exact (Eq.trans (up2_ne _ _ (by omega)) (by first | assumption | exact up2_same _ _ _ _)) | exact (Eq.trans (up2_ne _ _ (by omega)) (Eq.trans (up2_ne _ _ (by omega)) (by first | assumption | exact up2_same _ _ _ _))) | exact (Eq.trans (up2_ne _ _ (by omega)) (Eq.trans (up2_ne _ _ (by omega)) (Eq.trans (up2_ne _ _ (by omega)) (by first | assumption | exact up2_same _ _ _ _)))) | exact (Eq.trans (up2_ne _ _ (by omega)) (Eq.trans (up2_ne _ _ (by omega)) (Eq.trans (up2_ne _ _ (by omega)) (Eq.trans (up2_ne _ _ (by omega)) (by first | assumption | exact up2_same _ _ _ _))))) | rfl) ?_
        refine r_iast dX10_keep_48 (by assumption) (by omega) (by omega) ?_
        refine r_iincN 4 (b := 1) (ls2 := [_, _, _, _, _]) dX10_keep_49 rfl (by decide) (by decide) rfl ?_
        refine r_goto 22 dX10_keep_52 (by decide) ?_
        refine ih (i + 1) _ (by omega) (fun x hx => by rw [up2_row _ _ hx]; exact ho x hx) (fun q => ?_)
        by_cases e : q = 156 + 12 * (12 * s + l.length) + i
        · subst e
          rw [up2_same, if_pos (by omega)]
          congr 1; omega
        · rw [up2_ne _ _ (Or.inr e), hm]
          by_cases h2 : 156 + 12 * (12 * s + l.length) ≤ q ∧ q < 156 + 12 * (12 * s + l.length) + i
          · rw [if_pos h2, if_pos (by omega)]
          · rw [if_neg h2, if_neg (by omega)]
  refine Mv.of pnX10_keep (Nat.le_of_ble_eq_true rfl) rfl ?_
  refine r_aload_n 0 dX10_keep_0 rfl rfl ?_
  refine r_getR dX10_keep_1 fl_RX10_7 rfl (by assumption) (by assumption) ?_
  refine r_sipush (v := nI 150) dX10_keep_4 (by decide) ?_
  refine r_iload_n 1 dX10_keep_7 rfl rfl ?_
  refine r_iaddN dX10_keep_8 ?_
  refine r_ialdV dX10_keep_9 (by assumption) (by omega) (by omega) (by first | assumption | exact up2_same _ _ _ _ | exact (Eq.trans (up2_ne _ _ (by omega)) (by first | assumption | exact up2_same _ _ _ _)) | exact (Eq.trans (up2_ne _ _ (by omega)) (Eq.trans (up2_ne _ _ (by omega)) (by first | assumption | exact up2_same _ _ _ _))) | exact (Eq.trans (up2_ne _ _ (by omega)) (Eq.trans (up2_ne _ _ (by omega)) (Eq.trans (up2_ne _ _ (by omega)) (by first | assumption | exact up2_same _ _ _ _)))) | exact (Eq.trans (up2_ne _ _ (by omega)) (Eq.trans (up2_ne _ _ (by omega)) (Eq.trans (up2_ne _ _ (by omega)) (Eq.trans (up2_ne _ _ (by omega)) (by first | assumption | exact up2_same _ _ _ _))))) | rfl) ?_
  refine r_istore_n 3 (ls2 := [_, _, _, _]) dX10_keep_10 rfl (by decide) (Nat.le_of_ble_eq_true rfl) rfl ?_
  refine r_iload_n 3 dX10_keep_11 rfl rfl ?_
  refine r_bipush (v := nI 12) dX10_keep_12 (by decide) ?_
  refine r_icmpN_ne 19 dX10_keep_14 (by decide) (by omega) (by omega) (fun h14 => ?_) (fun h14 => ?_)
  · refine r_iconst (v := nI 0) dX10_keep_19 (by decide) ?_
    refine r_istore 4 (ls2 := [_, _, _, _, _]) dX10_keep_20 (by decide) (Nat.le_of_ble_eq_true rfl) rfl ?_
    exact H 11 0 mi rfl (fun _ _ => rfl) (fun q => by rw [if_neg (by omega)])
  · omega
theorem kn_uni {l : Kn} {now : Nat} (h : okKn l now) {p : Pk} {i : Nat} {q : Nm × Nm × Nat} (hq : l[i]? = some q) : (q.1 = p.1 ∧ q.2.1 = p.2.1) ↔ i = knIx l p := by
  constructor
  · intro hm
    refine (fi_at (p := fun q => q.1 == p.1 && q.2.1 == p.2.1) hq (by simp [hm.1, hm.2]) (fun j y hj hy => ?_)).symm
    obtain ⟨g1, g2⟩ := List.getElem?_eq_some_iff.mp hq
    obtain ⟨f1, f2⟩ := List.getElem?_eq_some_iff.mp hy
    have pw := List.pairwise_iff_getElem.mp h.2.2 j i f1 g1 hj
    rw [f2, g2] at pw
    cases hc : (y.1 == p.1 && y.2.1 == p.2.1) with
    | false => rfl
    | true =>
      simp at hc
      exact absurd ⟨hc.1.trans hm.1.symm, hc.2.trans hm.2.symm⟩ pw
  · intro e
    have hl := gl_lt hq
    obtain ⟨x, hx, hx2⟩ := fi_lt (l := l) (p := fun q => q.1 == p.1 && q.2.1 == p.2.1) (by show knIx l p < _; omega)
    have hx : l[knIx l p]? = some x := hx
    rw [← e, hq] at hx
    cases hx
    simpa using hx2
theorem m_place (hL : LM sh mr o) {s now : Nat} (hs : s < 6) {l : Kn} (hK : KnM (mi (o + 1)) s l) (hok : okKn l now) {p : Pk} (hp1 : okL 3 p.1) (hp2 : okL 4 p.2.1) : Mp mX10_placeKnown 1 [.ref o, .int (nI s), .int (nI (en 27 p.1)), .int (nI (en 27 p.2.1))] z sh mi mr (if knIx l p < l.length then nI (knIx l p) else -6) := by
  obtain ⟨l0, ⟨l1, l2⟩, -⟩ := id hL
  have h1 := hK.1
  have h16 := hok.1
  have e1 := okL_27 hp1
  have e2 := okT_27 hp2
  have H : ∀ t i : Nat, i + t = l.length → Wp yX10_placeKnown cX10_placeKnown 6 (some .int) (EP 1 z sh mr mi (if knIx l p < l.length then nI (knIx l p) else -6)) 0 0 7 [.ref o, .int (nI s), .int (nI (en 27 p.1)), .int (nI (en 27 p.2.1)), .int (if knIx l p < i then nI (knIx l p) else -6), .int (nI i)] [] z sh mi mr := by
    intro t
    induction t with
    | zero =>
      intro i hi
      have hi : i = l.length := hi
      subst hi
      refine r_iload 5 dX10_placeKnown_7 rfl ?_
      refine r_aload_n 0 dX10_placeKnown_9 rfl rfl ?_
      refine r_getR dX10_placeKnown_10 fl_RX10_7 rfl (by assumption) (by assumption) ?_
      refine r_sipush (v := nI 1020) dX10_placeKnown_13 (by decide) ?_
      refine r_iload_n 1 dX10_placeKnown_16 rfl rfl ?_
      refine r_iaddN dX10_placeKnown_17 ?_
      refine r_ialdV dX10_placeKnown_18 (by assumption) (by omega) (by omega) (by first | assumption | exact up2_same _ _ _ _ | exact (Eq.trans (up2_ne _ _ (by omega)) (by first | assumption | exact up2_same _ _ _ _)) | exact (Eq.trans (up2_ne _ _ (by omega)) (Eq.trans (up2_ne _ _ (by omega)) (by first | assumption | exact up2_same _ _ _ _))) | exact (Eq.trans (up2_ne _ _ (by omega)) (Eq.trans (up2_ne _ _ (by omega)) (Eq.trans (up2_ne _ _ (by omega)) (by first | assumption | exact up2_same _ _ _ _)))) | exact (Eq.trans (up2_ne _ _ (by omega)) (Eq.trans (up2_ne _ _ (by omega)) (Eq.trans (up2_ne _ _ (by omega)) (Eq.trans (up2_ne _ _ (by omega)) (by first | assumption | exact up2_same _ _ _ _))))) | rfl) ?_
      refine r_icmpN_ge 69 dX10_placeKnown_19 (by decide) (by omega) (by omega) (fun h19 => ?_) (fun h19 => ?_)
      · refine r_iload 4 dX10_placeKnown_69 rfl ?_
        refine r_iret dX10_placeKnown_71 rfl (Nat.le_of_ble_eq_true rfl) (Nat.le_of_ble_eq_true rfl) ?_
        exact ⟨rfl, rfl, rfl, rfl, rfl⟩
      · omega
    | succ t ih =>
      intro i hi
      obtain ⟨q, hq⟩ := gl_ex (l := l) (i := i) (by omega)
      obtain ⟨q1, q2, q3⟩ := hK.2 i q hq
      obtain ⟨k1, k2, k3⟩ := hok.2.1 q (gl_mem hq)
      have f1 := okL_27 k1
      have f2 := okT_27 k2
      have hu := kn_uni (p := p) hok hq
      have hy : q.1 = p.1 → q.2.1 = p.2.1 → (if knIx l p < i + 1 then nI (knIx l p) else -6) = nI i := fun a b => by
        have e := hu.mp ⟨a, b⟩
        rw [if_pos (by omega), ← e]
      have hn : ¬ (q.1 = p.1 ∧ q.2.1 = p.2.1) → (if knIx l p < i + 1 then nI (knIx l p) else -6) = (if knIx l p < i then nI (knIx l p) else -6) := fun a => by
        have e : i ≠ knIx l p := fun e => a (hu.mpr e)
        by_cases h : knIx l p < i
        · rw [if_pos h, if_pos (by omega)]
        · rw [if_neg h, if_neg (by omega)]
      refine r_iload 5 dX10_placeKnown_7 rfl ?_
      refine r_aload_n 0 dX10_placeKnown_9 rfl rfl ?_
      refine r_getR dX10_placeKnown_10 fl_RX10_7 rfl (by assumption) (by assumption) ?_
      refine r_sipush (v := nI 1020) dX10_placeKnown_13 (by decide) ?_
      refine r_iload_n 1 dX10_placeKnown_16 rfl rfl ?_
      refine r_iaddN dX10_placeKnown_17 ?_
      refine r_ialdV dX10_placeKnown_18 (by assumption) (by omega) (by omega) (by first | assumption | exact up2_same _ _ _ _ | exact (Eq.trans (up2_ne _ _ (by omega)) (by first | assumption | exact up2_same _ _ _ _)) | exact (Eq.trans (up2_ne _ _ (by omega)) (Eq.trans (up2_ne _ _ (by omega)) (by first | assumption | exact up2_same _ _ _ _))) | exact (Eq.trans (up2_ne _ _ (by omega)) (Eq.trans (up2_ne _ _ (by omega)) (Eq.trans (up2_ne _ _ (by omega)) (by first | assumption | exact up2_same _ _ _ _)))) | exact (Eq.trans (up2_ne _ _ (by omega)) (Eq.trans (up2_ne _ _ (by omega)) (Eq.trans (up2_ne _ _ (by omega)) (Eq.trans (up2_ne _ _ (by omega)) (by first | assumption | exact up2_same _ _ _ _))))) | rfl) ?_
      refine r_icmpN_ge 69 dX10_placeKnown_19 (by decide) (by omega) (by omega) (fun h19 => ?_) (fun h19 => ?_)
      · omega
      · refine r_aload_n 0 dX10_placeKnown_22 rfl rfl ?_
        refine r_getR dX10_placeKnown_23 fl_RX10_7 rfl (by assumption) (by assumption) ?_
        refine r_iload_n 1 dX10_placeKnown_26 rfl rfl ?_
        refine r_iload 5 dX10_placeKnown_27 rfl ?_
        refine r_callSp [_, _] dX10_placeKnown_29 ok_RX10_98 isX10_known rfl rfl (Nat.le_of_ble_eq_true rfl) (by refine ⟨?_, ?_, ?_, ?_⟩ <;> exact Nat.le_of_ble_eq_true rfl) (m_known) ?_
        refine r_ialdV dX10_placeKnown_32 (by assumption) (by omega) (by omega) (by first | assumption | exact up2_same _ _ _ _ | exact (Eq.trans (up2_ne _ _ (by omega)) (by first | assumption | exact up2_same _ _ _ _)) | exact (Eq.trans (up2_ne _ _ (by omega)) (Eq.trans (up2_ne _ _ (by omega)) (by first | assumption | exact up2_same _ _ _ _))) | exact (Eq.trans (up2_ne _ _ (by omega)) (Eq.trans (up2_ne _ _ (by omega)) (Eq.trans (up2_ne _ _ (by omega)) (by first | assumption | exact up2_same _ _ _ _)))) | exact (Eq.trans (up2_ne _ _ (by omega)) (Eq.trans (up2_ne _ _ (by omega)) (Eq.trans (up2_ne _ _ (by omega)) (Eq.trans (up2_ne _ _ (by omega)) (by first | assumption | exact up2_same _ _ _ _))))) | rfl) ?_
        refine r_iload_n 2 dX10_placeKnown_33 rfl rfl ?_
        refine r_icmpN_ne 59 dX10_placeKnown_34 (by decide) (by omega) (by omega) (fun h34 => ?_) (fun h34 => ?_)
        · refine r_iload 4 dX10_placeKnown_59 rfl ?_
          refine r_istore 4 (ls2 := [_, _, _, _, _, _]) dX10_placeKnown_61 (by decide) (Nat.le_of_ble_eq_true rfl) rfl ?_
          refine r_iincN 5 (b := 1) (ls2 := [_, _, _, _, _, _]) dX10_placeKnown_63 rfl (by decide) (by decide) rfl ?_
          refine r_goto 7 dX10_placeKnown_66 (by decide) ?_
          have h := ih (i + 1) (by omega)
          first | (rw [hn (fun a => h34 (by rw [a.1]))] at h; exact h) | (rw [hn (fun a => h51 (by rw [a.2]))] at h; exact h) | (rw [hy ((okL_inj k1 hp1 (by omega)).mp h34) ((okL_inj k2 hp2 (by omega)).mp h51)] at h; exact h)
        · refine r_aload_n 0 dX10_placeKnown_37 rfl rfl ?_
          refine r_getR dX10_placeKnown_38 fl_RX10_7 rfl (by assumption) (by assumption) ?_
          refine r_iload_n 1 dX10_placeKnown_41 rfl rfl ?_
          refine r_iload 5 dX10_placeKnown_42 rfl ?_
          refine r_callSp [_, _] dX10_placeKnown_44 ok_RX10_98 isX10_known rfl rfl (Nat.le_of_ble_eq_true rfl) (by refine ⟨?_, ?_, ?_, ?_⟩ <;> exact Nat.le_of_ble_eq_true rfl) (m_known) ?_
          refine r_iconst (v := nI 1) dX10_placeKnown_47 (by decide) ?_
          refine r_iaddN dX10_placeKnown_48 ?_
          refine r_ialdV dX10_placeKnown_49 (by assumption) (by omega) (by omega) (by first | assumption | exact up2_same _ _ _ _ | exact (Eq.trans (up2_ne _ _ (by omega)) (by first | assumption | exact up2_same _ _ _ _)) | exact (Eq.trans (up2_ne _ _ (by omega)) (Eq.trans (up2_ne _ _ (by omega)) (by first | assumption | exact up2_same _ _ _ _))) | exact (Eq.trans (up2_ne _ _ (by omega)) (Eq.trans (up2_ne _ _ (by omega)) (Eq.trans (up2_ne _ _ (by omega)) (by first | assumption | exact up2_same _ _ _ _)))) | exact (Eq.trans (up2_ne _ _ (by omega)) (Eq.trans (up2_ne _ _ (by omega)) (Eq.trans (up2_ne _ _ (by omega)) (Eq.trans (up2_ne _ _ (by omega)) (by first | assumption | exact up2_same _ _ _ _))))) | rfl) ?_
          refine r_iload_n 3 dX10_placeKnown_50 rfl rfl ?_
          refine r_icmpN_ne 59 dX10_placeKnown_51 (by decide) (by omega) (by omega) (fun h51 => ?_) (fun h51 => ?_)
          · refine r_iload 4 dX10_placeKnown_59 rfl ?_
            refine r_istore 4 (ls2 := [_, _, _, _, _, _]) dX10_placeKnown_61 (by decide) (Nat.le_of_ble_eq_true rfl) rfl ?_
            refine r_iincN 5 (b := 1) (ls2 := [_, _, _, _, _, _]) dX10_placeKnown_63 rfl (by decide) (by decide) rfl ?_
            refine r_goto 7 dX10_placeKnown_66 (by decide) ?_
            have h := ih (i + 1) (by omega)
            first | (rw [hn (fun a => h34 (by rw [a.1]))] at h; exact h) | (rw [hn (fun a => h51 (by rw [a.2]))] at h; exact h) | (rw [hy ((okL_inj k1 hp1 (by omega)).mp h34) ((okL_inj k2 hp2 (by omega)).mp h51)] at h; exact h)
          · refine r_iload 5 dX10_placeKnown_54 rfl ?_
            refine r_goto 61 dX10_placeKnown_56 (by decide) ?_
            refine r_istore 4 (ls2 := [_, _, _, _, _, _]) dX10_placeKnown_61 (by decide) (Nat.le_of_ble_eq_true rfl) rfl ?_
            refine r_iincN 5 (b := 1) (ls2 := [_, _, _, _, _, _]) dX10_placeKnown_63 rfl (by decide) (by decide) rfl ?_
            refine r_goto 7 dX10_placeKnown_66 (by decide) ?_
            have h := ih (i + 1) (by omega)
            first | (rw [hn (fun a => h34 (by rw [a.1]))] at h; exact h) | (rw [hn (fun a => h51 (by rw [a.2]))] at h; exact h) | (rw [hy ((okL_inj k1 hp1 (by omega)).mp h34) ((okL_inj k2 hp2 (by omega)).mp h51)] at h; exact h)
  refine Mv.of pnX10_placeKnown (Nat.le_of_ble_eq_true rfl) rfl ?_
  refine r_bipush (v := -6) dX10_placeKnown_0 (by decide) ?_
  refine r_istore 4 (ls2 := [_, _, _, _, _]) dX10_placeKnown_2 (by decide) (Nat.le_of_ble_eq_true rfl) rfl ?_
  refine r_iconst (v := nI 0) dX10_placeKnown_4 (by decide) ?_
  refine r_istore 5 (ls2 := [_, _, _, _, _, _]) dX10_placeKnown_5 (by decide) (Nat.le_of_ble_eq_true rfl) rfl ?_
  have h := H l.length 0 (by omega)
  rw [if_neg (Nat.not_lt_zero (knIx l p))] at h
  exact h
theorem m_unknow (hL : LM sh mr o) {s k : Nat} (hs : s < 6) {l : Kn} (hK : KnM (mi (o + 1)) s l) (hl : l.length ≤ 16) (hk : k < l.length) : Mi mX10_unknow 1 [.ref o, .int (nI s), .int (nI k)] z sh mi mr (fun v m => v = none ∧ KnM (m (o + 1)) s (l.eraseIdx k) ∧ Fr s 1020 1314 (mi (o + 1)) (m (o + 1)) ∧ ∀ x, x ≠ o + 1 → m x = mi x) := by
  obtain ⟨l0, ⟨l1, l2⟩, -⟩ := id hL
  have h1 := hK.1
  obtain ⟨g, hg⟩ : ∃ g : Rw, g = up2 mi (o + 1) (1020 + s) (nI (l.length - 1)) (o + 1) := ⟨_, rfl⟩
  have g1 : g (1020 + s) = nI (l.length - 1) := by rw [hg, up2_same]
  have g2 : ∀ q, q ≠ 1020 + s → g q = mi (o + 1) q := fun q hq => by rw [hg, up2_ne _ _ (Or.inr hq)]
  have hfin : KnM (shf g (1026 + 3 * (16 * s + k)) (1026 + 3 * (16 * s + (l.length - 1))) 3) s (l.eraseIdx k) ∧ Fr s 1020 1314 (mi (o + 1)) (shf g (1026 + 3 * (16 * s + k)) (1026 + 3 * (16 * s + (l.length - 1))) 3) := by
    refine ⟨⟨by rw [shf_lo (by omega), g1, List.length_eraseIdx_of_lt hk], fun i q hi => ?_⟩, fun i hi => ?_⟩
    · have hil := gl_lt hi
      rw [List.length_eraseIdx_of_lt hk] at hil
      rw [List.getElem?_eraseIdx] at hi
      by_cases h : i < k
      · rw [if_pos h] at hi
        rw [shf_lo (by omega), shf_lo (by omega), shf_lo (by omega), g2 _ (by omega), g2 _ (by omega), g2 _ (by omega)]
        exact hK.2 i q hi
      · rw [if_neg h] at hi
        rw [shf_in (by omega) (by omega), shf_in (by omega) (by omega), shf_in (by omega) (by omega), g2 _ (by omega), g2 _ (by omega), g2 _ (by omega)]
        have := hK.2 (i + 1) q hi
        rw [show 1026 + 3 * (16 * s + (i + 1)) = 1026 + 3 * (16 * s + i) + 3 by omega] at this
        rw [show 1026 + 3 * (16 * s + i) + 1 + 3 = 1026 + 3 * (16 * s + i) + 3 + 1 by omega, show 1026 + 3 * (16 * s + i) + 2 + 3 = 1026 + 3 * (16 * s + i) + 3 + 2 by omega]
        exact this
    · have e1 : i ≠ 1020 + s := fun e => hi (ow_kn hs (Or.inl e))
      have e2 : ¬ (1026 + 48 * s ≤ i ∧ i < 1074 + 48 * s) := fun e => hi (ow_kn hs (Or.inr e))
      unfold shf
      rw [if_neg (by omega), g2 i e1]
  have H : ∀ (t j : Nat) (m : MI) (ls : List Value), j + t = l.length - 1 → k ≤ j → (∀ x, x ≠ o + 1 → m x = mi x) → m (o + 1) = shf g (1026 + 3 * (16 * s + k)) (1026 + 3 * (16 * s + j)) 3 → Wp yX10_unknow cX10_unknow 5 none (EI 1 z sh mr (fun v m => v = none ∧ KnM (m (o + 1)) s (l.eraseIdx k) ∧ Fr s 1020 1314 (mi (o + 1)) (m (o + 1)) ∧ ∀ x, x ≠ o + 1 → m x = mi x)) 0 0 16 ([.ref o, .int (nI s), .int (nI k), .int (nI j)] ++ ls) [] z sh m mr := by
    intro t
    induction t with
    | zero =>
      intro j m ls hj hkj ho hm
      have hj : j = l.length - 1 := hj
      subst hj
      have hv : m (o + 1) (1020 + s) = nI (l.length - 1) := by rw [hm, shf_lo (by omega)]; exact g1
      refine r_drop ?_
      refine r_iload_n 3 dX10_unknow_16 rfl rfl ?_
      refine r_aload_n 0 dX10_unknow_17 rfl rfl ?_
      refine r_getR dX10_unknow_18 fl_RX10_7 rfl (by assumption) (by assumption) ?_
      refine r_sipush (v := nI 1020) dX10_unknow_21 (by decide) ?_
      refine r_iload_n 1 dX10_unknow_24 rfl rfl ?_
      refine r_iaddN dX10_unknow_25 ?_
      refine r_ialdV dX10_unknow_26 (by assumption) (by omega) (by omega) (by first | assumption | exact up2_same _ _ _ _ | exact (Eq.trans (up2_ne _ _ (by omega)) (by first | assumption | exact up2_same _ _ _ _)) | exact (Eq.trans (up2_ne _ _ (by omega)) (Eq.trans (up2_ne _ _ (by omega)) (by first | assumption | exact up2_same _ _ _ _))) | exact (Eq.trans (up2_ne _ _ (by omega)) (Eq.trans (up2_ne _ _ (by omega)) (Eq.trans (up2_ne _ _ (by omega)) (by first | assumption | exact up2_same _ _ _ _)))) | exact (Eq.trans (up2_ne _ _ (by omega)) (Eq.trans (up2_ne _ _ (by omega)) (Eq.trans (up2_ne _ _ (by omega)) (Eq.trans (up2_ne _ _ (by omega)) (by first | assumption | exact up2_same _ _ _ _))))) | rfl) ?_
      refine r_icmpN_ge 79 dX10_unknow_27 (by decide) (by omega) (by omega) (fun h27 => ?_) (fun h27 => ?_)
      · refine r_vret dX10_unknow_79 rfl (Nat.le_of_ble_eq_true rfl) (Nat.le_of_ble_eq_true rfl) ?_
        refine ⟨rfl, rfl, rfl, rfl, ?_, ?_, ho⟩
        · rw [hm]; exact hfin.1
        · rw [hm]; exact hfin.2
      · omega
    | succ t ih =>
      intro j m ls hj hkj ho hm
      have I : ∀ (u i : Nat) (m : MI), i + u = 3 → (∀ x, x ≠ o + 1 → m x = mi x) → m (o + 1) = shf g (1026 + 3 * (16 * s + k)) (1026 + 3 * (16 * s + j) + i) 3 → Wp yX10_unknow cX10_unknow 5 none (EI 1 z sh mr (fun v m => v = none ∧ KnM (m (o + 1)) s (l.eraseIdx k) ∧ Fr s 1020 1314 (mi (o + 1)) (m (o + 1)) ∧ ∀ x, x ≠ o + 1 → m x = mi x)) 0 0 33 [.ref o, .int (nI s), .int (nI k), .int (nI j), .int (nI i)] [] z sh m mr := by
        intro u
        induction u with
        | zero =>
          intro i m hi ho hm
          have hi : i = 3 := hi
          subst hi
          refine r_iload 4 dX10_unknow_33 rfl ?_
          refine r_iconst (v := nI 3) dX10_unknow_35 (by decide) ?_
          refine r_icmpN_ge 73 dX10_unknow_36 (by decide) (by omega) (by omega) (fun h36 => ?_) (fun h36 => ?_)
          · refine r_iincN 3 (b := 1) (ls2 := [_, _, _, _, _]) dX10_unknow_73 rfl (by decide) (by decide) rfl ?_
            refine r_goto 16 dX10_unknow_76 (by decide) ?_
            exact ih (j + 1) m [.int (nI 3)] (by omega) (by omega) ho (by rw [hm]; congr 1)
          · omega
        | succ u ih2 =>
          intro i m hi ho hm
          have hv : m (o + 1) (1026 + 3 * (16 * s + (j + 1)) + i) = g (1026 + 3 * (16 * s + j) + i + 3) := by rw [hm, shf_hi (by omega)]; congr 1; omega
          refine r_iload 4 dX10_unknow_33 rfl ?_
          refine r_iconst (v := nI 3) dX10_unknow_35 (by decide) ?_
          refine r_icmpN_ge 73 dX10_unknow_36 (by decide) (by omega) (by omega) (fun h36 => ?_) (fun h36 => ?_)
          · omega
          · refine r_aload_n 0 dX10_unknow_39 rfl rfl ?_
            refine r_getR dX10_unknow_40 fl_RX10_7 rfl (by assumption) (by assumption) ?_
            refine r_iload_n 1 dX10_unknow_43 rfl rfl ?_
            refine r_iload_n 3 dX10_unknow_44 rfl rfl ?_
            refine r_callSp [_, _] dX10_unknow_45 ok_RX10_98 isX10_known rfl rfl (Nat.le_of_ble_eq_true rfl) (by refine ⟨?_, ?_, ?_, ?_⟩ <;> exact Nat.le_of_ble_eq_true rfl) (m_known) ?_
            refine r_iload 4 dX10_unknow_48 rfl ?_
            refine r_iaddN dX10_unknow_50 ?_
            refine r_aload_n 0 dX10_unknow_51 rfl rfl ?_
            refine r_getR dX10_unknow_52 fl_RX10_7 rfl (by assumption) (by assumption) ?_
            refine r_iload_n 1 dX10_unknow_55 rfl rfl ?_
            refine r_iload_n 3 dX10_unknow_56 rfl rfl ?_
            refine r_iconst (v := nI 1) dX10_unknow_57 (by decide) ?_
            refine r_iaddN dX10_unknow_58 ?_
            refine r_callSp [_, _] dX10_unknow_59 ok_RX10_98 isX10_known rfl rfl (Nat.le_of_ble_eq_true rfl) (by refine ⟨?_, ?_, ?_, ?_⟩ <;> exact Nat.le_of_ble_eq_true rfl) (m_known) ?_
            refine r_iload 4 dX10_unknow_62 rfl ?_
            refine r_iaddN dX10_unknow_64 ?_
            refine r_ialdV dX10_unknow_65 (by assumption) (by omega) (by omega) (by first | assumption | exact up2_same _ _ _ _ | exact (Eq.trans (up2_ne _ _ (by omega)) (by first | assumption | exact up2_same _ _ _ _)) | exact (Eq.trans (up2_ne _ _ (by omega)) (Eq.trans (up2_ne _ _ (by omega)) (by first | assumption | exact up2_same _ _ _ _))) | exact (Eq.trans (up2_ne _ _ (by omega)) (Eq.trans (up2_ne _ _ (by omega)) (Eq.trans (up2_ne _ _ (by omega)) (by first | assumption | exact up2_same _ _ _ _)))) | exact (Eq.trans (up2_ne _ _ (by omega)) (Eq.trans (up2_ne _ _ (by omega)) (Eq.trans (up2_ne _ _ (by omega)) (Eq.trans (up2_ne _ _ (by omega)) (by first | assumption | exact up2_same _ _ _ _))))) | rfl) ?_
            refine r_iast dX10_unknow_66 (by assumption) (by omega) (by omega) ?_
            refine r_iincN 4 (b := 1) (ls2 := [_, _, _, _, _]) dX10_unknow_67 rfl (by decide) (by decide) rfl ?_
            refine r_goto 33 dX10_unknow_70 (by decide) ?_
            exact ih2 (i + 1) _ (by omega) (fun x hx => by rw [up2_row _ _ hx]; exact ho x hx) (shf_up hm (by omega))
      have hv : m (o + 1) (1020 + s) = nI (l.length - 1) := by rw [hm, shf_lo (by omega)]; exact g1
      refine r_drop ?_
      refine r_iload_n 3 dX10_unknow_16 rfl rfl ?_
      refine r_aload_n 0 dX10_unknow_17 rfl rfl ?_
      refine r_getR dX10_unknow_18 fl_RX10_7 rfl (by assumption) (by assumption) ?_
      refine r_sipush (v := nI 1020) dX10_unknow_21 (by decide) ?_
      refine r_iload_n 1 dX10_unknow_24 rfl rfl ?_
      refine r_iaddN dX10_unknow_25 ?_
      refine r_ialdV dX10_unknow_26 (by assumption) (by omega) (by omega) (by first | assumption | exact up2_same _ _ _ _ | exact (Eq.trans (up2_ne _ _ (by omega)) (by first | assumption | exact up2_same _ _ _ _)) | exact (Eq.trans (up2_ne _ _ (by omega)) (Eq.trans (up2_ne _ _ (by omega)) (by first | assumption | exact up2_same _ _ _ _))) | exact (Eq.trans (up2_ne _ _ (by omega)) (Eq.trans (up2_ne _ _ (by omega)) (Eq.trans (up2_ne _ _ (by omega)) (by first | assumption | exact up2_same _ _ _ _)))) | exact (Eq.trans (up2_ne _ _ (by omega)) (Eq.trans (up2_ne _ _ (by omega)) (Eq.trans (up2_ne _ _ (by omega)) (Eq.trans (up2_ne _ _ (by omega)) (by first | assumption | exact up2_same _ _ _ _))))) | rfl) ?_
      refine r_icmpN_ge 79 dX10_unknow_27 (by decide) (by omega) (by omega) (fun h27 => ?_) (fun h27 => ?_)
      · omega
      · refine r_iconst (v := nI 0) dX10_unknow_30 (by decide) ?_
        refine r_istore 4 (ls2 := [_, _, _, _, _]) dX10_unknow_31 (by decide) (Nat.le_of_ble_eq_true rfl) rfl ?_
        exact I 3 0 m rfl ho hm
  refine Mv.of pnX10_unknow (Nat.le_of_ble_eq_true rfl) rfl ?_
  refine r_aload_n 0 dX10_unknow_0 rfl rfl ?_
  refine r_getR dX10_unknow_1 fl_RX10_7 rfl (by assumption) (by assumption) ?_
  refine r_sipush (v := nI 1020) dX10_unknow_4 (by decide) ?_
  refine r_iload_n 1 dX10_unknow_7 rfl rfl ?_
  refine r_iaddN dX10_unknow_8 ?_
  refine r_dup2 dX10_unknow_9 rfl rfl ?_
  refine r_ialdV dX10_unknow_10 (by assumption) (by omega) (by omega) (by first | assumption | exact up2_same _ _ _ _ | exact (Eq.trans (up2_ne _ _ (by omega)) (by first | assumption | exact up2_same _ _ _ _)) | exact (Eq.trans (up2_ne _ _ (by omega)) (Eq.trans (up2_ne _ _ (by omega)) (by first | assumption | exact up2_same _ _ _ _))) | exact (Eq.trans (up2_ne _ _ (by omega)) (Eq.trans (up2_ne _ _ (by omega)) (Eq.trans (up2_ne _ _ (by omega)) (by first | assumption | exact up2_same _ _ _ _)))) | exact (Eq.trans (up2_ne _ _ (by omega)) (Eq.trans (up2_ne _ _ (by omega)) (Eq.trans (up2_ne _ _ (by omega)) (Eq.trans (up2_ne _ _ (by omega)) (by first | assumption | exact up2_same _ _ _ _))))) | rfl) ?_
  refine r_iconst (v := nI 1) dX10_unknow_11 (by decide) ?_
  refine r_isubN dX10_unknow_12 (by omega) ?_
  refine r_iast dX10_unknow_13 (by assumption) (by omega) (by omega) ?_
  refine r_iload_n 2 dX10_unknow_14 rfl rfl ?_
  refine r_istore_n 3 (ls2 := [_, _, _, _]) dX10_unknow_15 rfl (by decide) (Nat.le_of_ble_eq_true rfl) rfl ?_
  exact H (l.length - 1 - k) k _ [] (by omega) (Nat.le_refl _) (fun x hx => up2_row _ _ hx) (by rw [shf_0]; exact hg.symm)
end RKN
