section RSONE
variable {z : Nat} {sh : SH} {mi : MI} {mr : MR} {o : Nat}
theorem m_sendNo (hL : LM sh mr o) {s now : Nat} (hs : s < 6) {l : Kp} (hK : KpM (mi (o + 1)) s l) (hl : l.length ≤ 12) (hdu : ∀ q ∈ l, q.2 < 2 ^ 30) (hnow : mi (o + 1) 1386 = nI now) (hn30 : now < 2 ^ 30) (hd : duIx l now = l.length) : Mi mX10_sendOne 1 [.ref o, .int (nI s)] z sh mi mr (fun v m => v = none ∧ m = up2 mi (o + 7) s (nI 0)) := by
  obtain ⟨l0, ⟨l1, l2⟩, -, -, -, -, -, ⟨l13, l14⟩, -⟩ := id hL
  have h1 := hK.1
  have H : ∀ t i : Nat, i + t = l.length → Wp yX10_sendOne cX10_sendOne 5 none (EI 1 z sh mr (fun v m => v = none ∧ m = up2 mi (o + 7) s (nI 0))) 0 0 2 [.ref o, .int (nI s), .int (nI i)] [] z sh mi mr := by
    intro t
    induction t with
    | zero =>
      intro i hi
      have hi : i = l.length := hi
      subst hi
      refine r_iload_n 2 dX10_sendOne_2 rfl rfl ?_
      refine r_aload_n 0 dX10_sendOne_3 rfl rfl ?_
      refine r_getR dX10_sendOne_4 fl_RX10_7 rfl (by assumption) (by assumption) ?_
      refine r_sipush (v := nI 150) dX10_sendOne_7 (by decide) ?_
      refine r_iload_n 1 dX10_sendOne_10 rfl rfl ?_
      refine r_iaddN dX10_sendOne_11 ?_
      refine r_ialdV dX10_sendOne_12 (by assumption) (by omega) (by omega) (by first | assumption | exact up2_same _ _ _ _ | exact (Eq.trans (up2_ne _ _ (by omega)) (by first | assumption | exact up2_same _ _ _ _)) | exact (Eq.trans (up2_ne _ _ (by omega)) (Eq.trans (up2_ne _ _ (by omega)) (by first | assumption | exact up2_same _ _ _ _))) | exact (Eq.trans (up2_ne _ _ (by omega)) (Eq.trans (up2_ne _ _ (by omega)) (Eq.trans (up2_ne _ _ (by omega)) (by first | assumption | exact up2_same _ _ _ _)))) | exact (Eq.trans (up2_ne _ _ (by omega)) (Eq.trans (up2_ne _ _ (by omega)) (Eq.trans (up2_ne _ _ (by omega)) (Eq.trans (up2_ne _ _ (by omega)) (by first | assumption | exact up2_same _ _ _ _))))) | rfl) ?_
      refine r_icmpN_ge 46 dX10_sendOne_13 (by decide) (by omega) (by omega) (fun h13 => ?_) (fun h13 => ?_)
      · refine r_aload_n 0 dX10_sendOne_46 rfl rfl ?_
        refine r_getR dX10_sendOne_47 fl_RX10_29 rfl (by assumption) (by assumption) ?_
        refine r_iload_n 1 dX10_sendOne_50 rfl rfl ?_
        refine r_iload_n 2 dX10_sendOne_51 rfl rfl ?_
        refine r_aload_n 0 dX10_sendOne_52 rfl rfl ?_
        refine r_getR dX10_sendOne_53 fl_RX10_7 rfl (by assumption) (by assumption) ?_
        refine r_sipush (v := nI 150) dX10_sendOne_56 (by decide) ?_
        refine r_iload_n 1 dX10_sendOne_59 rfl rfl ?_
        refine r_iaddN dX10_sendOne_60 ?_
        refine r_ialdV dX10_sendOne_61 (by assumption) (by omega) (by omega) (by first | assumption | exact up2_same _ _ _ _ | exact (Eq.trans (up2_ne _ _ (by omega)) (by first | assumption | exact up2_same _ _ _ _)) | exact (Eq.trans (up2_ne _ _ (by omega)) (Eq.trans (up2_ne _ _ (by omega)) (by first | assumption | exact up2_same _ _ _ _))) | exact (Eq.trans (up2_ne _ _ (by omega)) (Eq.trans (up2_ne _ _ (by omega)) (Eq.trans (up2_ne _ _ (by omega)) (by first | assumption | exact up2_same _ _ _ _)))) | exact (Eq.trans (up2_ne _ _ (by omega)) (Eq.trans (up2_ne _ _ (by omega)) (Eq.trans (up2_ne _ _ (by omega)) (Eq.trans (up2_ne _ _ (by omega)) (by first | assumption | exact up2_same _ _ _ _))))) | rfl) ?_
        refine r_icmpN_ge 69 dX10_sendOne_62 (by decide) (by omega) (by omega) (fun h62 => ?_) (fun h62 => ?_)
        · refine r_iconst (v := nI 0) dX10_sendOne_69 (by decide) ?_
          refine r_bast dX10_sendOne_70 (by first | exact b2_nar _ | decide) (by assumption) (by omega) (by omega) ?_
          refine r_aload_n 0 dX10_sendOne_71 rfl rfl ?_
          refine r_getR dX10_sendOne_72 fl_RX10_29 rfl (by assumption) (by assumption) ?_
          refine r_iload_n 1 dX10_sendOne_75 rfl rfl ?_
          refine r_baldV dX10_sendOne_76 (by assumption) (by omega) (by omega) (by first | assumption | exact up2_same _ _ _ _ | exact (Eq.trans (up2_ne _ _ (by omega)) (by first | assumption | exact up2_same _ _ _ _)) | exact (Eq.trans (up2_ne _ _ (by omega)) (Eq.trans (up2_ne _ _ (by omega)) (by first | assumption | exact up2_same _ _ _ _))) | exact (Eq.trans (up2_ne _ _ (by omega)) (Eq.trans (up2_ne _ _ (by omega)) (Eq.trans (up2_ne _ _ (by omega)) (by first | assumption | exact up2_same _ _ _ _)))) | exact (Eq.trans (up2_ne _ _ (by omega)) (Eq.trans (up2_ne _ _ (by omega)) (Eq.trans (up2_ne _ _ (by omega)) (Eq.trans (up2_ne _ _ (by omega)) (by first | assumption | exact up2_same _ _ _ _))))) | rfl) ?_
          refine r_ifN_eq 203 dX10_sendOne_77 (by decide) (by omega) (fun h77 => ?_) (fun h77 => ?_)
          · refine r_vret dX10_sendOne_203 rfl (Nat.le_of_ble_eq_true rfl) (Nat.le_of_ble_eq_true rfl) ?_
            exact ⟨rfl, rfl, rfl, rfl, rfl⟩
          · omega
        · omega
      · omega
    | succ t ih =>
      intro i hi
      obtain ⟨q, hq⟩ := gl_ex (l := l) (i := i) (by omega)
      have hqn := fi_bef (p := fun q => decide (q.2 ≤ now)) (show i < l.findIdx (fun q => decide (q.2 ≤ now)) by show i < duIx l now; omega) hq
      have hqd : now < q.2 := by simpa using hqn
      have hq30 := hdu q (gl_mem hq)
      have hv := (hK.2 i q hq).2
      refine r_iload_n 2 dX10_sendOne_2 rfl rfl ?_
      refine r_aload_n 0 dX10_sendOne_3 rfl rfl ?_
      refine r_getR dX10_sendOne_4 fl_RX10_7 rfl (by assumption) (by assumption) ?_
      refine r_sipush (v := nI 150) dX10_sendOne_7 (by decide) ?_
      refine r_iload_n 1 dX10_sendOne_10 rfl rfl ?_
      refine r_iaddN dX10_sendOne_11 ?_
      refine r_ialdV dX10_sendOne_12 (by assumption) (by omega) (by omega) (by first | assumption | exact up2_same _ _ _ _ | exact (Eq.trans (up2_ne _ _ (by omega)) (by first | assumption | exact up2_same _ _ _ _)) | exact (Eq.trans (up2_ne _ _ (by omega)) (Eq.trans (up2_ne _ _ (by omega)) (by first | assumption | exact up2_same _ _ _ _))) | exact (Eq.trans (up2_ne _ _ (by omega)) (Eq.trans (up2_ne _ _ (by omega)) (Eq.trans (up2_ne _ _ (by omega)) (by first | assumption | exact up2_same _ _ _ _)))) | exact (Eq.trans (up2_ne _ _ (by omega)) (Eq.trans (up2_ne _ _ (by omega)) (Eq.trans (up2_ne _ _ (by omega)) (Eq.trans (up2_ne _ _ (by omega)) (by first | assumption | exact up2_same _ _ _ _))))) | rfl) ?_
      refine r_icmpN_ge 46 dX10_sendOne_13 (by decide) (by omega) (by omega) (fun h13 => ?_) (fun h13 => ?_)
      · omega
      · refine r_aload_n 0 dX10_sendOne_16 rfl rfl ?_
        refine r_getR dX10_sendOne_17 fl_RX10_7 rfl (by assumption) (by assumption) ?_
        refine r_iload_n 1 dX10_sendOne_20 rfl rfl ?_
        refine r_iload_n 2 dX10_sendOne_21 rfl rfl ?_
        refine r_callSp [_, _] dX10_sendOne_22 ok_RX10_95 isX10_slot rfl rfl (Nat.le_of_ble_eq_true rfl) (by refine ⟨?_, ?_, ?_, ?_⟩ <;> exact Nat.le_of_ble_eq_true rfl) (m_slot) ?_
        refine r_bipush (v := nI 11) dX10_sendOne_25 (by decide) ?_
        refine r_iaddN dX10_sendOne_27 ?_
        refine r_ialdV dX10_sendOne_28 (by assumption) (by omega) (by omega) (by first | assumption | exact up2_same _ _ _ _ | exact (Eq.trans (up2_ne _ _ (by omega)) (by first | assumption | exact up2_same _ _ _ _)) | exact (Eq.trans (up2_ne _ _ (by omega)) (Eq.trans (up2_ne _ _ (by omega)) (by first | assumption | exact up2_same _ _ _ _))) | exact (Eq.trans (up2_ne _ _ (by omega)) (Eq.trans (up2_ne _ _ (by omega)) (Eq.trans (up2_ne _ _ (by omega)) (by first | assumption | exact up2_same _ _ _ _)))) | exact (Eq.trans (up2_ne _ _ (by omega)) (Eq.trans (up2_ne _ _ (by omega)) (Eq.trans (up2_ne _ _ (by omega)) (Eq.trans (up2_ne _ _ (by omega)) (by first | assumption | exact up2_same _ _ _ _))))) | rfl) ?_
        refine r_aload_n 0 dX10_sendOne_29 rfl rfl ?_
        refine r_getR dX10_sendOne_30 fl_RX10_7 rfl (by assumption) (by assumption) ?_
        refine r_sipush (v := nI 1386) dX10_sendOne_33 (by decide) ?_
        refine r_ialdV dX10_sendOne_36 (by assumption) (by omega) (by omega) (by first | assumption | exact up2_same _ _ _ _ | exact (Eq.trans (up2_ne _ _ (by omega)) (by first | assumption | exact up2_same _ _ _ _)) | exact (Eq.trans (up2_ne _ _ (by omega)) (Eq.trans (up2_ne _ _ (by omega)) (by first | assumption | exact up2_same _ _ _ _))) | exact (Eq.trans (up2_ne _ _ (by omega)) (Eq.trans (up2_ne _ _ (by omega)) (Eq.trans (up2_ne _ _ (by omega)) (by first | assumption | exact up2_same _ _ _ _)))) | exact (Eq.trans (up2_ne _ _ (by omega)) (Eq.trans (up2_ne _ _ (by omega)) (Eq.trans (up2_ne _ _ (by omega)) (Eq.trans (up2_ne _ _ (by omega)) (by first | assumption | exact up2_same _ _ _ _))))) | rfl) ?_
        refine r_icmpN_le 46 dX10_sendOne_37 (by decide) (by omega) (by omega) (fun h37 => ?_) (fun h37 => ?_)
        · omega
        · refine r_iincN 2 (b := 1) (ls2 := [_, _, _]) dX10_sendOne_40 rfl (by decide) (by decide) rfl ?_
          refine r_goto 2 dX10_sendOne_43 (by decide) ?_
          exact ih (i + 1) (by omega)
  refine Mv.of pnX10_sendOne (Nat.le_of_ble_eq_true rfl) rfl ?_
  refine r_iconst (v := nI 0) dX10_sendOne_0 (by decide) ?_
  refine r_istore_n 2 (ls2 := [_, _, _]) dX10_sendOne_1 rfl (by decide) (Nat.le_of_ble_eq_true rfl) rfl ?_
  exact H l.length 0 (by omega)
theorem m_sendYes (hL : LM sh mr o) {s now v : Nat} (hs : s < 6) {l : Kp} (hK : KpM (mi (o + 1)) s l) (hl : l.length ≤ 12) (hdu : ∀ q ∈ l, q.2 < 2 ^ 30) (hw : ∀ q ∈ l, q.1.2.2.length ≤ 8) (hnow : mi (o + 1) 1386 = nI now) (hn30 : now < 2 ^ 30) (hv : mi (o + 1) (96 + 6 * 0 + s) = nI v) {q0 : Pk × Nat} (hd : l[duIx l now]? = some q0) : Mi mX10_sendOne 1 [.ref o, .int (nI s)] z sh mi mr (fun w m => w = none ∧ m (o + 7) = up2 mi (o + 7) s (nI 1) (o + 7) ∧ PkM (m (o + 6)) (11 * s) q0.1 ∧ (∀ i, ¬ (11 * s ≤ i ∧ i < 11 * s + 11) → m (o + 6) i = mi (o + 6) i) ∧ KpM (m (o + 1)) s (l.eraseIdx (duIx l now)) ∧ m (o + 1) (96 + 6 * 0 + s) = nI (v + 1) ∧ (∀ i, i ≠ 96 + 6 * 0 + s → ¬ (ow i = s ∧ 150 ≤ i ∧ i < 1020) → m (o + 1) i = mi (o + 1) i) ∧ ∀ x, x ≠ o + 1 → x ≠ o + 6 → x ≠ o + 7 → m x = mi x) := by
  obtain ⟨l0, ⟨l1, l2⟩, -, -, -, -, ⟨l11, l12⟩, ⟨l13, l14⟩, -⟩ := id hL
  have h1 := hK.1
  have hdl := gl_lt hd
  obtain ⟨d, hde⟩ : ∃ d, d = duIx l now := ⟨_, rfl⟩
  rw [← hde] at hd hdl
  obtain ⟨g, hg⟩ : ∃ g : Rw, g = up2 mi (o + 1) (150 + s) (nI (l.length - 1)) (o + 1) := ⟨_, rfl⟩
  have g1 : g (150 + s) = nI (l.length - 1) := by rw [hg, up2_same]
  have g2 : ∀ q, q ≠ 150 + s → g q = mi (o + 1) q := fun q hq => by rw [hg, up2_ne _ _ (Or.inr hq)]
  have hfin : KpM (shf g (156 + 12 * (12 * s + d)) (156 + 12 * (12 * s + (l.length - 1))) 12) s (l.eraseIdx d) ∧ Fr s 150 1020 (mi (o + 1)) (shf g (156 + 12 * (12 * s + d)) (156 + 12 * (12 * s + (l.length - 1))) 12) := by
    refine ⟨⟨by rw [shf_lo (by omega), g1, List.length_eraseIdx_of_lt hdl], fun i q hi => ?_⟩, fun i hi => ?_⟩
    · have hil := gl_lt hi
      rw [List.length_eraseIdx_of_lt hdl] at hil
      rw [List.getElem?_eraseIdx] at hi
      by_cases h : i < d
      · rw [if_pos h] at hi
        obtain ⟨k1, k2⟩ := hK.2 i q hi
        refine ⟨k1.keep (hw q (gl_mem hi)) (fun j j1 j2 => ?_), ?_⟩
        · rw [shf_lo (by omega), g2 _ (by omega)]
        · rw [shf_lo (by omega), g2 _ (by omega)]; exact k2
      · rw [if_neg h] at hi
        obtain ⟨k1, k2⟩ := hK.2 (i + 1) q hi
        refine ⟨k1.move (hw q (gl_mem hi)) (fun j hj => ?_), ?_⟩
        · rw [shf_in (by omega) (by omega), g2 _ (by omega)]; congr 1; omega
        · rw [shf_in (by omega) (by omega), g2 _ (by omega), ← k2]; congr 1 <;> omega
    · have e1 : i ≠ 150 + s := fun e => hi (ow_kp hs (Or.inl e))
      have e2 : ¬ (156 + 144 * s ≤ i ∧ i < 300 + 144 * s) := fun e => hi (ow_kp hs (Or.inr e))
      unfold shf
      rw [if_neg (by omega), g2 i e1]
  have KC : ∀ (mB : MI), mB (o + 7) = up2 mi (o + 7) s (nI 1) (o + 7) → PkM (mB (o + 6)) (11 * s) q0.1 → (∀ i, ¬ (11 * s ≤ i ∧ i < 11 * s + 11) → mB (o + 6) i = mi (o + 6) i) → (∀ x, x ≠ o + 1 → x ≠ o + 6 → x ≠ o + 7 → mB x = mi x) → ∀ (t j : Nat) (m : MI) (ls : List Value), j + t = l.length - 1 → d ≤ j → (∀ x, x ≠ o + 1 → m x = mB x) → m (o + 1) = shf g (156 + 12 * (12 * s + d)) (156 + 12 * (12 * s + j)) 12 → Wp yX10_sendOne cX10_sendOne 5 none (EI 1 z sh mr (fun w m => w = none ∧ m (o + 7) = up2 mi (o + 7) s (nI 1) (o + 7) ∧ PkM (m (o + 6)) (11 * s) q0.1 ∧ (∀ i, ¬ (11 * s ≤ i ∧ i < 11 * s + 11) → m (o + 6) i = mi (o + 6) i) ∧ KpM (m (o + 1)) s (l.eraseIdx (duIx l now)) ∧ m (o + 1) (96 + 6 * 0 + s) = nI (v + 1) ∧ (∀ i, i ≠ 96 + 6 * 0 + s → ¬ (ow i = s ∧ 150 ≤ i ∧ i < 1020) → m (o + 1) i = mi (o + 1) i) ∧ ∀ x, x ≠ o + 1 → x ≠ o + 6 → x ≠ o + 7 → m x = mi x)) 0 0 133 ([.ref o, .int (nI s), .int (nI d), .int (nI j)] ++ ls) [] z sh m mr := by
    intro mB b7 b6 b6' bo t
    induction t with
    | zero =>
      intro j m ls hj hkj ho hm
      have hj : j = l.length - 1 := hj
      subst hj
      have hvk : m (o + 1) (150 + s) = nI (l.length - 1) := by rw [hm, shf_lo (by omega)]; exact g1
      have hv' : m (o + 1) (96 + 6 * 0 + s) = nI v := by rw [hm, shf_lo (by omega), g2 _ (by omega)]; exact hv
      refine r_drop ?_
      refine r_iload_n 3 dX10_sendOne_133 rfl rfl ?_
      refine r_aload_n 0 dX10_sendOne_134 rfl rfl ?_
      refine r_getR dX10_sendOne_135 fl_RX10_7 rfl (by assumption) (by assumption) ?_
      refine r_sipush (v := nI 150) dX10_sendOne_138 (by decide) ?_
      refine r_iload_n 1 dX10_sendOne_141 rfl rfl ?_
      refine r_iaddN dX10_sendOne_142 ?_
      refine r_ialdV dX10_sendOne_143 (by assumption) (by omega) (by omega) (by first | assumption | exact up2_same _ _ _ _ | exact (Eq.trans (up2_ne _ _ (by omega)) (by first | assumption | exact up2_same _ _ _ _)) | exact (Eq.trans (up2_ne _ _ (by omega)) (Eq.trans (up2_ne _ _ (by omega)) (by first | assumption | exact up2_same _ _ _ _))) | exact (Eq.trans (up2_ne _ _ (by omega)) (Eq.trans (up2_ne _ _ (by omega)) (Eq.trans (up2_ne _ _ (by omega)) (by first | assumption | exact up2_same _ _ _ _)))) | exact (Eq.trans (up2_ne _ _ (by omega)) (Eq.trans (up2_ne _ _ (by omega)) (Eq.trans (up2_ne _ _ (by omega)) (Eq.trans (up2_ne _ _ (by omega)) (by first | assumption | exact up2_same _ _ _ _))))) | rfl) ?_
      refine r_icmpN_ge 197 dX10_sendOne_144 (by decide) (by omega) (by omega) (fun h144 => ?_) (fun h144 => ?_)
      · refine r_aload_n 0 dX10_sendOne_197 rfl rfl ?_
        refine r_iconst (v := nI 0) dX10_sendOne_198 (by decide) ?_
        refine r_iload_n 1 dX10_sendOne_199 rfl rfl ?_
        refine r_callVw [_, _] dX10_sendOne_200 ok_RX10_119 ivX10_count (by assumption) ⟨_, _, rfl⟩ rfl rfl (Nat.le_of_ble_eq_true rfl) (by refine ⟨?_, ?_, ?_, ?_⟩ <;> exact Nat.le_of_ble_eq_true rfl) (m_cnt hL (w := 0) (by omega) hs hv') ?_
        intro mA uA
        subst uA
        refine r_vret dX10_sendOne_203 rfl (Nat.le_of_ble_eq_true rfl) (Nat.le_of_ble_eq_true rfl) ?_
        have e6 : up2 m (o + 1) (96 + 6 * 0 + s) (nI (v + 1)) (o + 6) = mB (o + 6) := by rw [up2_row _ _ (by omega), ho _ (by omega)]
        refine ⟨rfl, rfl, rfl, rfl, ?_, ?_, ?_, ?_, up2_same _ _ _ _, fun i i1 i2 => ?_, fun x x1 x2 x3 => ?_⟩
        · rw [up2_row _ _ (by omega), ho _ (by omega)]; exact b7
        · rw [e6]; exact b6
        · rw [e6]; exact b6'
        · rw [← hde]
          refine KpM.keep hs hfin.1 (by rw [List.length_eraseIdx_of_lt hdl]; omega) (fun q hq => hw q (List.mem_of_mem_eraseIdx hq)) (fun i _ i1 _ => ?_)
          rw [up2_ne _ _ (Or.inr (by omega)), hm]
        · rw [up2_ne _ _ (Or.inr i1), hm]; exact hfin.2 i i2
        · rw [up2_row _ _ x1, ho _ x1]; exact bo x x1 x2 x3
      · omega
    | succ t ih =>
      intro j m ls hj hkj ho hm
      have I : ∀ (u i : Nat) (m : MI), i + u = 12 → (∀ x, x ≠ o + 1 → m x = mB x) → m (o + 1) = shf g (156 + 12 * (12 * s + d)) (156 + 12 * (12 * s + j) + i) 12 → Wp yX10_sendOne cX10_sendOne 5 none (EI 1 z sh mr (fun w m => w = none ∧ m (o + 7) = up2 mi (o + 7) s (nI 1) (o + 7) ∧ PkM (m (o + 6)) (11 * s) q0.1 ∧ (∀ i, ¬ (11 * s ≤ i ∧ i < 11 * s + 11) → m (o + 6) i = mi (o + 6) i) ∧ KpM (m (o + 1)) s (l.eraseIdx (duIx l now)) ∧ m (o + 1) (96 + 6 * 0 + s) = nI (v + 1) ∧ (∀ i, i ≠ 96 + 6 * 0 + s → ¬ (ow i = s ∧ 150 ≤ i ∧ i < 1020) → m (o + 1) i = mi (o + 1) i) ∧ ∀ x, x ≠ o + 1 → x ≠ o + 6 → x ≠ o + 7 → m x = mi x)) 0 0 150 [.ref o, .int (nI s), .int (nI d), .int (nI j), .int (nI i)] [] z sh m mr := by
        intro u
        induction u with
        | zero =>
          intro i m hi ho hm
          have hi : i = 12 := hi
          subst hi
          refine r_iload 4 dX10_sendOne_150 rfl ?_
          refine r_bipush (v := nI 12) dX10_sendOne_152 (by decide) ?_
          refine r_icmpN_ge 191 dX10_sendOne_154 (by decide) (by omega) (by omega) (fun h154 => ?_) (fun h154 => ?_)
          · refine r_iincN 3 (b := 1) (ls2 := [_, _, _, _, _]) dX10_sendOne_191 rfl (by decide) (by decide) rfl ?_
            refine r_goto 133 dX10_sendOne_194 (by decide) ?_
            exact ih (j + 1) m [.int (nI 12)] (by omega) (by omega) ho (by rw [hm]; congr 1)
          · omega
        | succ u ih2 =>
          intro i m hi ho hm
          have hvv : m (o + 1) (156 + 12 * (12 * s + (j + 1)) + i) = g (156 + 12 * (12 * s + j) + i + 12) := by rw [hm, shf_hi (by omega)]; congr 1; omega
          refine r_iload 4 dX10_sendOne_150 rfl ?_
          refine r_bipush (v := nI 12) dX10_sendOne_152 (by decide) ?_
          refine r_icmpN_ge 191 dX10_sendOne_154 (by decide) (by omega) (by omega) (fun h154 => ?_) (fun h154 => ?_)
          · omega
          · refine r_aload_n 0 dX10_sendOne_157 rfl rfl ?_
            refine r_getR dX10_sendOne_158 fl_RX10_7 rfl (by assumption) (by assumption) ?_
            refine r_iload_n 1 dX10_sendOne_161 rfl rfl ?_
            refine r_iload_n 3 dX10_sendOne_162 rfl rfl ?_
            refine r_callSp [_, _] dX10_sendOne_163 ok_RX10_95 isX10_slot rfl rfl (Nat.le_of_ble_eq_true rfl) (by refine ⟨?_, ?_, ?_, ?_⟩ <;> exact Nat.le_of_ble_eq_true rfl) (m_slot) ?_
            refine r_iload 4 dX10_sendOne_166 rfl ?_
            refine r_iaddN dX10_sendOne_168 ?_
            refine r_aload_n 0 dX10_sendOne_169 rfl rfl ?_
            refine r_getR dX10_sendOne_170 fl_RX10_7 rfl (by assumption) (by assumption) ?_
            refine r_iload_n 1 dX10_sendOne_173 rfl rfl ?_
            refine r_iload_n 3 dX10_sendOne_174 rfl rfl ?_
            refine r_iconst (v := nI 1) dX10_sendOne_175 (by decide) ?_
            refine r_iaddN dX10_sendOne_176 ?_
            refine r_callSp [_, _] dX10_sendOne_177 ok_RX10_95 isX10_slot rfl rfl (Nat.le_of_ble_eq_true rfl) (by refine ⟨?_, ?_, ?_, ?_⟩ <;> exact Nat.le_of_ble_eq_true rfl) (m_slot) ?_
            refine r_iload 4 dX10_sendOne_180 rfl ?_
            refine r_iaddN dX10_sendOne_182 ?_
            refine r_ialdV dX10_sendOne_183 (by assumption) (by omega) (by omega) (by first | assumption | exact up2_same _ _ _ _ | exact (Eq.trans (up2_ne _ _ (by omega)) (by first | assumption | exact up2_same _ _ _ _)) | exact (Eq.trans (up2_ne _ _ (by omega)) (Eq.trans (up2_ne _ _ (by omega)) (by first | assumption | exact up2_same _ _ _ _))) | exact (Eq.trans (up2_ne _ _ (by omega)) (Eq.trans (up2_ne _ _ (by omega)) (Eq.trans (up2_ne _ _ (by omega)) (by first | assumption | exact up2_same _ _ _ _)))) | exact (Eq.trans (up2_ne _ _ (by omega)) (Eq.trans (up2_ne _ _ (by omega)) (Eq.trans (up2_ne _ _ (by omega)) (Eq.trans (up2_ne _ _ (by omega)) (by first | assumption | exact up2_same _ _ _ _))))) | rfl) ?_
            refine r_iast dX10_sendOne_184 (by assumption) (by omega) (by omega) ?_
            refine r_iincN 4 (b := 1) (ls2 := [_, _, _, _, _]) dX10_sendOne_185 rfl (by decide) (by decide) rfl ?_
            refine r_goto 150 dX10_sendOne_188 (by decide) ?_
            exact ih2 (i + 1) _ (by omega) (fun x hx => by rw [up2_row _ _ hx]; exact ho x hx) (shf_up hm (by omega))
      have hvk : m (o + 1) (150 + s) = nI (l.length - 1) := by rw [hm, shf_lo (by omega)]; exact g1
      refine r_drop ?_
      refine r_iload_n 3 dX10_sendOne_133 rfl rfl ?_
      refine r_aload_n 0 dX10_sendOne_134 rfl rfl ?_
      refine r_getR dX10_sendOne_135 fl_RX10_7 rfl (by assumption) (by assumption) ?_
      refine r_sipush (v := nI 150) dX10_sendOne_138 (by decide) ?_
      refine r_iload_n 1 dX10_sendOne_141 rfl rfl ?_
      refine r_iaddN dX10_sendOne_142 ?_
      refine r_ialdV dX10_sendOne_143 (by assumption) (by omega) (by omega) (by first | assumption | exact up2_same _ _ _ _ | exact (Eq.trans (up2_ne _ _ (by omega)) (by first | assumption | exact up2_same _ _ _ _)) | exact (Eq.trans (up2_ne _ _ (by omega)) (Eq.trans (up2_ne _ _ (by omega)) (by first | assumption | exact up2_same _ _ _ _))) | exact (Eq.trans (up2_ne _ _ (by omega)) (Eq.trans (up2_ne _ _ (by omega)) (Eq.trans (up2_ne _ _ (by omega)) (by first | assumption | exact up2_same _ _ _ _)))) | exact (Eq.trans (up2_ne _ _ (by omega)) (Eq.trans (up2_ne _ _ (by omega)) (Eq.trans (up2_ne _ _ (by omega)) (Eq.trans (up2_ne _ _ (by omega)) (by first | assumption | exact up2_same _ _ _ _))))) | rfl) ?_
      refine r_icmpN_ge 197 dX10_sendOne_144 (by decide) (by omega) (by omega) (fun h144 => ?_) (fun h144 => ?_)
      · omega
      · refine r_iconst (v := nI 0) dX10_sendOne_147 (by decide) ?_
        refine r_istore 4 (ls2 := [_, _, _, _, _]) dX10_sendOne_148 (by decide) (Nat.le_of_ble_eq_true rfl) rfl ?_
        exact I 12 0 m rfl ho hm
  have KB : ∀ (t i : Nat) (m : MI), i + t = 11 → m (o + 7) = up2 mi (o + 7) s (nI 1) (o + 7) → (∀ q, m (o + 6) q = if 11 * s ≤ q ∧ q < 11 * s + i then mi (o + 1) (156 + 12 * (12 * s + d) + (q - 11 * s)) else mi (o + 6) q) → m (o + 1) = mi (o + 1) → (∀ x, x ≠ o + 1 → x ≠ o + 6 → x ≠ o + 7 → m x = mi x) → Wp yX10_sendOne cX10_sendOne 5 none (EI 1 z sh mr (fun w m => w = none ∧ m (o + 7) = up2 mi (o + 7) s (nI 1) (o + 7) ∧ PkM (m (o + 6)) (11 * s) q0.1 ∧ (∀ i, ¬ (11 * s ≤ i ∧ i < 11 * s + 11) → m (o + 6) i = mi (o + 6) i) ∧ KpM (m (o + 1)) s (l.eraseIdx (duIx l now)) ∧ m (o + 1) (96 + 6 * 0 + s) = nI (v + 1) ∧ (∀ i, i ≠ 96 + 6 * 0 + s → ¬ (ow i = s ∧ 150 ≤ i ∧ i < 1020) → m (o + 1) i = mi (o + 1) i) ∧ ∀ x, x ≠ o + 1 → x ≠ o + 6 → x ≠ o + 7 → m x = mi x)) 0 0 82 [.ref o, .int (nI s), .int (nI d), .int (nI i)] [] z sh m mr := by
    intro t
    induction t with
    | zero =>
      intro i m hi b7 b6 b1 bo
      have hi : i = 11 := hi
      subst hi
      have h1m : m (o + 1) (150 + s) = nI l.length := by rw [b1]; exact h1
      have hpk := (hK.2 d q0 hd).1
      refine r_iload_n 3 dX10_sendOne_82 rfl rfl ?_
      refine r_bipush (v := nI 11) dX10_sendOne_83 (by decide) ?_
      refine r_icmpN_ge 117 dX10_sendOne_85 (by decide) (by omega) (by omega) (fun h85 => ?_) (fun h85 => ?_)
      · refine r_aload_n 0 dX10_sendOne_117 rfl rfl ?_
        refine r_getR dX10_sendOne_118 fl_RX10_7 rfl (by assumption) (by assumption) ?_
        refine r_sipush (v := nI 150) dX10_sendOne_121 (by decide) ?_
        refine r_iload_n 1 dX10_sendOne_124 rfl rfl ?_
        refine r_iaddN dX10_sendOne_125 ?_
        refine r_dup2 dX10_sendOne_126 rfl rfl ?_
        refine r_ialdV dX10_sendOne_127 (by assumption) (by omega) (by omega) (by first | assumption | exact up2_same _ _ _ _ | exact (Eq.trans (up2_ne _ _ (by omega)) (by first | assumption | exact up2_same _ _ _ _)) | exact (Eq.trans (up2_ne _ _ (by omega)) (Eq.trans (up2_ne _ _ (by omega)) (by first | assumption | exact up2_same _ _ _ _))) | exact (Eq.trans (up2_ne _ _ (by omega)) (Eq.trans (up2_ne _ _ (by omega)) (Eq.trans (up2_ne _ _ (by omega)) (by first | assumption | exact up2_same _ _ _ _)))) | exact (Eq.trans (up2_ne _ _ (by omega)) (Eq.trans (up2_ne _ _ (by omega)) (Eq.trans (up2_ne _ _ (by omega)) (Eq.trans (up2_ne _ _ (by omega)) (by first | assumption | exact up2_same _ _ _ _))))) | rfl) ?_
        refine r_iconst (v := nI 1) dX10_sendOne_128 (by decide) ?_
        refine r_isubN dX10_sendOne_129 (by omega) ?_
        refine r_iast dX10_sendOne_130 (by assumption) (by omega) (by omega) ?_
        refine r_iload_n 2 dX10_sendOne_131 rfl rfl ?_
        refine r_istore_n 3 (ls2 := [_, _, _, _]) dX10_sendOne_132 rfl (by decide) (Nat.le_of_ble_eq_true rfl) rfl ?_
        refine KC m b7 (hpk.move (hw q0 (gl_mem hd)) (fun j hj => ?_)) (fun i hi => ?_) bo (l.length - 1 - d) d _ [] (by omega) (Nat.le_refl _) (fun x hx => up2_row _ _ hx) ?_
        · rw [b6, if_pos (by omega)]; congr 1; omega
        · rw [b6, if_neg hi]
        · rw [shf_0, hg]
          funext q
          by_cases e : q = 150 + s
          · rw [e, up2_same, up2_same]
          · rw [up2_ne _ _ (Or.inr e), up2_ne _ _ (Or.inr e), b1]
      · omega
    | succ t ih =>
      intro i m hi b7 b6 b1 bo
      have hvv : m (o + 1) (156 + 12 * (12 * s + d) + i) = mi (o + 1) (156 + 12 * (12 * s + d) + i) := by rw [b1]
      refine r_iload_n 3 dX10_sendOne_82 rfl rfl ?_
      refine r_bipush (v := nI 11) dX10_sendOne_83 (by decide) ?_
      refine r_icmpN_ge 117 dX10_sendOne_85 (by decide) (by omega) (by omega) (fun h85 => ?_) (fun h85 => ?_)
      · omega
      · refine r_aload_n 0 dX10_sendOne_88 rfl rfl ?_
        refine r_getR dX10_sendOne_89 fl_RX10_26 rfl (by assumption) (by assumption) ?_
        refine r_bipush (v := nI 11) dX10_sendOne_92 (by decide) ?_
        refine r_iload_n 1 dX10_sendOne_94 rfl rfl ?_
        refine r_imulN dX10_sendOne_95 ?_
        refine r_iload_n 3 dX10_sendOne_96 rfl rfl ?_
        refine r_iaddN dX10_sendOne_97 ?_
        refine r_aload_n 0 dX10_sendOne_98 rfl rfl ?_
        refine r_getR dX10_sendOne_99 fl_RX10_7 rfl (by assumption) (by assumption) ?_
        refine r_iload_n 1 dX10_sendOne_102 rfl rfl ?_
        refine r_iload_n 2 dX10_sendOne_103 rfl rfl ?_
        refine r_callSp [_, _] dX10_sendOne_104 ok_RX10_95 isX10_slot rfl rfl (Nat.le_of_ble_eq_true rfl) (by refine ⟨?_, ?_, ?_, ?_⟩ <;> exact Nat.le_of_ble_eq_true rfl) (m_slot) ?_
        refine r_iload_n 3 dX10_sendOne_107 rfl rfl ?_
        refine r_iaddN dX10_sendOne_108 ?_
        refine r_ialdV dX10_sendOne_109 (by assumption) (by omega) (by omega) (by first | assumption | exact up2_same _ _ _ _ | exact (Eq.trans (up2_ne _ _ (by omega)) (by first | assumption | exact up2_same _ _ _ _)) | exact (Eq.trans (up2_ne _ _ (by omega)) (Eq.trans (up2_ne _ _ (by omega)) (by first | assumption | exact up2_same _ _ _ _))) | exact (Eq.trans (up2_ne _ _ (by omega)) (Eq.trans (up2_ne _ _ (by omega)) (Eq.trans (up2_ne _ _ (by omega)) (by first | assumption | exact up2_same _ _ _ _)))) | exact (Eq.trans (up2_ne _ _ (by omega)) (Eq.trans (up2_ne _ _ (by omega)) (Eq.trans (up2_ne _ _ (by omega)) (Eq.trans (up2_ne _ _ (by omega)) (by first | assumption | exact up2_same _ _ _ _))))) | rfl) ?_
        refine r_iast dX10_sendOne_110 (by assumption) (by omega) (by omega) ?_
        refine r_iincN 3 (b := 1) (ls2 := [_, _, _, _]) dX10_sendOne_111 rfl (by decide) (by decide) rfl ?_
        refine r_goto 82 dX10_sendOne_114 (by decide) ?_
        refine ih (i + 1) _ (by omega) (by rw [up2_row _ _ (by omega)]; exact b7) (fun q => ?_) (by rw [up2_row _ _ (by omega)]; exact b1) (fun x x1 x2 x3 => by rw [up2_row _ _ x2]; exact bo x x1 x2 x3)
        by_cases e : q = 11 * s + i
        · subst e
          rw [up2_same, if_pos (by omega)]
          congr 1; omega
        · rw [up2_ne _ _ (Or.inr e), b6]
          by_cases h2 : 11 * s ≤ q ∧ q < 11 * s + i
          · rw [if_pos h2, if_pos (by omega)]
          · rw [if_neg h2, if_neg (by omega)]
  have H : ∀ t i : Nat, i + t = d → Wp yX10_sendOne cX10_sendOne 5 none (EI 1 z sh mr (fun w m => w = none ∧ m (o + 7) = up2 mi (o + 7) s (nI 1) (o + 7) ∧ PkM (m (o + 6)) (11 * s) q0.1 ∧ (∀ i, ¬ (11 * s ≤ i ∧ i < 11 * s + 11) → m (o + 6) i = mi (o + 6) i) ∧ KpM (m (o + 1)) s (l.eraseIdx (duIx l now)) ∧ m (o + 1) (96 + 6 * 0 + s) = nI (v + 1) ∧ (∀ i, i ≠ 96 + 6 * 0 + s → ¬ (ow i = s ∧ 150 ≤ i ∧ i < 1020) → m (o + 1) i = mi (o + 1) i) ∧ ∀ x, x ≠ o + 1 → x ≠ o + 6 → x ≠ o + 7 → m x = mi x)) 0 0 2 [.ref o, .int (nI s), .int (nI i)] [] z sh mi mr := by
    intro t
    induction t with
    | zero =>
      intro i hi
      have hi : i = d := hi
      subst hi
      obtain ⟨q, hq, hqd⟩ := fi_lt (l := l) (p := fun q => decide (q.2 ≤ now)) (by show duIx l now < _; omega)
      have hq : l[duIx l now]? = some q := hq
      rw [← hde, hd] at hq
      cases hq
      have hqd' : q0.2 ≤ now := by simpa using hqd
      have hvv := (hK.2 i q0 hd).2
      refine r_iload_n 2 dX10_sendOne_2 rfl rfl ?_
      refine r_aload_n 0 dX10_sendOne_3 rfl rfl ?_
      refine r_getR dX10_sendOne_4 fl_RX10_7 rfl (by assumption) (by assumption) ?_
      refine r_sipush (v := nI 150) dX10_sendOne_7 (by decide) ?_
      refine r_iload_n 1 dX10_sendOne_10 rfl rfl ?_
      refine r_iaddN dX10_sendOne_11 ?_
      refine r_ialdV dX10_sendOne_12 (by assumption) (by omega) (by omega) (by first | assumption | exact up2_same _ _ _ _ | exact (Eq.trans (up2_ne _ _ (by omega)) (by first | assumption | exact up2_same _ _ _ _)) | exact (Eq.trans (up2_ne _ _ (by omega)) (Eq.trans (up2_ne _ _ (by omega)) (by first | assumption | exact up2_same _ _ _ _))) | exact (Eq.trans (up2_ne _ _ (by omega)) (Eq.trans (up2_ne _ _ (by omega)) (Eq.trans (up2_ne _ _ (by omega)) (by first | assumption | exact up2_same _ _ _ _)))) | exact (Eq.trans (up2_ne _ _ (by omega)) (Eq.trans (up2_ne _ _ (by omega)) (Eq.trans (up2_ne _ _ (by omega)) (Eq.trans (up2_ne _ _ (by omega)) (by first | assumption | exact up2_same _ _ _ _))))) | rfl) ?_
      refine r_icmpN_ge 46 dX10_sendOne_13 (by decide) (by omega) (by omega) (fun h13 => ?_) (fun h13 => ?_)
      · refine r_aload_n 0 dX10_sendOne_46 rfl rfl ?_
        refine r_getR dX10_sendOne_47 fl_RX10_29 rfl (by assumption) (by assumption) ?_
        refine r_iload_n 1 dX10_sendOne_50 rfl rfl ?_
        refine r_iload_n 2 dX10_sendOne_51 rfl rfl ?_
        refine r_aload_n 0 dX10_sendOne_52 rfl rfl ?_
        refine r_getR dX10_sendOne_53 fl_RX10_7 rfl (by assumption) (by assumption) ?_
        refine r_sipush (v := nI 150) dX10_sendOne_56 (by decide) ?_
        refine r_iload_n 1 dX10_sendOne_59 rfl rfl ?_
        refine r_iaddN dX10_sendOne_60 ?_
        refine r_ialdV dX10_sendOne_61 (by assumption) (by omega) (by omega) (by first | assumption | exact up2_same _ _ _ _ | exact (Eq.trans (up2_ne _ _ (by omega)) (by first | assumption | exact up2_same _ _ _ _)) | exact (Eq.trans (up2_ne _ _ (by omega)) (Eq.trans (up2_ne _ _ (by omega)) (by first | assumption | exact up2_same _ _ _ _))) | exact (Eq.trans (up2_ne _ _ (by omega)) (Eq.trans (up2_ne _ _ (by omega)) (Eq.trans (up2_ne _ _ (by omega)) (by first | assumption | exact up2_same _ _ _ _)))) | exact (Eq.trans (up2_ne _ _ (by omega)) (Eq.trans (up2_ne _ _ (by omega)) (Eq.trans (up2_ne _ _ (by omega)) (Eq.trans (up2_ne _ _ (by omega)) (by first | assumption | exact up2_same _ _ _ _))))) | rfl) ?_
        refine r_icmpN_ge 69 dX10_sendOne_62 (by decide) (by omega) (by omega) (fun h62 => ?_) (fun h62 => ?_)
        · omega
        · refine r_iconst (v := nI 1) dX10_sendOne_65 (by decide) ?_
          refine r_goto 70 dX10_sendOne_66 (by decide) ?_
          refine r_bast dX10_sendOne_70 (by first | exact b2_nar _ | decide) (by assumption) (by omega) (by omega) ?_
          refine r_aload_n 0 dX10_sendOne_71 rfl rfl ?_
          refine r_getR dX10_sendOne_72 fl_RX10_29 rfl (by assumption) (by assumption) ?_
          refine r_iload_n 1 dX10_sendOne_75 rfl rfl ?_
          refine r_baldV dX10_sendOne_76 (by assumption) (by omega) (by omega) (by first | assumption | exact up2_same _ _ _ _ | exact (Eq.trans (up2_ne _ _ (by omega)) (by first | assumption | exact up2_same _ _ _ _)) | exact (Eq.trans (up2_ne _ _ (by omega)) (Eq.trans (up2_ne _ _ (by omega)) (by first | assumption | exact up2_same _ _ _ _))) | exact (Eq.trans (up2_ne _ _ (by omega)) (Eq.trans (up2_ne _ _ (by omega)) (Eq.trans (up2_ne _ _ (by omega)) (by first | assumption | exact up2_same _ _ _ _)))) | exact (Eq.trans (up2_ne _ _ (by omega)) (Eq.trans (up2_ne _ _ (by omega)) (Eq.trans (up2_ne _ _ (by omega)) (Eq.trans (up2_ne _ _ (by omega)) (by first | assumption | exact up2_same _ _ _ _))))) | rfl) ?_
          refine r_ifN_eq 203 dX10_sendOne_77 (by decide) (by omega) (fun h77 => ?_) (fun h77 => ?_)
          · refine r_vret dX10_sendOne_203 rfl (Nat.le_of_ble_eq_true rfl) (Nat.le_of_ble_eq_true rfl) ?_
            omega
          · refine r_iconst (v := nI 0) dX10_sendOne_80 (by decide) ?_
            refine r_istore_n 3 (ls2 := [_, _, _, _]) dX10_sendOne_81 rfl (by decide) (Nat.le_of_ble_eq_true rfl) rfl ?_
            exact KB 11 0 _ rfl rfl (fun q => by rw [if_neg (by omega), up2_row _ _ (by omega)]) (up2_row _ _ (by omega)) (fun x _ _ x3 => up2_row _ _ x3)
      · refine r_aload_n 0 dX10_sendOne_16 rfl rfl ?_
        refine r_getR dX10_sendOne_17 fl_RX10_7 rfl (by assumption) (by assumption) ?_
        refine r_iload_n 1 dX10_sendOne_20 rfl rfl ?_
        refine r_iload_n 2 dX10_sendOne_21 rfl rfl ?_
        refine r_callSp [_, _] dX10_sendOne_22 ok_RX10_95 isX10_slot rfl rfl (Nat.le_of_ble_eq_true rfl) (by refine ⟨?_, ?_, ?_, ?_⟩ <;> exact Nat.le_of_ble_eq_true rfl) (m_slot) ?_
        refine r_bipush (v := nI 11) dX10_sendOne_25 (by decide) ?_
        refine r_iaddN dX10_sendOne_27 ?_
        refine r_ialdV dX10_sendOne_28 (by assumption) (by omega) (by omega) (by first | assumption | exact up2_same _ _ _ _ | exact (Eq.trans (up2_ne _ _ (by omega)) (by first | assumption | exact up2_same _ _ _ _)) | exact (Eq.trans (up2_ne _ _ (by omega)) (Eq.trans (up2_ne _ _ (by omega)) (by first | assumption | exact up2_same _ _ _ _))) | exact (Eq.trans (up2_ne _ _ (by omega)) (Eq.trans (up2_ne _ _ (by omega)) (Eq.trans (up2_ne _ _ (by omega)) (by first | assumption | exact up2_same _ _ _ _)))) | exact (Eq.trans (up2_ne _ _ (by omega)) (Eq.trans (up2_ne _ _ (by omega)) (Eq.trans (up2_ne _ _ (by omega)) (Eq.trans (up2_ne _ _ (by omega)) (by first | assumption | exact up2_same _ _ _ _))))) | rfl) ?_
        refine r_aload_n 0 dX10_sendOne_29 rfl rfl ?_
        refine r_getR dX10_sendOne_30 fl_RX10_7 rfl (by assumption) (by assumption) ?_
        refine r_sipush (v := nI 1386) dX10_sendOne_33 (by decide) ?_
        refine r_ialdV dX10_sendOne_36 (by assumption) (by omega) (by omega) (by first | assumption | exact up2_same _ _ _ _ | exact (Eq.trans (up2_ne _ _ (by omega)) (by first | assumption | exact up2_same _ _ _ _)) | exact (Eq.trans (up2_ne _ _ (by omega)) (Eq.trans (up2_ne _ _ (by omega)) (by first | assumption | exact up2_same _ _ _ _))) | exact (Eq.trans (up2_ne _ _ (by omega)) (Eq.trans (up2_ne _ _ (by omega)) (Eq.trans (up2_ne _ _ (by omega)) (by first | assumption | exact up2_same _ _ _ _)))) | exact (Eq.trans (up2_ne _ _ (by omega)) (Eq.trans (up2_ne _ _ (by omega)) (Eq.trans (up2_ne _ _ (by omega)) (Eq.trans (up2_ne _ _ (by omega)) (by first | assumption | exact up2_same _ _ _ _))))) | rfl) ?_
        refine r_icmpN_le 46 dX10_sendOne_37 (by decide) (by omega) (by omega) (fun h37 => ?_) (fun h37 => ?_)
        · refine r_aload_n 0 dX10_sendOne_46 rfl rfl ?_
          refine r_getR dX10_sendOne_47 fl_RX10_29 rfl (by assumption) (by assumption) ?_
          refine r_iload_n 1 dX10_sendOne_50 rfl rfl ?_
          refine r_iload_n 2 dX10_sendOne_51 rfl rfl ?_
          refine r_aload_n 0 dX10_sendOne_52 rfl rfl ?_
          refine r_getR dX10_sendOne_53 fl_RX10_7 rfl (by assumption) (by assumption) ?_
          refine r_sipush (v := nI 150) dX10_sendOne_56 (by decide) ?_
          refine r_iload_n 1 dX10_sendOne_59 rfl rfl ?_
          refine r_iaddN dX10_sendOne_60 ?_
          refine r_ialdV dX10_sendOne_61 (by assumption) (by omega) (by omega) (by first | assumption | exact up2_same _ _ _ _ | exact (Eq.trans (up2_ne _ _ (by omega)) (by first | assumption | exact up2_same _ _ _ _)) | exact (Eq.trans (up2_ne _ _ (by omega)) (Eq.trans (up2_ne _ _ (by omega)) (by first | assumption | exact up2_same _ _ _ _))) | exact (Eq.trans (up2_ne _ _ (by omega)) (Eq.trans (up2_ne _ _ (by omega)) (Eq.trans (up2_ne _ _ (by omega)) (by first | assumption | exact up2_same _ _ _ _)))) | exact (Eq.trans (up2_ne _ _ (by omega)) (Eq.trans (up2_ne _ _ (by omega)) (Eq.trans (up2_ne _ _ (by omega)) (Eq.trans (up2_ne _ _ (by omega)) (by first | assumption | exact up2_same _ _ _ _))))) | rfl) ?_
          refine r_icmpN_ge 69 dX10_sendOne_62 (by decide) (by omega) (by omega) (fun h62 => ?_) (fun h62 => ?_)
          · omega
          · refine r_iconst (v := nI 1) dX10_sendOne_65 (by decide) ?_
            refine r_goto 70 dX10_sendOne_66 (by decide) ?_
            refine r_bast dX10_sendOne_70 (by first | exact b2_nar _ | decide) (by assumption) (by omega) (by omega) ?_
            refine r_aload_n 0 dX10_sendOne_71 rfl rfl ?_
            refine r_getR dX10_sendOne_72 fl_RX10_29 rfl (by assumption) (by assumption) ?_
            refine r_iload_n 1 dX10_sendOne_75 rfl rfl ?_
            refine r_baldV dX10_sendOne_76 (by assumption) (by omega) (by omega) (by first | assumption | exact up2_same _ _ _ _ | exact (Eq.trans (up2_ne _ _ (by omega)) (by first | assumption | exact up2_same _ _ _ _)) | exact (Eq.trans (up2_ne _ _ (by omega)) (Eq.trans (up2_ne _ _ (by omega)) (by first | assumption | exact up2_same _ _ _ _))) | exact (Eq.trans (up2_ne _ _ (by omega)) (Eq.trans (up2_ne _ _ (by omega)) (Eq.trans (up2_ne _ _ (by omega)) (by first | assumption | exact up2_same _ _ _ _)))) | exact (Eq.trans (up2_ne _ _ (by omega)) (Eq.trans (up2_ne _ _ (by omega)) (Eq.trans (up2_ne _ _ (by omega)) (Eq.trans (up2_ne _ _ (by omega)) (by first | assumption | exact up2_same _ _ _ _))))) | rfl) ?_
            refine r_ifN_eq 203 dX10_sendOne_77 (by decide) (by omega) (fun h77 => ?_) (fun h77 => ?_)
            · refine r_vret dX10_sendOne_203 rfl (Nat.le_of_ble_eq_true rfl) (Nat.le_of_ble_eq_true rfl) ?_
              omega
            · refine r_iconst (v := nI 0) dX10_sendOne_80 (by decide) ?_
              refine r_istore_n 3 (ls2 := [_, _, _, _]) dX10_sendOne_81 rfl (by decide) (Nat.le_of_ble_eq_true rfl) rfl ?_
              exact KB 11 0 _ rfl rfl (fun q => by rw [if_neg (by omega), up2_row _ _ (by omega)]) (up2_row _ _ (by omega)) (fun x _ _ x3 => up2_row _ _ x3)
        · omega
    | succ t ih =>
      intro i hi
      obtain ⟨q, hq⟩ := gl_ex (l := l) (i := i) (by omega)
      have hqn := fi_bef (p := fun q => decide (q.2 ≤ now)) (show i < l.findIdx (fun q => decide (q.2 ≤ now)) by show i < duIx l now; omega) hq
      have hqd : now < q.2 := by simpa using hqn
      have hq30 := hdu q (gl_mem hq)
      have hvv := (hK.2 i q hq).2
      refine r_iload_n 2 dX10_sendOne_2 rfl rfl ?_
      refine r_aload_n 0 dX10_sendOne_3 rfl rfl ?_
      refine r_getR dX10_sendOne_4 fl_RX10_7 rfl (by assumption) (by assumption) ?_
      refine r_sipush (v := nI 150) dX10_sendOne_7 (by decide) ?_
      refine r_iload_n 1 dX10_sendOne_10 rfl rfl ?_
      refine r_iaddN dX10_sendOne_11 ?_
      refine r_ialdV dX10_sendOne_12 (by assumption) (by omega) (by omega) (by first | assumption | exact up2_same _ _ _ _ | exact (Eq.trans (up2_ne _ _ (by omega)) (by first | assumption | exact up2_same _ _ _ _)) | exact (Eq.trans (up2_ne _ _ (by omega)) (Eq.trans (up2_ne _ _ (by omega)) (by first | assumption | exact up2_same _ _ _ _))) | exact (Eq.trans (up2_ne _ _ (by omega)) (Eq.trans (up2_ne _ _ (by omega)) (Eq.trans (up2_ne _ _ (by omega)) (by first | assumption | exact up2_same _ _ _ _)))) | exact (Eq.trans (up2_ne _ _ (by omega)) (Eq.trans (up2_ne _ _ (by omega)) (Eq.trans (up2_ne _ _ (by omega)) (Eq.trans (up2_ne _ _ (by omega)) (by first | assumption | exact up2_same _ _ _ _))))) | rfl) ?_
      refine r_icmpN_ge 46 dX10_sendOne_13 (by decide) (by omega) (by omega) (fun h13 => ?_) (fun h13 => ?_)
      · omega
      · refine r_aload_n 0 dX10_sendOne_16 rfl rfl ?_
        refine r_getR dX10_sendOne_17 fl_RX10_7 rfl (by assumption) (by assumption) ?_
        refine r_iload_n 1 dX10_sendOne_20 rfl rfl ?_
        refine r_iload_n 2 dX10_sendOne_21 rfl rfl ?_
        refine r_callSp [_, _] dX10_sendOne_22 ok_RX10_95 isX10_slot rfl rfl (Nat.le_of_ble_eq_true rfl) (by refine ⟨?_, ?_, ?_, ?_⟩ <;> exact Nat.le_of_ble_eq_true rfl) (m_slot) ?_
        refine r_bipush (v := nI 11) dX10_sendOne_25 (by decide) ?_
        refine r_iaddN dX10_sendOne_27 ?_
        refine r_ialdV dX10_sendOne_28 (by assumption) (by omega) (by omega) (by first | assumption | exact up2_same _ _ _ _ | exact (Eq.trans (up2_ne _ _ (by omega)) (by first | assumption | exact up2_same _ _ _ _)) | exact (Eq.trans (up2_ne _ _ (by omega)) (Eq.trans (up2_ne _ _ (by omega)) (by first | assumption | exact up2_same _ _ _ _))) | exact (Eq.trans (up2_ne _ _ (by omega)) (Eq.trans (up2_ne _ _ (by omega)) (Eq.trans (up2_ne _ _ (by omega)) (by first | assumption | exact up2_same _ _ _ _)))) | exact (Eq.trans (up2_ne _ _ (by omega)) (Eq.trans (up2_ne _ _ (by omega)) (Eq.trans (up2_ne _ _ (by omega)) (Eq.trans (up2_ne _ _ (by omega)) (by first | assumption | exact up2_same _ _ _ _))))) | rfl) ?_
        refine r_aload_n 0 dX10_sendOne_29 rfl rfl ?_
        refine r_getR dX10_sendOne_30 fl_RX10_7 rfl (by assumption) (by assumption) ?_
        refine r_sipush (v := nI 1386) dX10_sendOne_33 (by decide) ?_
        refine r_ialdV dX10_sendOne_36 (by assumption) (by omega) (by omega) (by first | assumption | exact up2_same _ _ _ _ | exact (Eq.trans (up2_ne _ _ (by omega)) (by first | assumption | exact up2_same _ _ _ _)) | exact (Eq.trans (up2_ne _ _ (by omega)) (Eq.trans (up2_ne _ _ (by omega)) (by first | assumption | exact up2_same _ _ _ _))) | exact (Eq.trans (up2_ne _ _ (by omega)) (Eq.trans (up2_ne _ _ (by omega)) (Eq.trans (up2_ne _ _ (by omega)) (by first | assumption | exact up2_same _ _ _ _)))) | exact (Eq.trans (up2_ne _ _ (by omega)) (Eq.trans (up2_ne _ _ (by omega)) (Eq.trans (up2_ne _ _ (by omega)) (Eq.trans (up2_ne _ _ (by omega)) (by first | assumption | exact up2_same _ _ _ _))))) | rfl) ?_
        refine r_icmpN_le 46 dX10_sendOne_37 (by decide) (by omega) (by omega) (fun h37 => ?_) (fun h37 => ?_)
        · omega
        · refine r_iincN 2 (b := 1) (ls2 := [_, _, _]) dX10_sendOne_40 rfl (by decide) (by decide) rfl ?_
          refine r_goto 2 dX10_sendOne_43 (by decide) ?_
          exact ih (i + 1) (by omega)
  refine Mv.of pnX10_sendOne (Nat.le_of_ble_eq_true rfl) rfl ?_
  refine r_iconst (v := nI 0) dX10_sendOne_0 (by decide) ?_
  refine r_istore_n 2 (ls2 := [_, _, _]) dX10_sendOne_1 rfl (by decide) (Nat.le_of_ble_eq_true rfl) rfl ?_
  exact H d 0 (by omega)
end RSONE
