section RSUM
variable {z : Nat} {sh : SH} {mi : MI} {mr : MR} {o : Nat}
theorem m_kept (hL : LM sh mr o) {n : Nt} (hN : ∀ s, s < 6 → mi (o + 1) (150 + s) = nI (n.1 s).2.2.1.length) : Mp mX10_keptByAll 0 [.ref o] z sh mi mr (nI (keptA n)) := by
  obtain ⟨l0, ⟨l1, l2⟩, -⟩ := id hL
  have H : ∀ t i : Nat, i + t = 6 → Wp yX10_keptByAll cX10_keptByAll 3 (some .int) (EP 0 z sh mr mi (nI (keptA n))) 0 0 4 [.ref o, .int (nI (psum (fun s => (n.1 s).2.2.1.length) i)), .int (nI i)] [] z sh mi mr := by
    intro t
    induction t with
    | zero =>
      intro i hi
      have hi : i = 6 := hi
      subst hi
      rw [psum6]
      refine r_iload_n 2 dX10_keptByAll_4 rfl rfl ?_
      refine r_bipush (v := nI 6) dX10_keptByAll_5 (by decide) ?_
      refine r_icmpN_ge 29 dX10_keptByAll_7 (by decide) (by omega) (by omega) (fun h7 => ?_) (fun h7 => ?_)
      · refine r_iload_n 1 dX10_keptByAll_29 rfl rfl ?_
        refine r_iret dX10_keptByAll_30 rfl (Nat.le_of_ble_eq_true rfl) (Nat.le_of_ble_eq_true rfl) ?_
        exact ⟨rfl, rfl, rfl, rfl, rfl⟩
      · omega
    | succ t ih =>
      intro i hi
      have hv := hN i (by omega)
      refine r_iload_n 2 dX10_keptByAll_4 rfl rfl ?_
      refine r_bipush (v := nI 6) dX10_keptByAll_5 (by decide) ?_
      refine r_icmpN_ge 29 dX10_keptByAll_7 (by decide) (by omega) (by omega) (fun h7 => ?_) (fun h7 => ?_)
      · omega
      · refine r_iload_n 1 dX10_keptByAll_10 rfl rfl ?_
        refine r_aload_n 0 dX10_keptByAll_11 rfl rfl ?_
        refine r_getR dX10_keptByAll_12 fl_RX10_7 rfl (by assumption) (by assumption) ?_
        refine r_sipush (v := nI 150) dX10_keptByAll_15 (by decide) ?_
        refine r_iload_n 2 dX10_keptByAll_18 rfl rfl ?_
        refine r_iaddN dX10_keptByAll_19 ?_
        refine r_ialdV dX10_keptByAll_20 (by assumption) (by omega) (by omega) (by first | assumption | exact up2_same _ _ _ _ | exact (Eq.trans (up2_ne _ _ (by omega)) (by first | assumption | exact up2_same _ _ _ _)) | exact (Eq.trans (up2_ne _ _ (by omega)) (Eq.trans (up2_ne _ _ (by omega)) (by first | assumption | exact up2_same _ _ _ _))) | exact (Eq.trans (up2_ne _ _ (by omega)) (Eq.trans (up2_ne _ _ (by omega)) (Eq.trans (up2_ne _ _ (by omega)) (by first | assumption | exact up2_same _ _ _ _)))) | exact (Eq.trans (up2_ne _ _ (by omega)) (Eq.trans (up2_ne _ _ (by omega)) (Eq.trans (up2_ne _ _ (by omega)) (Eq.trans (up2_ne _ _ (by omega)) (by first | assumption | exact up2_same _ _ _ _))))) | rfl) ?_
        refine r_iaddN dX10_keptByAll_21 ?_
        refine r_istore_n 1 (ls2 := [_, _, _]) dX10_keptByAll_22 rfl (by decide) (Nat.le_of_ble_eq_true rfl) rfl ?_
        refine r_iincN 2 (b := 1) (ls2 := [_, _, _]) dX10_keptByAll_23 rfl (by decide) (by decide) rfl ?_
        refine r_goto 4 dX10_keptByAll_26 (by decide) ?_
        exact ih (i + 1) (by omega)
  refine Mv.of pnX10_keptByAll (Nat.le_of_ble_eq_true rfl) rfl ?_
  refine r_iconst (v := nI 0) dX10_keptByAll_0 (by decide) ?_
  refine r_istore_n 1 (ls2 := [_, _]) dX10_keptByAll_1 rfl (by decide) (Nat.le_of_ble_eq_true rfl) rfl ?_
  refine r_iconst (v := nI 0) dX10_keptByAll_2 (by decide) ?_
  refine r_istore_n 2 (ls2 := [_, _, _]) dX10_keptByAll_3 rfl (by decide) (Nat.le_of_ble_eq_true rfl) rfl ?_
  exact H 6 0 rfl
theorem m_sumOf (hL : LM sh mr o) {n : Nt} {w : Nat} (hw : w < 9) (hN : ∀ s, s < 6 → mi (o + 1) (96 + 6 * w + s) = nI ((n.1 s).2.1 w)) : Mp mX10_sumOf 0 [.ref o, .int (nI w)] z sh mi mr (nI (sum6 (fun s => (n.1 s).2.1 w))) := by
  obtain ⟨l0, ⟨l1, l2⟩, -⟩ := id hL
  have H : ∀ t i : Nat, i + t = 6 → Wp yX10_sumOf cX10_sumOf 4 (some .int) (EP 0 z sh mr mi (nI (sum6 (fun s => (n.1 s).2.1 w)))) 0 0 4 [.ref o, .int (nI w), .int (nI (psum (fun s => (n.1 s).2.1 w) i)), .int (nI i)] [] z sh mi mr := by
    intro t
    induction t with
    | zero =>
      intro i hi
      have hi : i = 6 := hi
      subst hi
      rw [psum6]
      refine r_iload_n 3 dX10_sumOf_4 rfl rfl ?_
      refine r_bipush (v := nI 6) dX10_sumOf_5 (by decide) ?_
      refine r_icmpN_ge 33 dX10_sumOf_7 (by decide) (by omega) (by omega) (fun h7 => ?_) (fun h7 => ?_)
      · refine r_iload_n 2 dX10_sumOf_33 rfl rfl ?_
        refine r_iret dX10_sumOf_34 rfl (Nat.le_of_ble_eq_true rfl) (Nat.le_of_ble_eq_true rfl) ?_
        exact ⟨rfl, rfl, rfl, rfl, rfl⟩
      · omega
    | succ t ih =>
      intro i hi
      have hv := hN i (by omega)
      refine r_iload_n 3 dX10_sumOf_4 rfl rfl ?_
      refine r_bipush (v := nI 6) dX10_sumOf_5 (by decide) ?_
      refine r_icmpN_ge 33 dX10_sumOf_7 (by decide) (by omega) (by omega) (fun h7 => ?_) (fun h7 => ?_)
      · omega
      · refine r_iload_n 2 dX10_sumOf_10 rfl rfl ?_
        refine r_aload_n 0 dX10_sumOf_11 rfl rfl ?_
        refine r_getR dX10_sumOf_12 fl_RX10_7 rfl (by assumption) (by assumption) ?_
        refine r_bipush (v := nI 96) dX10_sumOf_15 (by decide) ?_
        refine r_bipush (v := nI 6) dX10_sumOf_17 (by decide) ?_
        refine r_iload_n 1 dX10_sumOf_19 rfl rfl ?_
        refine r_imulN dX10_sumOf_20 ?_
        refine r_iaddN dX10_sumOf_21 ?_
        refine r_iload_n 3 dX10_sumOf_22 rfl rfl ?_
        refine r_iaddN dX10_sumOf_23 ?_
        refine r_ialdV dX10_sumOf_24 (by assumption) (by omega) (by omega) (by first | assumption | exact up2_same _ _ _ _ | exact (Eq.trans (up2_ne _ _ (by omega)) (by first | assumption | exact up2_same _ _ _ _)) | exact (Eq.trans (up2_ne _ _ (by omega)) (Eq.trans (up2_ne _ _ (by omega)) (by first | assumption | exact up2_same _ _ _ _))) | exact (Eq.trans (up2_ne _ _ (by omega)) (Eq.trans (up2_ne _ _ (by omega)) (Eq.trans (up2_ne _ _ (by omega)) (by first | assumption | exact up2_same _ _ _ _)))) | exact (Eq.trans (up2_ne _ _ (by omega)) (Eq.trans (up2_ne _ _ (by omega)) (Eq.trans (up2_ne _ _ (by omega)) (Eq.trans (up2_ne _ _ (by omega)) (by first | assumption | exact up2_same _ _ _ _))))) | rfl) ?_
        refine r_iaddN dX10_sumOf_25 ?_
        refine r_istore_n 2 (ls2 := [_, _, _, _]) dX10_sumOf_26 rfl (by decide) (Nat.le_of_ble_eq_true rfl) rfl ?_
        refine r_iincN 3 (b := 1) (ls2 := [_, _, _, _]) dX10_sumOf_27 rfl (by decide) (by decide) rfl ?_
        refine r_goto 4 dX10_sumOf_30 (by decide) ?_
        exact ih (i + 1) (by omega)
  refine Mv.of pnX10_sumOf (Nat.le_of_ble_eq_true rfl) rfl ?_
  refine r_iconst (v := nI 0) dX10_sumOf_0 (by decide) ?_
  refine r_istore_n 2 (ls2 := [_, _, _]) dX10_sumOf_1 rfl (by decide) (Nat.le_of_ble_eq_true rfl) rfl ?_
  refine r_iconst (v := nI 0) dX10_sumOf_2 (by decide) ?_
  refine r_istore_n 3 (ls2 := [_, _, _, _]) dX10_sumOf_3 rfl (by decide) (Nat.le_of_ble_eq_true rfl) rfl ?_
  exact H 6 0 rfl
theorem psum_1 {f : Nat → Nat} (h : ∀ j, f j ≤ 1) : ∀ i, psum f i ≤ i
  | 0 => Nat.le_refl _
  | i + 1 => by have := psum_1 h i; have := h i; unfold psum; omega
theorem psum_36 (nr : Nat → Nat → Bool) : psum (fun i => bn (nr (i / 6) (i % 6))) 36 = sum6 (fun s => cn6 (nr s)) := by
  simp [psum, sum6, cn6]
  omega
theorem m_pairs (hL : LM sh mr o) {nr : Nat → Nat → Bool} (hN : NrM (mi (o + 1)) nr) : Mp mX10_pairs 0 [.ref o] z sh mi mr (nI (sum6 (fun s => cn6 (nr s)) / 2)) := by
  obtain ⟨l0, ⟨l1, l2⟩, -⟩ := id hL
  rw [← psum_36]
  have hb := psum_1 (f := fun i => bn (nr (i / 6) (i % 6))) (fun j => bn_le _) 36
  have H : ∀ t i : Nat, i + t = 36 → Wp yX10_pairs cX10_pairs 3 (some .int) (EP 0 z sh mr mi (nI (psum (fun i => bn (nr (i / 6) (i % 6))) 36 / 2))) 0 0 4 [.ref o, .int (nI (psum (fun i => bn (nr (i / 6) (i % 6))) i)), .int (nI i)] [] z sh mi mr := by
    intro t
    induction t with
    | zero =>
      intro i hi
      have hi : i = 36 := hi
      subst hi
      generalize psum (fun i => bn (nr (i / 6) (i % 6))) 36 = S at hb ⊢
      refine r_iload_n 2 dX10_pairs_4 rfl rfl ?_
      refine r_bipush (v := nI 36) dX10_pairs_5 (by decide) ?_
      refine r_icmpN_ge 28 dX10_pairs_7 (by decide) (by omega) (by omega) (fun h7 => ?_) (fun h7 => ?_)
      · refine r_iload_n 1 dX10_pairs_28 rfl rfl ?_
        refine r_iconst (v := nI 2) dX10_pairs_29 (by decide) ?_
        refine r_idivN dX10_pairs_30 (by omega) (by omega) (by omega) ?_
        refine r_iret dX10_pairs_31 rfl (Nat.le_of_ble_eq_true rfl) (Nat.le_of_ble_eq_true rfl) ?_
        exact ⟨rfl, rfl, rfl, rfl, rfl⟩
      · omega
    | succ t ih =>
      intro i hi
      have hv := hN (i / 6) (i % 6) (by omega) (by omega)
      rw [show 60 + 6 * (i / 6) + i % 6 = 60 + i by omega] at hv
      refine r_iload_n 2 dX10_pairs_4 rfl rfl ?_
      refine r_bipush (v := nI 36) dX10_pairs_5 (by decide) ?_
      refine r_icmpN_ge 28 dX10_pairs_7 (by decide) (by omega) (by omega) (fun h7 => ?_) (fun h7 => ?_)
      · omega
      · refine r_iload_n 1 dX10_pairs_10 rfl rfl ?_
        refine r_aload_n 0 dX10_pairs_11 rfl rfl ?_
        refine r_getR dX10_pairs_12 fl_RX10_7 rfl (by assumption) (by assumption) ?_
        refine r_bipush (v := nI 60) dX10_pairs_15 (by decide) ?_
        refine r_iload_n 2 dX10_pairs_17 rfl rfl ?_
        refine r_iaddN dX10_pairs_18 ?_
        refine r_ialdV dX10_pairs_19 (by assumption) (by omega) (by omega) (by first | assumption | exact up2_same _ _ _ _ | exact (Eq.trans (up2_ne _ _ (by omega)) (by first | assumption | exact up2_same _ _ _ _)) | exact (Eq.trans (up2_ne _ _ (by omega)) (Eq.trans (up2_ne _ _ (by omega)) (by first | assumption | exact up2_same _ _ _ _))) | exact (Eq.trans (up2_ne _ _ (by omega)) (Eq.trans (up2_ne _ _ (by omega)) (Eq.trans (up2_ne _ _ (by omega)) (by first | assumption | exact up2_same _ _ _ _)))) | exact (Eq.trans (up2_ne _ _ (by omega)) (Eq.trans (up2_ne _ _ (by omega)) (Eq.trans (up2_ne _ _ (by omega)) (Eq.trans (up2_ne _ _ (by omega)) (by first | assumption | exact up2_same _ _ _ _))))) | rfl) ?_
        refine r_iaddN dX10_pairs_20 ?_
        refine r_istore_n 1 (ls2 := [_, _, _]) dX10_pairs_21 rfl (by decide) (Nat.le_of_ble_eq_true rfl) rfl ?_
        refine r_iincN 2 (b := 1) (ls2 := [_, _, _]) dX10_pairs_22 rfl (by decide) (by decide) rfl ?_
        refine r_goto 4 dX10_pairs_25 (by decide) ?_
        exact ih (i + 1) (by omega)
  refine Mv.of pnX10_pairs (Nat.le_of_ble_eq_true rfl) rfl ?_
  refine r_iconst (v := nI 0) dX10_pairs_0 (by decide) ?_
  refine r_istore_n 1 (ls2 := [_, _]) dX10_pairs_1 rfl (by decide) (Nat.le_of_ble_eq_true rfl) rfl ?_
  refine r_iconst (v := nI 0) dX10_pairs_2 (by decide) ?_
  refine r_istore_n 2 (ls2 := [_, _, _]) dX10_pairs_3 rfl (by decide) (Nat.le_of_ble_eq_true rfl) rfl ?_
  exact H 36 0 rfl
theorem lsF_fs {g : Nat → Bool} (hu : ∀ s t, s < 6 → t < 6 → g s = true → g t = true → s = t) : lsF g 6 = (match fs6 g with | some q => nI q | none => -6) := by
  cases hf : fs6 g with
  | none =>
    have h0 : ∀ j, j < 6 → g j = false := fun j hj => by
      unfold fs6 at hf
      rw [List.find?_eq_none] at hf
      simpa using hf j (List.mem_range.mpr hj)
    have key : ∀ i, i ≤ 6 → lsF g i = -6 := by
      intro i
      induction i with
      | zero => intro _; rfl
      | succ i ih => intro hi; unfold lsF; rw [if_neg (by rw [h0 i (by omega)]; decide)]; exact ih (by omega)
    exact key 6 (Nat.le_refl _)
  | some q =>
    have hq6 := fs6_lt hf
    have hq : g q = true := List.find?_some hf
    have key : ∀ i, i ≤ 6 → lsF g i = if q < i then nI q else -6 := by
      intro i
      induction i with
      | zero => intro _; rfl
      | succ i ih =>
        intro hi
        unfold lsF
        by_cases hg : g i = true
        · have e := hu i q (by omega) hq6 hg hq
          rw [if_pos hg, if_pos (by omega), e]
        · have e : i ≠ q := fun e => hg (by rw [e]; exact hq)
          rw [if_neg hg, ih (by omega)]
          by_cases hqi : q < i
          · rw [if_pos hqi, if_pos (by omega)]
          · rw [if_neg hqi, if_neg (by omega)]
    rw [key 6 (Nat.le_refl _), if_pos hq6]
theorem m_stationOf (hL : LM sh mr o) {c : Nat → Nm} (hc : ∀ s, s < 6 → mi (o + 1) (0 + s) = nI (en 27 (c s)) ∧ okL 3 (c s)) (hu : ∀ s t, s < 6 → t < 6 → c s = c t → s = t) {nm : Nm} (hnm : okL 3 nm) : Mp mX10_stationOf 0 [.ref o, .int (nI (en 27 nm))] z sh mi mr (match fs6 (fun s => c s == nm) with | some q => nI q | none => -6) := by
  obtain ⟨l0, ⟨l1, l2⟩, -⟩ := id hL
  have e1 := okL_27 hnm
  refine Mp.of ?_ (lsF_fs (g := fun s => c s == nm) (fun s t hs ht a b => hu s t hs ht ((by simpa using a : c s = nm).trans (by simpa using b : c t = nm).symm)))
  have H : ∀ t i : Nat, i + t = 6 → Wp yX10_stationOf cX10_stationOf 4 (some .int) (EP 0 z sh mr mi (lsF (fun s => c s == nm) 6)) 0 0 5 [.ref o, .int (nI (en 27 nm)), .int (lsF (fun s => c s == nm) i), .int (nI i)] [] z sh mi mr := by
    intro t
    induction t with
    | zero =>
      intro i hi
      have hi : i = 6 := hi
      subst hi
      refine r_iload_n 3 dX10_stationOf_5 rfl rfl ?_
      refine r_bipush (v := nI 6) dX10_stationOf_6 (by decide) ?_
      refine r_icmpN_ge 35 dX10_stationOf_8 (by decide) (by omega) (by omega) (fun h8 => ?_) (fun h8 => ?_)
      · refine r_iload_n 2 dX10_stationOf_35 rfl rfl ?_
        refine r_iret dX10_stationOf_36 rfl (Nat.le_of_ble_eq_true rfl) (Nat.le_of_ble_eq_true rfl) ?_
        exact ⟨rfl, rfl, rfl, rfl, rfl⟩
      · omega
    | succ t ih =>
      intro i hi
      obtain ⟨hv, hk⟩ := hc i (by omega)
      have e2 := okL_27 hk
      have hin := okL_inj (b := 27) hk hnm (by omega)
      have hih := ih (i + 1) (by omega)
      rw [show lsF (fun s => c s == nm) (i + 1) = if (c i == nm) = true then nI i else lsF (fun s => c s == nm) i from rfl] at hih
      refine r_iload_n 3 dX10_stationOf_5 rfl rfl ?_
      refine r_bipush (v := nI 6) dX10_stationOf_6 (by decide) ?_
      refine r_icmpN_ge 35 dX10_stationOf_8 (by decide) (by omega) (by omega) (fun h8 => ?_) (fun h8 => ?_)
      · omega
      · refine r_aload_n 0 dX10_stationOf_11 rfl rfl ?_
        refine r_getR dX10_stationOf_12 fl_RX10_7 rfl (by assumption) (by assumption) ?_
        refine r_iconst (v := nI 0) dX10_stationOf_15 (by decide) ?_
        refine r_iload_n 3 dX10_stationOf_16 rfl rfl ?_
        refine r_iaddN dX10_stationOf_17 ?_
        refine r_ialdV dX10_stationOf_18 (by assumption) (by omega) (by omega) (by first | assumption | exact up2_same _ _ _ _ | exact (Eq.trans (up2_ne _ _ (by omega)) (by first | assumption | exact up2_same _ _ _ _)) | exact (Eq.trans (up2_ne _ _ (by omega)) (Eq.trans (up2_ne _ _ (by omega)) (by first | assumption | exact up2_same _ _ _ _))) | exact (Eq.trans (up2_ne _ _ (by omega)) (Eq.trans (up2_ne _ _ (by omega)) (Eq.trans (up2_ne _ _ (by omega)) (by first | assumption | exact up2_same _ _ _ _)))) | exact (Eq.trans (up2_ne _ _ (by omega)) (Eq.trans (up2_ne _ _ (by omega)) (Eq.trans (up2_ne _ _ (by omega)) (Eq.trans (up2_ne _ _ (by omega)) (by first | assumption | exact up2_same _ _ _ _))))) | rfl) ?_
        refine r_iload_n 1 dX10_stationOf_19 rfl rfl ?_
        refine r_icmpN_ne 27 dX10_stationOf_20 (by decide) (by omega) (by omega) (fun h20 => ?_) (fun h20 => ?_)
        · refine r_iload_n 2 dX10_stationOf_27 rfl rfl ?_
          refine r_istore_n 2 (ls2 := [_, _, _, _]) dX10_stationOf_28 rfl (by decide) (Nat.le_of_ble_eq_true rfl) rfl ?_
          refine r_iincN 3 (b := 1) (ls2 := [_, _, _, _]) dX10_stationOf_29 rfl (by decide) (by decide) rfl ?_
          refine r_goto 5 dX10_stationOf_32 (by decide) ?_
          first | (rw [if_pos (show (c i == nm) = true by simpa using hin.mp h20)] at hih; exact hih) | (rw [if_neg (show ¬ (c i == nm) = true by simpa using fun e => h20 (hin.mpr e))] at hih; exact hih)
        · refine r_iload_n 3 dX10_stationOf_23 rfl rfl ?_
          refine r_goto 28 dX10_stationOf_24 (by decide) ?_
          refine r_istore_n 2 (ls2 := [_, _, _, _]) dX10_stationOf_28 rfl (by decide) (Nat.le_of_ble_eq_true rfl) rfl ?_
          refine r_iincN 3 (b := 1) (ls2 := [_, _, _, _]) dX10_stationOf_29 rfl (by decide) (by decide) rfl ?_
          refine r_goto 5 dX10_stationOf_32 (by decide) ?_
          first | (rw [if_pos (show (c i == nm) = true by simpa using hin.mp h20)] at hih; exact hih) | (rw [if_neg (show ¬ (c i == nm) = true by simpa using fun e => h20 (hin.mpr e))] at hih; exact hih)
  refine Mv.of pnX10_stationOf (Nat.le_of_ble_eq_true rfl) rfl ?_
  refine r_bipush (v := -6) dX10_stationOf_0 (by decide) ?_
  refine r_istore_n 2 (ls2 := [_, _, _]) dX10_stationOf_2 rfl (by decide) (Nat.le_of_ble_eq_true rfl) rfl ?_
  refine r_iconst (v := nI 0) dX10_stationOf_3 (by decide) ?_
  refine r_istore_n 3 (ls2 := [_, _, _, _]) dX10_stationOf_4 rfl (by decide) (Nat.le_of_ble_eq_true rfl) rfl ?_
  exact H 6 0 rfl
theorem m_words (hL : LM sh mr o) {s v : Nat} (hs : s < 6) (hv : mi (o + 1) (1314 + 11 * s + 2) = nI v) : Mp mX10_words 0 [.ref o, .int (nI s)] z sh mi mr (nI v) := by
  obtain ⟨l0, ⟨l1, l2⟩, -⟩ := id hL
  refine Mv.of pnX10_words (Nat.le_of_ble_eq_true rfl) rfl ?_
  refine r_aload_n 0 dX10_words_0 rfl rfl ?_
  refine r_getR dX10_words_1 fl_RX10_7 rfl (by assumption) (by assumption) ?_
  refine r_sipush (v := nI 1314) dX10_words_4 (by decide) ?_
  refine r_bipush (v := nI 11) dX10_words_7 (by decide) ?_
  refine r_iload_n 1 dX10_words_9 rfl rfl ?_
  refine r_imulN dX10_words_10 ?_
  refine r_iaddN dX10_words_11 ?_
  refine r_iconst (v := nI 2) dX10_words_12 (by decide) ?_
  refine r_iaddN dX10_words_13 ?_
  refine r_ialdV dX10_words_14 (by assumption) (by omega) (by omega) (by first | assumption | exact up2_same _ _ _ _ | exact (Eq.trans (up2_ne _ _ (by omega)) (by first | assumption | exact up2_same _ _ _ _)) | exact (Eq.trans (up2_ne _ _ (by omega)) (Eq.trans (up2_ne _ _ (by omega)) (by first | assumption | exact up2_same _ _ _ _))) | exact (Eq.trans (up2_ne _ _ (by omega)) (Eq.trans (up2_ne _ _ (by omega)) (Eq.trans (up2_ne _ _ (by omega)) (by first | assumption | exact up2_same _ _ _ _)))) | exact (Eq.trans (up2_ne _ _ (by omega)) (Eq.trans (up2_ne _ _ (by omega)) (Eq.trans (up2_ne _ _ (by omega)) (Eq.trans (up2_ne _ _ (by omega)) (by first | assumption | exact up2_same _ _ _ _))))) | rfl) ?_
  refine r_iret dX10_words_15 rfl (Nat.le_of_ble_eq_true rfl) (Nat.le_of_ble_eq_true rfl) ?_
  exact ⟨rfl, rfl, rfl, rfl, rfl⟩
theorem m_word (hL : LM sh mr o) {s i v : Nat} (hs : s < 6) (hi : i < 8) (hv : mi (o + 1) (1314 + 11 * s + 3 + i) = nI v) : Mp mX10_word 0 [.ref o, .int (nI s), .int (nI i)] z sh mi mr (nI v) := by
  obtain ⟨l0, ⟨l1, l2⟩, -⟩ := id hL
  refine Mv.of pnX10_word (Nat.le_of_ble_eq_true rfl) rfl ?_
  refine r_aload_n 0 dX10_word_0 rfl rfl ?_
  refine r_getR dX10_word_1 fl_RX10_7 rfl (by assumption) (by assumption) ?_
  refine r_sipush (v := nI 1314) dX10_word_4 (by decide) ?_
  refine r_bipush (v := nI 11) dX10_word_7 (by decide) ?_
  refine r_iload_n 1 dX10_word_9 rfl rfl ?_
  refine r_imulN dX10_word_10 ?_
  refine r_iaddN dX10_word_11 ?_
  refine r_iconst (v := nI 3) dX10_word_12 (by decide) ?_
  refine r_iaddN dX10_word_13 ?_
  refine r_iload_n 2 dX10_word_14 rfl rfl ?_
  refine r_iaddN dX10_word_15 ?_
  refine r_ialdV dX10_word_16 (by assumption) (by omega) (by omega) (by first | assumption | exact up2_same _ _ _ _ | exact (Eq.trans (up2_ne _ _ (by omega)) (by first | assumption | exact up2_same _ _ _ _)) | exact (Eq.trans (up2_ne _ _ (by omega)) (Eq.trans (up2_ne _ _ (by omega)) (by first | assumption | exact up2_same _ _ _ _))) | exact (Eq.trans (up2_ne _ _ (by omega)) (Eq.trans (up2_ne _ _ (by omega)) (Eq.trans (up2_ne _ _ (by omega)) (by first | assumption | exact up2_same _ _ _ _)))) | exact (Eq.trans (up2_ne _ _ (by omega)) (Eq.trans (up2_ne _ _ (by omega)) (Eq.trans (up2_ne _ _ (by omega)) (Eq.trans (up2_ne _ _ (by omega)) (by first | assumption | exact up2_same _ _ _ _))))) | rfl) ?_
  refine r_iret dX10_word_17 rfl (Nat.le_of_ble_eq_true rfl) (Nat.le_of_ble_eq_true rfl) ?_
  exact ⟨rfl, rfl, rfl, rfl, rfl⟩
theorem cntP_take {α : Type} {l : List α} {f : α → Bool} {i : Nat} {x : α} (h : l[i]? = some x) : (l.take (i + 1)).countP f = (l.take i).countP f + bn (f x) := by
  rw [List.take_succ, h, List.countP_append]
  cases hf : f x <;> simp [bn, hf]
theorem m_spentWords (hL : LM sh mr o) {s : Nat} (hs : s < 6) {p : Pk} (hp : PkM (mi (o + 1)) (1314 + 11 * s) p) (hpk : okP p) : Mp mX10_spentWords 1 [.ref o, .int (nI s)] z sh mi mr (nI (p.2.2.countP (fun w => w.2.2))) := by
  obtain ⟨l0, ⟨l1, l2⟩, -⟩ := id hL
  have h8 := hpk.2.2.1
  have H : ∀ t i : Nat, i + t = p.2.2.length → Wp yX10_spentWords cX10_spentWords 4 (some .int) (EP 1 z sh mr mi (nI (p.2.2.countP (fun w => w.2.2)))) 0 0 4 [.ref o, .int (nI s), .int (nI ((p.2.2.take i).countP (fun w => w.2.2))), .int (nI i)] [] z sh mi mr := by
    intro t
    induction t with
    | zero =>
      intro i hi
      have hi : i = p.2.2.length := hi
      subst hi
      rw [List.take_length]
      refine r_iload_n 3 dX10_spentWords_4 rfl rfl ?_
      refine r_aload_n 0 dX10_spentWords_5 rfl rfl ?_
      refine r_iload_n 1 dX10_spentWords_6 rfl rfl ?_
      refine r_callVp [_] dX10_spentWords_7 ok_RX10_166 ivX10_words (by assumption) ⟨_, _, rfl⟩ rfl rfl (Nat.le_of_ble_eq_true rfl) (by refine ⟨?_, ?_, ?_, ?_⟩ <;> exact Nat.le_of_ble_eq_true rfl) (m_words hL hs hp.2.2.1) ?_
      refine r_icmpN_ge 39 dX10_spentWords_10 (by decide) (by omega) (by omega) (fun h10 => ?_) (fun h10 => ?_)
      · refine r_iload_n 2 dX10_spentWords_39 rfl rfl ?_
        refine r_iret dX10_spentWords_40 rfl (Nat.le_of_ble_eq_true rfl) (Nat.le_of_ble_eq_true rfl) ?_
        exact ⟨rfl, rfl, rfl, rfl, rfl⟩
      · omega
    | succ t ih =>
      intro i hi
      obtain ⟨w, hw⟩ := gl_ex (l := p.2.2) (i := i) (by omega)
      have hwk := hpk.2.2.2 w (gl_mem hw)
      have hih := ih (i + 1) (by omega)
      rw [cntP_take hw] at hih
      refine r_iload_n 3 dX10_spentWords_4 rfl rfl ?_
      refine r_aload_n 0 dX10_spentWords_5 rfl rfl ?_
      refine r_iload_n 1 dX10_spentWords_6 rfl rfl ?_
      refine r_callVp [_] dX10_spentWords_7 ok_RX10_166 ivX10_words (by assumption) ⟨_, _, rfl⟩ rfl rfl (Nat.le_of_ble_eq_true rfl) (by refine ⟨?_, ?_, ?_, ?_⟩ <;> exact Nat.le_of_ble_eq_true rfl) (m_words hL hs hp.2.2.1) ?_
      refine r_icmpN_ge 39 dX10_spentWords_10 (by decide) (by omega) (by omega) (fun h10 => ?_) (fun h10 => ?_)
      · omega
      · refine r_iload_n 2 dX10_spentWords_13 rfl rfl ?_
        refine r_aload_n 0 dX10_spentWords_14 rfl rfl ?_
        refine r_iload_n 1 dX10_spentWords_15 rfl rfl ?_
        refine r_iload_n 3 dX10_spentWords_16 rfl rfl ?_
        refine r_callVp [_, _] dX10_spentWords_17 ok_RX10_169 ivX10_word (by assumption) ⟨_, _, rfl⟩ rfl rfl (Nat.le_of_ble_eq_true rfl) (by refine ⟨?_, ?_, ?_, ?_⟩ <;> exact Nat.le_of_ble_eq_true rfl) (m_word hL hs (by omega) (hp.2.2.2 i w hw)) ?_
        refine r_callSp [_] dX10_spentWords_20 ok_RX10_135 isX10_isSpent rfl rfl (Nat.le_of_ble_eq_true rfl) (by refine ⟨?_, ?_, ?_, ?_⟩ <;> exact Nat.le_of_ble_eq_true rfl) (m_spW hwk) ?_
        refine r_ifB_eq 30 dX10_spentWords_23 (by decide) (fun h23 => ?_) (fun h23 => ?_)
        · refine r_iconst (v := nI 0) dX10_spentWords_30 (by decide) ?_
          refine r_iaddN dX10_spentWords_31 ?_
          refine r_istore_n 2 (ls2 := [_, _, _, _]) dX10_spentWords_32 rfl (by decide) (Nat.le_of_ble_eq_true rfl) rfl ?_
          refine r_iincN 3 (b := 1) (ls2 := [_, _, _, _]) dX10_spentWords_33 rfl (by decide) (by decide) rfl ?_
          refine r_goto 4 dX10_spentWords_36 (by decide) ?_
          rw [h23] at hih
          exact hih
        · refine r_iconst (v := nI 1) dX10_spentWords_26 (by decide) ?_
          refine r_goto 31 dX10_spentWords_27 (by decide) ?_
          refine r_iaddN dX10_spentWords_31 ?_
          refine r_istore_n 2 (ls2 := [_, _, _, _]) dX10_spentWords_32 rfl (by decide) (Nat.le_of_ble_eq_true rfl) rfl ?_
          refine r_iincN 3 (b := 1) (ls2 := [_, _, _, _]) dX10_spentWords_33 rfl (by decide) (by decide) rfl ?_
          refine r_goto 4 dX10_spentWords_36 (by decide) ?_
          rw [h23] at hih
          exact hih
  refine Mv.of pnX10_spentWords (Nat.le_of_ble_eq_true rfl) rfl ?_
  refine r_iconst (v := nI 0) dX10_spentWords_0 (by decide) ?_
  refine r_istore_n 2 (ls2 := [_, _, _]) dX10_spentWords_1 rfl (by decide) (Nat.le_of_ble_eq_true rfl) rfl ?_
  refine r_iconst (v := nI 0) dX10_spentWords_2 (by decide) ?_
  refine r_istore_n 3 (ls2 := [_, _, _, _]) dX10_spentWords_3 rfl (by decide) (Nat.le_of_ble_eq_true rfl) rfl ?_
  exact H p.2.2.length 0 (by omega)
theorem m_firstHops (hL : LM sh mr o) {s : Nat} (hs : s < 6) {p : Pk} (hp : PkM (mi (o + 1)) (1314 + 11 * s) p) (hpk : okP p) : Mp mX10_firstHops 1 [.ref o, .int (nI s)] z sh mi mr (match p.2.2[unIx p.2.2]? with | some u => nI u.2.1 | none => -6) := by
  obtain ⟨l0, ⟨l1, l2⟩, -⟩ := id hL
  have h8 := hpk.2.2.1
  have hule : unIx p.2.2 ≤ p.2.2.length := List.findIdx_le_length
  have H : ∀ t i : Nat, i + t = unIx p.2.2 → Wp yX10_firstHops cX10_firstHops 3 (some .int) (EP 1 z sh mr mi (match p.2.2[unIx p.2.2]? with | some u => nI u.2.1 | none => -6)) 0 0 2 [.ref o, .int (nI s), .int (nI i)] [] z sh mi mr := by
    intro t
    induction t with
    | zero =>
      intro i hi
      have hi : i = unIx p.2.2 := hi
      subst hi
      by_cases hu : unIx p.2.2 = p.2.2.length
      · rw [hu, List.getElem?_eq_none (Nat.le_refl _)]
        refine r_iload_n 2 dX10_firstHops_2 rfl rfl ?_
        refine r_aload_n 0 dX10_firstHops_3 rfl rfl ?_
        refine r_iload_n 1 dX10_firstHops_4 rfl rfl ?_
        refine r_callVp [_] dX10_firstHops_5 ok_RX10_166 ivX10_words (by assumption) ⟨_, _, rfl⟩ rfl rfl (Nat.le_of_ble_eq_true rfl) (by refine ⟨?_, ?_, ?_, ?_⟩ <;> exact Nat.le_of_ble_eq_true rfl) (m_words hL hs hp.2.2.1) ?_
        refine r_icmpN_ge 39 dX10_firstHops_8 (by decide) (by omega) (by omega) (fun h8 => ?_) (fun h8 => ?_)
        · refine r_bipush (v := -6) dX10_firstHops_39 (by decide) ?_
          refine r_iret dX10_firstHops_41 rfl (Nat.le_of_ble_eq_true rfl) (Nat.le_of_ble_eq_true rfl) ?_
          exact ⟨rfl, rfl, rfl, rfl, rfl⟩
        · omega
      · obtain ⟨w, hw, hwu⟩ := fi_lt (l := p.2.2) (p := fun w => !w.2.2) (by show unIx p.2.2 < _; omega)
        have hw : p.2.2[unIx p.2.2]? = some w := hw
        have hwu' : w.2.2 = false := by simpa using hwu
        have hwk := hpk.2.2.2 w (gl_mem hw)
        rw [hw]
        refine r_iload_n 2 dX10_firstHops_2 rfl rfl ?_
        refine r_aload_n 0 dX10_firstHops_3 rfl rfl ?_
        refine r_iload_n 1 dX10_firstHops_4 rfl rfl ?_
        refine r_callVp [_] dX10_firstHops_5 ok_RX10_166 ivX10_words (by assumption) ⟨_, _, rfl⟩ rfl rfl (Nat.le_of_ble_eq_true rfl) (by refine ⟨?_, ?_, ?_, ?_⟩ <;> exact Nat.le_of_ble_eq_true rfl) (m_words hL hs hp.2.2.1) ?_
        refine r_icmpN_ge 39 dX10_firstHops_8 (by decide) (by omega) (by omega) (fun h8 => ?_) (fun h8 => ?_)
        · omega
        · refine r_aload_n 0 dX10_firstHops_11 rfl rfl ?_
          refine r_iload_n 1 dX10_firstHops_12 rfl rfl ?_
          refine r_iload_n 2 dX10_firstHops_13 rfl rfl ?_
          refine r_callVp [_, _] dX10_firstHops_14 ok_RX10_169 ivX10_word (by assumption) ⟨_, _, rfl⟩ rfl rfl (Nat.le_of_ble_eq_true rfl) (by refine ⟨?_, ?_, ?_, ?_⟩ <;> exact Nat.le_of_ble_eq_true rfl) (m_word hL hs (by omega) (hp.2.2.2 _ w hw)) ?_
          refine r_callSp [_] dX10_firstHops_17 ok_RX10_135 isX10_isSpent rfl rfl (Nat.le_of_ble_eq_true rfl) (by refine ⟨?_, ?_, ?_, ?_⟩ <;> exact Nat.le_of_ble_eq_true rfl) (m_spW hwk) ?_
          rw [hwu']
          refine r_ifB_ne 33 dX10_firstHops_20 (by decide) (fun h20 => ?_) (fun h20 => ?_)
          · exact absurd h20 (by decide)
          · refine r_aload_n 0 dX10_firstHops_23 rfl rfl ?_
            refine r_iload_n 1 dX10_firstHops_24 rfl rfl ?_
            refine r_iload_n 2 dX10_firstHops_25 rfl rfl ?_
            refine r_callVp [_, _] dX10_firstHops_26 ok_RX10_169 ivX10_word (by assumption) ⟨_, _, rfl⟩ rfl rfl (Nat.le_of_ble_eq_true rfl) (by refine ⟨?_, ?_, ?_, ?_⟩ <;> exact Nat.le_of_ble_eq_true rfl) (m_word hL hs (by omega) (hp.2.2.2 _ w hw)) ?_
            refine r_callSp [_] dX10_firstHops_29 ok_RX10_144 isX10_hopsOf rfl rfl (Nat.le_of_ble_eq_true rfl) (by refine ⟨?_, ?_, ?_, ?_⟩ <;> exact Nat.le_of_ble_eq_true rfl) (m_hoW hwk) ?_
            refine r_iret dX10_firstHops_32 rfl (Nat.le_of_ble_eq_true rfl) (Nat.le_of_ble_eq_true rfl) ?_
            exact ⟨rfl, rfl, rfl, rfl, rfl⟩
    | succ t ih =>
      intro i hi
      obtain ⟨w, hw⟩ := gl_ex (l := p.2.2) (i := i) (by omega)
      have hwk := hpk.2.2.2 w (gl_mem hw)
      have hws := fi_bef (p := fun w => !w.2.2) (show i < p.2.2.findIdx (fun w => !w.2.2) by show i < unIx p.2.2; omega) hw
      have hws' : w.2.2 = true := by simpa using hws
      refine r_iload_n 2 dX10_firstHops_2 rfl rfl ?_
      refine r_aload_n 0 dX10_firstHops_3 rfl rfl ?_
      refine r_iload_n 1 dX10_firstHops_4 rfl rfl ?_
      refine r_callVp [_] dX10_firstHops_5 ok_RX10_166 ivX10_words (by assumption) ⟨_, _, rfl⟩ rfl rfl (Nat.le_of_ble_eq_true rfl) (by refine ⟨?_, ?_, ?_, ?_⟩ <;> exact Nat.le_of_ble_eq_true rfl) (m_words hL hs hp.2.2.1) ?_
      refine r_icmpN_ge 39 dX10_firstHops_8 (by decide) (by omega) (by omega) (fun h8 => ?_) (fun h8 => ?_)
      · omega
      · refine r_aload_n 0 dX10_firstHops_11 rfl rfl ?_
        refine r_iload_n 1 dX10_firstHops_12 rfl rfl ?_
        refine r_iload_n 2 dX10_firstHops_13 rfl rfl ?_
        refine r_callVp [_, _] dX10_firstHops_14 ok_RX10_169 ivX10_word (by assumption) ⟨_, _, rfl⟩ rfl rfl (Nat.le_of_ble_eq_true rfl) (by refine ⟨?_, ?_, ?_, ?_⟩ <;> exact Nat.le_of_ble_eq_true rfl) (m_word hL hs (by omega) (hp.2.2.2 _ w hw)) ?_
        refine r_callSp [_] dX10_firstHops_17 ok_RX10_135 isX10_isSpent rfl rfl (Nat.le_of_ble_eq_true rfl) (by refine ⟨?_, ?_, ?_, ?_⟩ <;> exact Nat.le_of_ble_eq_true rfl) (m_spW hwk) ?_
        rw [hws']
        refine r_ifB_ne 33 dX10_firstHops_20 (by decide) (fun h20 => ?_) (fun h20 => ?_)
        · refine r_iincN 2 (b := 1) (ls2 := [_, _, _]) dX10_firstHops_33 rfl (by decide) (by decide) rfl ?_
          refine r_goto 2 dX10_firstHops_36 (by decide) ?_
          exact ih (i + 1) (by omega)
        · exact absurd h20 (by decide)
  refine Mv.of pnX10_firstHops (Nat.le_of_ble_eq_true rfl) rfl ?_
  refine r_iconst (v := nI 0) dX10_firstHops_0 (by decide) ?_
  refine r_istore_n 2 (ls2 := [_, _, _]) dX10_firstHops_1 rfl (by decide) (Nat.le_of_ble_eq_true rfl) rfl ?_
  exact H (unIx p.2.2) 0 (by omega)
theorem m_save (hL : LM sh mr o) {k : Nat} (hk : k < 3) : Mi mX10_save 0 [.ref o, .int (nI k)] z sh mi mr (fun v m => v = none ∧ (∀ q, m (o + 2) q = if 1387 * k ≤ q ∧ q < 1387 * k + 1387 then mi (o + 1) (q - 1387 * k) else mi (o + 2) q) ∧ ∀ x, x ≠ o + 2 → m x = mi x) := by
  obtain ⟨l0, ⟨l1, l2⟩, ⟨l3, l4⟩, -⟩ := id hL
  have H : ∀ (t i : Nat) (m : MI), i + t = 1387 → (∀ q, m (o + 2) q = if 1387 * k ≤ q ∧ q < 1387 * k + i then mi (o + 1) (q - 1387 * k) else mi (o + 2) q) → (∀ x, x ≠ o + 2 → m x = mi x) → Wp yX10_save cX10_save 3 none (EI 0 z sh mr (fun v m => v = none ∧ (∀ q, m (o + 2) q = if 1387 * k ≤ q ∧ q < 1387 * k + 1387 then mi (o + 1) (q - 1387 * k) else mi (o + 2) q) ∧ ∀ x, x ≠ o + 2 → m x = mi x)) 0 0 2 [.ref o, .int (nI k), .int (nI i)] [] z sh m mr := by
    intro t
    induction t with
    | zero =>
      intro i m hi hm ho
      have hi : i = 1387 := hi
      subst hi
      refine r_iload_n 2 dX10_save_2 rfl rfl ?_
      refine r_sipush (v := nI 1387) dX10_save_3 (by decide) ?_
      refine r_icmpN_ge 33 dX10_save_6 (by decide) (by omega) (by omega) (fun h6 => ?_) (fun h6 => ?_)
      · refine r_vret dX10_save_33 rfl (Nat.le_of_ble_eq_true rfl) (Nat.le_of_ble_eq_true rfl) ?_
        exact ⟨rfl, rfl, rfl, rfl, hm, ho⟩
      · omega
    | succ t ih =>
      intro i m hi hm ho
      have hv : m (o + 1) i = mi (o + 1) i := by rw [ho _ (by omega)]
      refine r_iload_n 2 dX10_save_2 rfl rfl ?_
      refine r_sipush (v := nI 1387) dX10_save_3 (by decide) ?_
      refine r_icmpN_ge 33 dX10_save_6 (by decide) (by omega) (by omega) (fun h6 => ?_) (fun h6 => ?_)
      · omega
      · refine r_aload_n 0 dX10_save_9 rfl rfl ?_
        refine r_getR dX10_save_10 fl_RX10_13 rfl (by assumption) (by assumption) ?_
        refine r_sipush (v := nI 1387) dX10_save_13 (by decide) ?_
        refine r_iload_n 1 dX10_save_16 rfl rfl ?_
        refine r_imulN dX10_save_17 ?_
        refine r_iload_n 2 dX10_save_18 rfl rfl ?_
        refine r_iaddN dX10_save_19 ?_
        refine r_aload_n 0 dX10_save_20 rfl rfl ?_
        refine r_getR dX10_save_21 fl_RX10_7 rfl (by assumption) (by assumption) ?_
        refine r_iload_n 2 dX10_save_24 rfl rfl ?_
        refine r_ialdV dX10_save_25 (by assumption) (by omega) (by omega) (by first | assumption | exact up2_same _ _ _ _ | exact (Eq.trans (up2_ne _ _ (by omega)) (by first | assumption | exact up2_same _ _ _ _)) | exact (Eq.trans (up2_ne _ _ (by omega)) (Eq.trans (up2_ne _ _ (by omega)) (by first | assumption | exact up2_same _ _ _ _))) | exact (Eq.trans (up2_ne _ _ (by omega)) (Eq.trans (up2_ne _ _ (by omega)) (Eq.trans (up2_ne _ _ (by omega)) (by first | assumption | exact up2_same _ _ _ _)))) | exact (Eq.trans (up2_ne _ _ (by omega)) (Eq.trans (up2_ne _ _ (by omega)) (Eq.trans (up2_ne _ _ (by omega)) (Eq.trans (up2_ne _ _ (by omega)) (by first | assumption | exact up2_same _ _ _ _))))) | rfl) ?_
        refine r_iast dX10_save_26 (by assumption) (by omega) (by omega) ?_
        refine r_iincN 2 (b := 1) (ls2 := [_, _, _]) dX10_save_27 rfl (by decide) (by decide) rfl ?_
        refine r_goto 2 dX10_save_30 (by decide) ?_
        refine ih (i + 1) _ (by omega) (fun q => ?_) (fun x hx => by rw [up2_row _ _ hx]; exact ho x hx)
        by_cases e : q = 1387 * k + i
        · subst e; rw [up2_same, if_pos (by omega)]; congr 1; omega
        · rw [up2_ne _ _ (Or.inr e), hm]
          by_cases c : 1387 * k ≤ q ∧ q < 1387 * k + i
          · rw [if_pos c, if_pos (by omega)]
          · rw [if_neg c, if_neg (by omega)]
  refine Mv.of pnX10_save (Nat.le_of_ble_eq_true rfl) rfl ?_
  refine r_iconst (v := nI 0) dX10_save_0 (by decide) ?_
  refine r_istore_n 2 (ls2 := [_, _, _]) dX10_save_1 rfl (by decide) (Nat.le_of_ble_eq_true rfl) rfl ?_
  exact H 1387 0 mi rfl (fun q => by rw [if_neg (by omega)]) (fun _ _ => rfl)
theorem m_load (hL : LM sh mr o) {k : Nat} (hk : k < 3) : Mi mX10_load 0 [.ref o, .int (nI k)] z sh mi mr (fun v m => v = none ∧ (∀ q, m (o + 1) q = if q < 1387 then mi (o + 2) (1387 * k + q) else mi (o + 1) q) ∧ ∀ x, x ≠ o + 1 → m x = mi x) := by
  obtain ⟨l0, ⟨l1, l2⟩, ⟨l3, l4⟩, -⟩ := id hL
  have H : ∀ (t i : Nat) (m : MI), i + t = 1387 → (∀ q, m (o + 1) q = if q < i then mi (o + 2) (1387 * k + q) else mi (o + 1) q) → (∀ x, x ≠ o + 1 → m x = mi x) → Wp yX10_load cX10_load 3 none (EI 0 z sh mr (fun v m => v = none ∧ (∀ q, m (o + 1) q = if q < 1387 then mi (o + 2) (1387 * k + q) else mi (o + 1) q) ∧ ∀ x, x ≠ o + 1 → m x = mi x)) 0 0 2 [.ref o, .int (nI k), .int (nI i)] [] z sh m mr := by
    intro t
    induction t with
    | zero =>
      intro i m hi hm ho
      have hi : i = 1387 := hi
      subst hi
      refine r_iload_n 2 dX10_load_2 rfl rfl ?_
      refine r_sipush (v := nI 1387) dX10_load_3 (by decide) ?_
      refine r_icmpN_ge 33 dX10_load_6 (by decide) (by omega) (by omega) (fun h6 => ?_) (fun h6 => ?_)
      · refine r_vret dX10_load_33 rfl (Nat.le_of_ble_eq_true rfl) (Nat.le_of_ble_eq_true rfl) ?_
        exact ⟨rfl, rfl, rfl, rfl, hm, ho⟩
      · omega
    | succ t ih =>
      intro i m hi hm ho
      have hv : m (o + 2) (1387 * k + i) = mi (o + 2) (1387 * k + i) := by rw [ho _ (by omega)]
      refine r_iload_n 2 dX10_load_2 rfl rfl ?_
      refine r_sipush (v := nI 1387) dX10_load_3 (by decide) ?_
      refine r_icmpN_ge 33 dX10_load_6 (by decide) (by omega) (by omega) (fun h6 => ?_) (fun h6 => ?_)
      · omega
      · refine r_aload_n 0 dX10_load_9 rfl rfl ?_
        refine r_getR dX10_load_10 fl_RX10_7 rfl (by assumption) (by assumption) ?_
        refine r_iload_n 2 dX10_load_13 rfl rfl ?_
        refine r_aload_n 0 dX10_load_14 rfl rfl ?_
        refine r_getR dX10_load_15 fl_RX10_13 rfl (by assumption) (by assumption) ?_
        refine r_sipush (v := nI 1387) dX10_load_18 (by decide) ?_
        refine r_iload_n 1 dX10_load_21 rfl rfl ?_
        refine r_imulN dX10_load_22 ?_
        refine r_iload_n 2 dX10_load_23 rfl rfl ?_
        refine r_iaddN dX10_load_24 ?_
        refine r_ialdV dX10_load_25 (by assumption) (by omega) (by omega) (by first | assumption | exact up2_same _ _ _ _ | exact (Eq.trans (up2_ne _ _ (by omega)) (by first | assumption | exact up2_same _ _ _ _)) | exact (Eq.trans (up2_ne _ _ (by omega)) (Eq.trans (up2_ne _ _ (by omega)) (by first | assumption | exact up2_same _ _ _ _))) | exact (Eq.trans (up2_ne _ _ (by omega)) (Eq.trans (up2_ne _ _ (by omega)) (Eq.trans (up2_ne _ _ (by omega)) (by first | assumption | exact up2_same _ _ _ _)))) | exact (Eq.trans (up2_ne _ _ (by omega)) (Eq.trans (up2_ne _ _ (by omega)) (Eq.trans (up2_ne _ _ (by omega)) (Eq.trans (up2_ne _ _ (by omega)) (by first | assumption | exact up2_same _ _ _ _))))) | rfl) ?_
        refine r_iast dX10_load_26 (by assumption) (by omega) (by omega) ?_
        refine r_iincN 2 (b := 1) (ls2 := [_, _, _]) dX10_load_27 rfl (by decide) (by decide) rfl ?_
        refine r_goto 2 dX10_load_30 (by decide) ?_
        refine ih (i + 1) _ (by omega) (fun q => ?_) (fun x hx => by rw [up2_row _ _ hx]; exact ho x hx)
        by_cases e : q = i
        · subst e; rw [up2_same, if_pos (by omega)]
        · rw [up2_ne _ _ (Or.inr e), hm]
          by_cases c : q < i
          · rw [if_pos c, if_pos (by omega)]
          · rw [if_neg c, if_neg (by omega)]
  refine Mv.of pnX10_load (Nat.le_of_ble_eq_true rfl) rfl ?_
  refine r_iconst (v := nI 0) dX10_load_0 (by decide) ?_
  refine r_istore_n 2 (ls2 := [_, _, _]) dX10_load_1 rfl (by decide) (Nat.le_of_ble_eq_true rfl) rfl ?_
  exact H 1387 0 mi rfl (fun q => by rw [if_neg (by omega)]) (fun _ _ => rfl)
end RSUM
