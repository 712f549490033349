section RFOR
variable {z : Nat} {sh : SH} {mi : MI} {mr : MR} {o : Nat}
theorem any_take {α : Type} {l : List α} {f : α → Bool} {i : Nat} {x : α} (h : l[i]? = some x) : (l.take (i + 1)).any f = ((l.take i).any f || f x) := by
  rw [List.take_succ, h, List.any_append]
  simp
theorem m_isOwn (hL : LM sh mr o) {s : Nat} (hs : s < 6) {p : Pk} (hp : PkM (mi (o + 5)) 0 p) (hpk : okP p) {call : Nm} (hc : mi (o + 1) (0 + s) = nI (en 27 call)) (hck : okL 3 call) : Mp mX10_isOwn 1 [.ref o, .int (nI s)] z sh mi mr (b2 (ownP call p)) := by
  obtain ⟨l0, ⟨l1, l2⟩, -, -, -, ⟨l9, l10⟩, -⟩ := id hL
  have p0 : mi (o + 5) 0 = nI (en 27 p.1) := hp.1
  have p2 : mi (o + 5) 2 = nI p.2.2.length := hp.2.2.1
  have h8 := hpk.2.2.1
  have e1 := okL_27 hpk.1
  have e2 := okL_27 hck
  have H : ∀ t i : Nat, i + t = p.2.2.length → Wp yX10_isOwn cX10_isOwn 4 (some .boolean) (EP 1 z sh mr mi (b2 (ownP call p))) 0 0 25 [.ref o, .int (nI s), .int (b2 (or (p.1 == call) ((p.2.2.take i).any (fun w => w.2.2 && w.1 == call)))), .int (nI i)] [] z sh mi mr := by
    intro t
    induction t with
    | zero =>
      intro i hi
      have hi : i = p.2.2.length := hi
      subst hi
      rw [List.take_length]
      refine r_iload_n 3 dX10_isOwn_25 rfl rfl ?_
      refine r_aload_n 0 dX10_isOwn_26 rfl rfl ?_
      refine r_getR dX10_isOwn_27 fl_RX10_23 rfl (by assumption) (by assumption) ?_
      refine r_iconst (v := nI 2) dX10_isOwn_30 (by decide) ?_
      refine r_ialdV dX10_isOwn_31 (by assumption) (by omega) (by omega) (by first | assumption | exact up2_same _ _ _ _ | exact (Eq.trans (up2_ne _ _ (by omega)) (by first | assumption | exact up2_same _ _ _ _)) | exact (Eq.trans (up2_ne _ _ (by omega)) (Eq.trans (up2_ne _ _ (by omega)) (by first | assumption | exact up2_same _ _ _ _))) | exact (Eq.trans (up2_ne _ _ (by omega)) (Eq.trans (up2_ne _ _ (by omega)) (Eq.trans (up2_ne _ _ (by omega)) (by first | assumption | exact up2_same _ _ _ _)))) | exact (Eq.trans (up2_ne _ _ (by omega)) (Eq.trans (up2_ne _ _ (by omega)) (Eq.trans (up2_ne _ _ (by omega)) (Eq.trans (up2_ne _ _ (by omega)) (by first | assumption | exact up2_same _ _ _ _))))) | rfl) ?_
      refine r_icmpN_ge 87 dX10_isOwn_32 (by decide) (by omega) (by omega) (fun h32 => ?_) (fun h32 => ?_)
      · refine r_iload_n 2 dX10_isOwn_87 rfl rfl ?_
        refine r_zret dX10_isOwn_88 rfl (by first | exact b2_nar _ | decide) (Nat.le_of_ble_eq_true rfl) (Nat.le_of_ble_eq_true rfl) ?_
        exact ⟨rfl, rfl, rfl, rfl, rfl⟩
      · omega
    | succ t ih =>
      intro i hi
      obtain ⟨w, hw⟩ := gl_ex (l := p.2.2) (i := i) (by omega)
      have hwk := hpk.2.2.2 w (gl_mem hw)
      have hv : mi (o + 5) (3 + i) = nI (wc 27 w) := hp.2.2.2 i w hw
      have hlt := wc_lt27 hwk
      have hd := wc_div16 (b := 27) hwk.2
      have e3 := okL_27 hwk.1
      have hih := ih (i + 1) (by omega)
      rw [any_take hw, ← Bool.or_assoc] at hih
      generalize (p.1 == call || (p.2.2.take i).any (fun w => w.2.2 && w.1 == call)) = acc at hih ⊢
      have hin := okL_inj (b := 27) hwk.1 hck (by omega)
      refine r_iload_n 3 dX10_isOwn_25 rfl rfl ?_
      refine r_aload_n 0 dX10_isOwn_26 rfl rfl ?_
      refine r_getR dX10_isOwn_27 fl_RX10_23 rfl (by assumption) (by assumption) ?_
      refine r_iconst (v := nI 2) dX10_isOwn_30 (by decide) ?_
      refine r_ialdV dX10_isOwn_31 (by assumption) (by omega) (by omega) (by first | assumption | exact up2_same _ _ _ _ | exact (Eq.trans (up2_ne _ _ (by omega)) (by first | assumption | exact up2_same _ _ _ _)) | exact (Eq.trans (up2_ne _ _ (by omega)) (Eq.trans (up2_ne _ _ (by omega)) (by first | assumption | exact up2_same _ _ _ _))) | exact (Eq.trans (up2_ne _ _ (by omega)) (Eq.trans (up2_ne _ _ (by omega)) (Eq.trans (up2_ne _ _ (by omega)) (by first | assumption | exact up2_same _ _ _ _)))) | exact (Eq.trans (up2_ne _ _ (by omega)) (Eq.trans (up2_ne _ _ (by omega)) (Eq.trans (up2_ne _ _ (by omega)) (Eq.trans (up2_ne _ _ (by omega)) (by first | assumption | exact up2_same _ _ _ _))))) | rfl) ?_
      refine r_icmpN_ge 87 dX10_isOwn_32 (by decide) (by omega) (by omega) (fun h32 => ?_) (fun h32 => ?_)
      · omega
      · refine r_iload_n 2 dX10_isOwn_35 rfl rfl ?_
        refine r_ifB_ne 75 dX10_isOwn_36 (by decide) (fun h36 => ?_) (fun h36 => ?_)
        · refine r_iconst (v := nI 1) dX10_isOwn_75 (by decide) ?_
          refine r_goto 80 dX10_isOwn_76 (by decide) ?_
          refine r_istore_n 2 (ls2 := [_, _, _, _]) dX10_isOwn_80 rfl (by decide) (Nat.le_of_ble_eq_true rfl) rfl ?_
          refine r_iincN 3 (b := 1) (ls2 := [_, _, _, _]) dX10_isOwn_81 rfl (by decide) (by decide) rfl ?_
          refine r_goto 25 dX10_isOwn_84 (by decide) ?_
          first | (rw [h36] at hih; exact hih) | (rw [h36, h50] at hih; exact hih) | (rw [h36, h50, show (w.1 == call) = true by simpa using hin.mp h72] at hih; exact hih) | (rw [h36, h50, show (w.1 == call) = false by simpa using fun e => h72 (hin.mpr e)] at hih; exact hih)
        · refine r_aload_n 0 dX10_isOwn_39 rfl rfl ?_
          refine r_getR dX10_isOwn_40 fl_RX10_23 rfl (by assumption) (by assumption) ?_
          refine r_iconst (v := nI 3) dX10_isOwn_43 (by decide) ?_
          refine r_iload_n 3 dX10_isOwn_44 rfl rfl ?_
          refine r_iaddN dX10_isOwn_45 ?_
          refine r_ialdV dX10_isOwn_46 (by assumption) (by omega) (by omega) (by first | assumption | exact up2_same _ _ _ _ | exact (Eq.trans (up2_ne _ _ (by omega)) (by first | assumption | exact up2_same _ _ _ _)) | exact (Eq.trans (up2_ne _ _ (by omega)) (Eq.trans (up2_ne _ _ (by omega)) (by first | assumption | exact up2_same _ _ _ _))) | exact (Eq.trans (up2_ne _ _ (by omega)) (Eq.trans (up2_ne _ _ (by omega)) (Eq.trans (up2_ne _ _ (by omega)) (by first | assumption | exact up2_same _ _ _ _)))) | exact (Eq.trans (up2_ne _ _ (by omega)) (Eq.trans (up2_ne _ _ (by omega)) (Eq.trans (up2_ne _ _ (by omega)) (Eq.trans (up2_ne _ _ (by omega)) (by first | assumption | exact up2_same _ _ _ _))))) | rfl) ?_
          refine r_callSp [_] dX10_isOwn_47 ok_RX10_135 isX10_isSpent rfl rfl (Nat.le_of_ble_eq_true rfl) (by refine ⟨?_, ?_, ?_, ?_⟩ <;> exact Nat.le_of_ble_eq_true rfl) (m_spW hwk) ?_
          refine r_ifB_eq 79 dX10_isOwn_50 (by decide) (fun h50 => ?_) (fun h50 => ?_)
          · refine r_iconst (v := nI 0) dX10_isOwn_79 (by decide) ?_
            refine r_istore_n 2 (ls2 := [_, _, _, _]) dX10_isOwn_80 rfl (by decide) (Nat.le_of_ble_eq_true rfl) rfl ?_
            refine r_iincN 3 (b := 1) (ls2 := [_, _, _, _]) dX10_isOwn_81 rfl (by decide) (by decide) rfl ?_
            refine r_goto 25 dX10_isOwn_84 (by decide) ?_
            first | (rw [h36] at hih; exact hih) | (rw [h36, h50] at hih; exact hih) | (rw [h36, h50, show (w.1 == call) = true by simpa using hin.mp h72] at hih; exact hih) | (rw [h36, h50, show (w.1 == call) = false by simpa using fun e => h72 (hin.mpr e)] at hih; exact hih)
          · refine r_aload_n 0 dX10_isOwn_53 rfl rfl ?_
            refine r_getR dX10_isOwn_54 fl_RX10_23 rfl (by assumption) (by assumption) ?_
            refine r_iconst (v := nI 3) dX10_isOwn_57 (by decide) ?_
            refine r_iload_n 3 dX10_isOwn_58 rfl rfl ?_
            refine r_iaddN dX10_isOwn_59 ?_
            refine r_ialdV dX10_isOwn_60 (by assumption) (by omega) (by omega) (by first | assumption | exact up2_same _ _ _ _ | exact (Eq.trans (up2_ne _ _ (by omega)) (by first | assumption | exact up2_same _ _ _ _)) | exact (Eq.trans (up2_ne _ _ (by omega)) (Eq.trans (up2_ne _ _ (by omega)) (by first | assumption | exact up2_same _ _ _ _))) | exact (Eq.trans (up2_ne _ _ (by omega)) (Eq.trans (up2_ne _ _ (by omega)) (Eq.trans (up2_ne _ _ (by omega)) (by first | assumption | exact up2_same _ _ _ _)))) | exact (Eq.trans (up2_ne _ _ (by omega)) (Eq.trans (up2_ne _ _ (by omega)) (Eq.trans (up2_ne _ _ (by omega)) (Eq.trans (up2_ne _ _ (by omega)) (by first | assumption | exact up2_same _ _ _ _))))) | rfl) ?_
            refine r_bipush (v := nI 16) dX10_isOwn_61 (by decide) ?_
            refine r_idivN dX10_isOwn_63 (by omega) (by omega) (by omega) ?_
            rw [hd]
            refine r_aload_n 0 dX10_isOwn_64 rfl rfl ?_
            refine r_getR dX10_isOwn_65 fl_RX10_7 rfl (by assumption) (by assumption) ?_
            refine r_iconst (v := nI 0) dX10_isOwn_68 (by decide) ?_
            refine r_iload_n 1 dX10_isOwn_69 rfl rfl ?_
            refine r_iaddN dX10_isOwn_70 ?_
            refine r_ialdV dX10_isOwn_71 (by assumption) (by omega) (by omega) (by first | assumption | exact up2_same _ _ _ _ | exact (Eq.trans (up2_ne _ _ (by omega)) (by first | assumption | exact up2_same _ _ _ _)) | exact (Eq.trans (up2_ne _ _ (by omega)) (Eq.trans (up2_ne _ _ (by omega)) (by first | assumption | exact up2_same _ _ _ _))) | exact (Eq.trans (up2_ne _ _ (by omega)) (Eq.trans (up2_ne _ _ (by omega)) (Eq.trans (up2_ne _ _ (by omega)) (by first | assumption | exact up2_same _ _ _ _)))) | exact (Eq.trans (up2_ne _ _ (by omega)) (Eq.trans (up2_ne _ _ (by omega)) (Eq.trans (up2_ne _ _ (by omega)) (Eq.trans (up2_ne _ _ (by omega)) (by first | assumption | exact up2_same _ _ _ _))))) | rfl) ?_
            refine r_icmpN_ne 79 dX10_isOwn_72 (by decide) (by omega) (by omega) (fun h72 => ?_) (fun h72 => ?_)
            · refine r_iconst (v := nI 0) dX10_isOwn_79 (by decide) ?_
              refine r_istore_n 2 (ls2 := [_, _, _, _]) dX10_isOwn_80 rfl (by decide) (Nat.le_of_ble_eq_true rfl) rfl ?_
              refine r_iincN 3 (b := 1) (ls2 := [_, _, _, _]) dX10_isOwn_81 rfl (by decide) (by decide) rfl ?_
              refine r_goto 25 dX10_isOwn_84 (by decide) ?_
              first | (rw [h36] at hih; exact hih) | (rw [h36, h50] at hih; exact hih) | (rw [h36, h50, show (w.1 == call) = true by simpa using hin.mp h72] at hih; exact hih) | (rw [h36, h50, show (w.1 == call) = false by simpa using fun e => h72 (hin.mpr e)] at hih; exact hih)
            · refine r_iconst (v := nI 1) dX10_isOwn_75 (by decide) ?_
              refine r_goto 80 dX10_isOwn_76 (by decide) ?_
              refine r_istore_n 2 (ls2 := [_, _, _, _]) dX10_isOwn_80 rfl (by decide) (Nat.le_of_ble_eq_true rfl) rfl ?_
              refine r_iincN 3 (b := 1) (ls2 := [_, _, _, _]) dX10_isOwn_81 rfl (by decide) (by decide) rfl ?_
              refine r_goto 25 dX10_isOwn_84 (by decide) ?_
              first | (rw [h36] at hih; exact hih) | (rw [h36, h50] at hih; exact hih) | (rw [h36, h50, show (w.1 == call) = true by simpa using hin.mp h72] at hih; exact hih) | (rw [h36, h50, show (w.1 == call) = false by simpa using fun e => h72 (hin.mpr e)] at hih; exact hih)
  have hin0 := okL_inj (b := 27) hpk.1 hck (by omega)
  have h0 := H p.2.2.length 0 (by omega)
  rw [List.take_zero, List.any_nil, Bool.or_false] at h0
  refine Mv.of pnX10_isOwn (Nat.le_of_ble_eq_true rfl) rfl ?_
  refine r_aload_n 0 dX10_isOwn_0 rfl rfl ?_
  refine r_getR dX10_isOwn_1 fl_RX10_23 rfl (by assumption) (by assumption) ?_
  refine r_iconst (v := nI 0) dX10_isOwn_4 (by decide) ?_
  refine r_ialdV dX10_isOwn_5 (by assumption) (by omega) (by omega) (by first | assumption | exact up2_same _ _ _ _ | exact (Eq.trans (up2_ne _ _ (by omega)) (by first | assumption | exact up2_same _ _ _ _)) | exact (Eq.trans (up2_ne _ _ (by omega)) (Eq.trans (up2_ne _ _ (by omega)) (by first | assumption | exact up2_same _ _ _ _))) | exact (Eq.trans (up2_ne _ _ (by omega)) (Eq.trans (up2_ne _ _ (by omega)) (Eq.trans (up2_ne _ _ (by omega)) (by first | assumption | exact up2_same _ _ _ _)))) | exact (Eq.trans (up2_ne _ _ (by omega)) (Eq.trans (up2_ne _ _ (by omega)) (Eq.trans (up2_ne _ _ (by omega)) (Eq.trans (up2_ne _ _ (by omega)) (by first | assumption | exact up2_same _ _ _ _))))) | rfl) ?_
  refine r_aload_n 0 dX10_isOwn_6 rfl rfl ?_
  refine r_getR dX10_isOwn_7 fl_RX10_7 rfl (by assumption) (by assumption) ?_
  refine r_iconst (v := nI 0) dX10_isOwn_10 (by decide) ?_
  refine r_iload_n 1 dX10_isOwn_11 rfl rfl ?_
  refine r_iaddN dX10_isOwn_12 ?_
  refine r_ialdV dX10_isOwn_13 (by assumption) (by omega) (by omega) (by first | assumption | exact up2_same _ _ _ _ | exact (Eq.trans (up2_ne _ _ (by omega)) (by first | assumption | exact up2_same _ _ _ _)) | exact (Eq.trans (up2_ne _ _ (by omega)) (Eq.trans (up2_ne _ _ (by omega)) (by first | assumption | exact up2_same _ _ _ _))) | exact (Eq.trans (up2_ne _ _ (by omega)) (Eq.trans (up2_ne _ _ (by omega)) (Eq.trans (up2_ne _ _ (by omega)) (by first | assumption | exact up2_same _ _ _ _)))) | exact (Eq.trans (up2_ne _ _ (by omega)) (Eq.trans (up2_ne _ _ (by omega)) (Eq.trans (up2_ne _ _ (by omega)) (Eq.trans (up2_ne _ _ (by omega)) (by first | assumption | exact up2_same _ _ _ _))))) | rfl) ?_
  refine r_icmpN_ne 21 dX10_isOwn_14 (by decide) (by omega) (by omega) (fun h14 => ?_) (fun h14 => ?_)
  · refine r_iconst (v := nI 0) dX10_isOwn_21 (by decide) ?_
    refine r_istore_n 2 (ls2 := [_, _, _]) dX10_isOwn_22 rfl (by decide) (Nat.le_of_ble_eq_true rfl) rfl ?_
    refine r_iconst (v := nI 0) dX10_isOwn_23 (by decide) ?_
    refine r_istore_n 3 (ls2 := [_, _, _, _]) dX10_isOwn_24 rfl (by decide) (Nat.le_of_ble_eq_true rfl) rfl ?_
    first | (rw [show (p.1 == call) = true by simpa using hin0.mp h14] at h0; exact h0) | (rw [show (p.1 == call) = false by simpa using fun e => h14 (hin0.mpr e)] at h0; exact h0)
  · refine r_iconst (v := nI 1) dX10_isOwn_17 (by decide) ?_
    refine r_goto 22 dX10_isOwn_18 (by decide) ?_
    refine r_istore_n 2 (ls2 := [_, _, _]) dX10_isOwn_22 rfl (by decide) (Nat.le_of_ble_eq_true rfl) rfl ?_
    refine r_iconst (v := nI 0) dX10_isOwn_23 (by decide) ?_
    refine r_istore_n 3 (ls2 := [_, _, _, _]) dX10_isOwn_24 rfl (by decide) (Nat.le_of_ble_eq_true rfl) rfl ?_
    first | (rw [show (p.1 == call) = true by simpa using hin0.mp h14] at h0; exact h0) | (rw [show (p.1 == call) = false by simpa using fun e => h14 (hin0.mpr e)] at h0; exact h0)
theorem m_isOf (hL : LM sh mr o) {s r q : Nat} {L : List Nm} (hr : r + 2 * s + 2 < 100) (hq : q + s < 100) (h1 : mi (o + 1) (q + s) = nI L.length) (hl : L.length ≤ 2) (h2 : ∀ i x, L[i]? = some x → mi (o + 1) (r + 2 * s + i) = nI (en 27 x)) (hk : ∀ x ∈ L, okL 3 x) {nm : Nm} (hnm : okL 3 nm) : Mp mX10_isOf 0 [.ref o, .int (nI (en 27 nm)), .int (nI r), .int (nI q), .int (nI s)] z sh mi mr (b2 (decide (nm ∈ L))) := by
  obtain ⟨l0, ⟨l1, l2⟩, -⟩ := id hL
  have e1 := okL_27 hnm
  have hfin : decide (nm ∈ L) = L.any (fun x => x == nm) := by
    rw [Bool.eq_iff_iff]
    simp [List.any_eq_true]
  rw [hfin]
  have H : ∀ t i : Nat, i + t = L.length → Wp yX10_isOf cX10_isOf 7 (some .boolean) (EP 0 z sh mr mi (b2 (L.any (fun x => x == nm)))) 0 0 6 [.ref o, .int (nI (en 27 nm)), .int (nI r), .int (nI q), .int (nI s), .int (b2 ((L.take i).any (fun x => x == nm))), .int (nI i)] [] z sh mi mr := by
    intro t
    induction t with
    | zero =>
      intro i hi
      have hi : i = L.length := hi
      subst hi
      rw [List.take_length]
      refine r_iload 6 dX10_isOf_6 rfl ?_
      refine r_aload_n 0 dX10_isOf_8 rfl rfl ?_
      refine r_getR dX10_isOf_9 fl_RX10_7 rfl (by assumption) (by assumption) ?_
      refine r_iload_n 3 dX10_isOf_12 rfl rfl ?_
      refine r_iload 4 dX10_isOf_13 rfl ?_
      refine r_iaddN dX10_isOf_15 ?_
      refine r_ialdV dX10_isOf_16 (by assumption) (by omega) (by omega) (by first | assumption | exact up2_same _ _ _ _ | exact (Eq.trans (up2_ne _ _ (by omega)) (by first | assumption | exact up2_same _ _ _ _)) | exact (Eq.trans (up2_ne _ _ (by omega)) (Eq.trans (up2_ne _ _ (by omega)) (by first | assumption | exact up2_same _ _ _ _))) | exact (Eq.trans (up2_ne _ _ (by omega)) (Eq.trans (up2_ne _ _ (by omega)) (Eq.trans (up2_ne _ _ (by omega)) (by first | assumption | exact up2_same _ _ _ _)))) | exact (Eq.trans (up2_ne _ _ (by omega)) (Eq.trans (up2_ne _ _ (by omega)) (Eq.trans (up2_ne _ _ (by omega)) (Eq.trans (up2_ne _ _ (by omega)) (by first | assumption | exact up2_same _ _ _ _))))) | rfl) ?_
      refine r_icmpN_ge 56 dX10_isOf_17 (by decide) (by omega) (by omega) (fun h17 => ?_) (fun h17 => ?_)
      · refine r_iload 5 dX10_isOf_56 rfl ?_
        refine r_zret dX10_isOf_58 rfl (by first | exact b2_nar _ | decide) (Nat.le_of_ble_eq_true rfl) (Nat.le_of_ble_eq_true rfl) ?_
        exact ⟨rfl, rfl, rfl, rfl, rfl⟩
      · omega
    | succ t ih =>
      intro i hi
      obtain ⟨x, hx⟩ := gl_ex (l := L) (i := i) (by omega)
      have hxk := hk x (gl_mem hx)
      have hv := h2 i x hx
      have e3 := okL_27 hxk
      have hih := ih (i + 1) (by omega)
      rw [any_take hx] at hih
      generalize (L.take i).any (fun x => x == nm) = acc at hih ⊢
      have hin := okL_inj (b := 27) hxk hnm (by omega)
      refine r_iload 6 dX10_isOf_6 rfl ?_
      refine r_aload_n 0 dX10_isOf_8 rfl rfl ?_
      refine r_getR dX10_isOf_9 fl_RX10_7 rfl (by assumption) (by assumption) ?_
      refine r_iload_n 3 dX10_isOf_12 rfl rfl ?_
      refine r_iload 4 dX10_isOf_13 rfl ?_
      refine r_iaddN dX10_isOf_15 ?_
      refine r_ialdV dX10_isOf_16 (by assumption) (by omega) (by omega) (by first | assumption | exact up2_same _ _ _ _ | exact (Eq.trans (up2_ne _ _ (by omega)) (by first | assumption | exact up2_same _ _ _ _)) | exact (Eq.trans (up2_ne _ _ (by omega)) (Eq.trans (up2_ne _ _ (by omega)) (by first | assumption | exact up2_same _ _ _ _))) | exact (Eq.trans (up2_ne _ _ (by omega)) (Eq.trans (up2_ne _ _ (by omega)) (Eq.trans (up2_ne _ _ (by omega)) (by first | assumption | exact up2_same _ _ _ _)))) | exact (Eq.trans (up2_ne _ _ (by omega)) (Eq.trans (up2_ne _ _ (by omega)) (Eq.trans (up2_ne _ _ (by omega)) (Eq.trans (up2_ne _ _ (by omega)) (by first | assumption | exact up2_same _ _ _ _))))) | rfl) ?_
      refine r_icmpN_ge 56 dX10_isOf_17 (by decide) (by omega) (by omega) (fun h17 => ?_) (fun h17 => ?_)
      · omega
      · refine r_iload 5 dX10_isOf_20 rfl ?_
        refine r_ifB_ne 43 dX10_isOf_22 (by decide) (fun h22 => ?_) (fun h22 => ?_)
        · refine r_iconst (v := nI 1) dX10_isOf_43 (by decide) ?_
          refine r_goto 48 dX10_isOf_44 (by decide) ?_
          refine r_istore 5 (ls2 := [_, _, _, _, _, _, _]) dX10_isOf_48 (by decide) (Nat.le_of_ble_eq_true rfl) rfl ?_
          refine r_iincN 6 (b := 1) (ls2 := [_, _, _, _, _, _, _]) dX10_isOf_50 rfl (by decide) (by decide) rfl ?_
          refine r_goto 6 dX10_isOf_53 (by decide) ?_
          first | (rw [h22] at hih; exact hih) | (rw [h22, show (x == nm) = true by simpa using hin.mp h40] at hih; exact hih) | (rw [h22, show (x == nm) = false by simpa using fun e => h40 (hin.mpr e)] at hih; exact hih)
        · refine r_aload_n 0 dX10_isOf_25 rfl rfl ?_
          refine r_getR dX10_isOf_26 fl_RX10_7 rfl (by assumption) (by assumption) ?_
          refine r_iload_n 2 dX10_isOf_29 rfl rfl ?_
          refine r_iconst (v := nI 2) dX10_isOf_30 (by decide) ?_
          refine r_iload 4 dX10_isOf_31 rfl ?_
          refine r_imulN dX10_isOf_33 ?_
          refine r_iaddN dX10_isOf_34 ?_
          refine r_iload 6 dX10_isOf_35 rfl ?_
          refine r_iaddN dX10_isOf_37 ?_
          refine r_ialdV dX10_isOf_38 (by assumption) (by omega) (by omega) (by first | assumption | exact up2_same _ _ _ _ | exact (Eq.trans (up2_ne _ _ (by omega)) (by first | assumption | exact up2_same _ _ _ _)) | exact (Eq.trans (up2_ne _ _ (by omega)) (Eq.trans (up2_ne _ _ (by omega)) (by first | assumption | exact up2_same _ _ _ _))) | exact (Eq.trans (up2_ne _ _ (by omega)) (Eq.trans (up2_ne _ _ (by omega)) (Eq.trans (up2_ne _ _ (by omega)) (by first | assumption | exact up2_same _ _ _ _)))) | exact (Eq.trans (up2_ne _ _ (by omega)) (Eq.trans (up2_ne _ _ (by omega)) (Eq.trans (up2_ne _ _ (by omega)) (Eq.trans (up2_ne _ _ (by omega)) (by first | assumption | exact up2_same _ _ _ _))))) | rfl) ?_
          refine r_iload_n 1 dX10_isOf_39 rfl rfl ?_
          refine r_icmpN_ne 47 dX10_isOf_40 (by decide) (by omega) (by omega) (fun h40 => ?_) (fun h40 => ?_)
          · refine r_iconst (v := nI 0) dX10_isOf_47 (by decide) ?_
            refine r_istore 5 (ls2 := [_, _, _, _, _, _, _]) dX10_isOf_48 (by decide) (Nat.le_of_ble_eq_true rfl) rfl ?_
            refine r_iincN 6 (b := 1) (ls2 := [_, _, _, _, _, _, _]) dX10_isOf_50 rfl (by decide) (by decide) rfl ?_
            refine r_goto 6 dX10_isOf_53 (by decide) ?_
            first | (rw [h22] at hih; exact hih) | (rw [h22, show (x == nm) = true by simpa using hin.mp h40] at hih; exact hih) | (rw [h22, show (x == nm) = false by simpa using fun e => h40 (hin.mpr e)] at hih; exact hih)
          · refine r_iconst (v := nI 1) dX10_isOf_43 (by decide) ?_
            refine r_goto 48 dX10_isOf_44 (by decide) ?_
            refine r_istore 5 (ls2 := [_, _, _, _, _, _, _]) dX10_isOf_48 (by decide) (Nat.le_of_ble_eq_true rfl) rfl ?_
            refine r_iincN 6 (b := 1) (ls2 := [_, _, _, _, _, _, _]) dX10_isOf_50 rfl (by decide) (by decide) rfl ?_
            refine r_goto 6 dX10_isOf_53 (by decide) ?_
            first | (rw [h22] at hih; exact hih) | (rw [h22, show (x == nm) = true by simpa using hin.mp h40] at hih; exact hih) | (rw [h22, show (x == nm) = false by simpa using fun e => h40 (hin.mpr e)] at hih; exact hih)
  refine Mv.of pnX10_isOf (Nat.le_of_ble_eq_true rfl) rfl ?_
  refine r_iconst (v := nI 0) dX10_isOf_0 (by decide) ?_
  refine r_istore 5 (ls2 := [_, _, _, _, _, _]) dX10_isOf_1 (by decide) (Nat.le_of_ble_eq_true rfl) rfl ?_
  refine r_iconst (v := nI 0) dX10_isOf_3 (by decide) ?_
  refine r_istore 6 (ls2 := [_, _, _, _, _, _, _]) dX10_isOf_4 (by decide) (Nat.le_of_ble_eq_true rfl) rfl ?_
  exact H L.length 0 (by omega)
theorem PkM.set {m : MI} {p : Pk} {i : Nat} {w' : Wd} (hp : PkM (m (o + 5)) 0 p) {x : Int32} (hx : x = nI (wc 27 w')) : PkM (up2 m (o + 5) (3 + i) x (o + 5)) 0 (p.1, p.2.1, p.2.2.set i w') := by
  refine ⟨by rw [up2_ne _ _ (Or.inr (by omega))]; exact hp.1, by rw [up2_ne _ _ (Or.inr (by omega))]; exact hp.2.1, by rw [up2_ne _ _ (Or.inr (by omega))]; show _ = nI (p.2.2.set i w').length; rw [List.length_set]; exact hp.2.2.1, fun j w hj => ?_⟩
  have hj : (p.2.2.set i w')[j]? = some w := hj
  rw [List.getElem?_set] at hj
  by_cases e : i = j
  · subst e
    rw [if_pos rfl] at hj
    split at hj
    · cases hj
      show up2 m (o + 5) (3 + i) x (o + 5) (3 + i) = _
      rw [up2_same, hx]
    · cases hj
  · rw [if_neg e] at hj
    rw [up2_ne _ _ (Or.inr (by omega))]
    exact hp.2.2.2 j w hj
def PFo (mi : MI) (o : Nat) (r : Option Pk) : Option Value → MI → Prop := fun v m => (∀ x, x ≠ o + 5 → m x = mi x) ∧ match r with
  | none => v = some (.int (nI 0))
  | some p => v = some (.int (nI 1)) ∧ PkM (m (o + 5)) 0 p
theorem m_isFor (hL : LM sh mr o) {s : Nat} (hs : s < 6) {p : Pk} (hp : PkM (mi (o + 5)) 0 p) (hpk : okP p) {se : Se} (hS : SeM (mi (o + 1)) s se) (hse : okSe se) {i : Nat} {w : Wd} (hw : p.2.2[i]? = some w) (hu : w.2.2 = false) : Mi mX10_isFor 1 [.ref o, .int (nI s), .int (nI i)] z sh mi mr (PFo mi o (chg se p i)) := by
  obtain ⟨l0, ⟨l1, l2⟩, -, -, -, ⟨l9, l10⟩, -⟩ := id hL
  obtain ⟨s1, ⟨s2, s3⟩, ⟨s4, s5⟩, s6, s7, s8⟩ := id hS
  have s1' : mi (o + 1) (0 + s) = nI (en 27 se.1) := by rw [Nat.zero_add]; exact s1
  have hil := gl_lt hw
  have h8 := hpk.2.2.1
  have hwk := hpk.2.2.2 w (gl_mem hw)
  have hv : mi (o + 5) (3 + i) = nI (wc 27 w) := hp.2.2.2 i w hw
  have p2 : mi (o + 5) 2 = nI p.2.2.length := hp.2.2.1
  have hlt := wc_lt27 hwk
  have hd := wc_div16 (b := 27) hwk.2
  have e1 := okL_27 hwk.1
  have e2 := okL_27 hse.1
  have hh7 := hwk.2
  have hlim := hse.2.2.2.1
  have hin := okL_inj (b := 27) hwk.1 hse.1 (by omega)
  have hsp : 16 * en 27 se.1 + 1 = wc 27 (se.1, 0, true) := by unfold wc bn; simp
  have hch : chg se p i = if w.1 = se.1 ∨ (w.2.1 = 0 ∧ w.1 ∈ se.2.1) then some (p.1, p.2.1, p.2.2.set i (se.1, 0, true)) else if w.2.1 = 0 ∨ w.1 ∉ se.2.2.1 then none else if min w.2.1 se.2.2.2.1 - 1 = 0 then some (p.1, p.2.1, p.2.2.set i (se.1, 0, true)) else if p.2.2.length < 8 then some (p.1, p.2.1, p.2.2.take i ++ (se.1, 0, true) :: (w.1, min w.2.1 se.2.2.2.1 - 1, w.2.2) :: p.2.2.drop (i + 1)) else some (p.1, p.2.1, p.2.2.set i (w.1, min w.2.1 se.2.2.2.1 - 1, w.2.2)) := by
    unfold chg; rw [hw]
  have KL : ∀ (x : Nat), x = wc 27 (w.1, min w.2.1 se.2.2.2.1 - 1, w.2.2) → p.2.2.length < 8 → chg se p i = some (p.1, p.2.1, p.2.2.take i ++ (se.1, 0, true) :: (w.1, min w.2.1 se.2.2.2.1 - 1, w.2.2) :: p.2.2.drop (i + 1)) → ∀ (a b : Value) (t k : Nat) (m : MI), i + t = k → k ≤ p.2.2.length → (∀ y, y ≠ o + 5 → m y = mi y) → (∀ q, m (o + 5) q = if 3 + k < q ∧ q ≤ 3 + p.2.2.length then up2 mi (o + 5) (3 + i) (nI x) (o + 5) (q - 1) else up2 mi (o + 5) (3 + i) (nI x) (o + 5) q) → Wp yX10_isFor cX10_isFor 7 (some .boolean) (EI 1 z sh mr (PFo mi o (chg se p i))) 0 0 185 [.ref o, .int (nI s), .int (nI i), a, b, .int (nI (16 * en 27 se.1 + 1)), .int (nI k)] [] z sh m mr := by
    intro x hx hl8 hc a b t
    induction t with
    | zero =>
      intro k m hk hkl ho hm
      have hk : i = k := hk
      subst hk
      have hm2 : m (o + 5) 2 = nI p.2.2.length := by rw [hm, if_neg (by omega), up2_ne _ _ (Or.inr (by omega))]; exact p2
      refine r_iload 6 dX10_isFor_185 rfl ?_
      refine r_iload_n 2 dX10_isFor_187 rfl rfl ?_
      refine r_icmpN_le 215 dX10_isFor_188 (by decide) (by omega) (by omega) (fun h188 => ?_) (fun h188 => ?_)
      · refine r_aload_n 0 dX10_isFor_215 rfl rfl ?_
        refine r_getR dX10_isFor_216 fl_RX10_23 rfl (by assumption) (by assumption) ?_
        refine r_iconst (v := nI 3) dX10_isFor_219 (by decide) ?_
        refine r_iload_n 2 dX10_isFor_220 rfl rfl ?_
        refine r_iaddN dX10_isFor_221 ?_
        refine r_iload 5 dX10_isFor_222 rfl ?_
        refine r_iast dX10_isFor_224 (by assumption) (by omega) (by omega) ?_
        refine r_aload_n 0 dX10_isFor_225 rfl rfl ?_
        refine r_getR dX10_isFor_226 fl_RX10_23 rfl (by assumption) (by assumption) ?_
        refine r_iconst (v := nI 2) dX10_isFor_229 (by decide) ?_
        refine r_dup2 dX10_isFor_230 rfl rfl ?_
        refine r_ialdV dX10_isFor_231 (by assumption) (by omega) (by omega) (by first | assumption | exact up2_same _ _ _ _ | exact (Eq.trans (up2_ne _ _ (by omega)) (by first | assumption | exact up2_same _ _ _ _)) | exact (Eq.trans (up2_ne _ _ (by omega)) (Eq.trans (up2_ne _ _ (by omega)) (by first | assumption | exact up2_same _ _ _ _))) | exact (Eq.trans (up2_ne _ _ (by omega)) (Eq.trans (up2_ne _ _ (by omega)) (Eq.trans (up2_ne _ _ (by omega)) (by first | assumption | exact up2_same _ _ _ _)))) | exact (Eq.trans (up2_ne _ _ (by omega)) (Eq.trans (up2_ne _ _ (by omega)) (Eq.trans (up2_ne _ _ (by omega)) (Eq.trans (up2_ne _ _ (by omega)) (by first | assumption | exact up2_same _ _ _ _))))) | rfl) ?_
        refine r_iconst (v := nI 1) dX10_isFor_232 (by decide) ?_
        refine r_iaddN dX10_isFor_233 ?_
        refine r_iast dX10_isFor_234 (by assumption) (by omega) (by omega) ?_
        refine r_iconst (v := nI 1) dX10_isFor_235 (by decide) ?_
        refine r_zret dX10_isFor_236 rfl (by first | exact b2_nar _ | decide) (Nat.le_of_ble_eq_true rfl) (Nat.le_of_ble_eq_true rfl) ?_
        refine ⟨rfl, rfl, rfl, fun y hy => by rw [up2_row _ _ hy, up2_row _ _ hy]; exact ho y hy, ?_⟩
        rw [hc]
        refine ⟨rfl, ?_, ?_, ?_, fun j u hj => ?_⟩
        · rw [up2_ne _ _ (Or.inr (by omega)), up2_ne _ _ (Or.inr (by omega)), hm, if_neg (by omega), up2_ne _ _ (Or.inr (by omega))]; exact hp.1
        · rw [up2_ne _ _ (Or.inr (by omega)), up2_ne _ _ (Or.inr (by omega)), hm, if_neg (by omega), up2_ne _ _ (Or.inr (by omega))]; exact hp.2.1
        · rw [show 0 + 2 = 2 from rfl, up2_same]
          congr 1
          show _ = (p.2.2.take i ++ (se.1, 0, true) :: (w.1, min w.2.1 se.2.2.2.1 - 1, w.2.2) :: p.2.2.drop (i + 1)).length
          simp; omega
        · have hj : (p.2.2.take i ++ (se.1, 0, true) :: (w.1, min w.2.1 se.2.2.2.1 - 1, w.2.2) :: p.2.2.drop (i + 1))[j]? = some u := hj
          have hjl := gl_lt hj
          rw [ins_get p.2.2 hil] at hj
          simp at hjl
          rw [show 0 + 3 + j = 3 + j by omega, up2_ne _ _ (Or.inr (by omega))]
          by_cases c1 : j < i
          · rw [if_pos c1] at hj
            rw [up2_ne _ _ (Or.inr (by omega)), hm, if_neg (by omega), up2_ne _ _ (Or.inr (by omega)), ← hp.2.2.2 j u hj]
          · rw [if_neg c1] at hj
            by_cases c2 : j = i
            · rw [if_pos c2] at hj
              cases hj
              rw [c2, up2_same, hsp]
            · rw [if_neg c2] at hj
              rw [up2_ne _ _ (Or.inr (by omega)), hm, if_pos (by omega)]
              by_cases c3 : j = i + 1
              · rw [if_pos c3] at hj
                cases hj
                rw [c3, show 3 + (i + 1) - 1 = 3 + i by omega, up2_same, hx]
              · rw [if_neg c3] at hj
                rw [up2_ne _ _ (Or.inr (by omega)), ← hp.2.2.2 (j - 1) u hj]; congr 1 <;> omega
      · omega
    | succ t ih =>
      intro k m hk hkl ho hm
      have hvv : m (o + 5) (2 + k) = up2 mi (o + 5) (3 + i) (nI x) (o + 5) (2 + k) := by rw [hm, if_neg (by omega)]
      refine r_iload 6 dX10_isFor_185 rfl ?_
      refine r_iload_n 2 dX10_isFor_187 rfl rfl ?_
      refine r_icmpN_le 215 dX10_isFor_188 (by decide) (by omega) (by omega) (fun h188 => ?_) (fun h188 => ?_)
      · omega
      · refine r_aload_n 0 dX10_isFor_191 rfl rfl ?_
        refine r_getR dX10_isFor_192 fl_RX10_23 rfl (by assumption) (by assumption) ?_
        refine r_iconst (v := nI 3) dX10_isFor_195 (by decide) ?_
        refine r_iload 6 dX10_isFor_196 rfl ?_
        refine r_iaddN dX10_isFor_198 ?_
        refine r_aload_n 0 dX10_isFor_199 rfl rfl ?_
        refine r_getR dX10_isFor_200 fl_RX10_23 rfl (by assumption) (by assumption) ?_
        refine r_iconst (v := nI 2) dX10_isFor_203 (by decide) ?_
        refine r_iload 6 dX10_isFor_204 rfl ?_
        refine r_iaddN dX10_isFor_206 ?_
        refine r_ialdV dX10_isFor_207 (by assumption) (by omega) (by omega) (by first | assumption | exact up2_same _ _ _ _ | exact (Eq.trans (up2_ne _ _ (by omega)) (by first | assumption | exact up2_same _ _ _ _)) | exact (Eq.trans (up2_ne _ _ (by omega)) (Eq.trans (up2_ne _ _ (by omega)) (by first | assumption | exact up2_same _ _ _ _))) | exact (Eq.trans (up2_ne _ _ (by omega)) (Eq.trans (up2_ne _ _ (by omega)) (Eq.trans (up2_ne _ _ (by omega)) (by first | assumption | exact up2_same _ _ _ _)))) | exact (Eq.trans (up2_ne _ _ (by omega)) (Eq.trans (up2_ne _ _ (by omega)) (Eq.trans (up2_ne _ _ (by omega)) (Eq.trans (up2_ne _ _ (by omega)) (by first | assumption | exact up2_same _ _ _ _))))) | rfl) ?_
        refine r_iast dX10_isFor_208 (by assumption) (by omega) (by omega) ?_
        refine r_iinc 6 (ls2 := [_, _, _, _, _, _, _]) dX10_isFor_209 rfl rfl (by decide) rfl ?_
        refine r_goto 185 dX10_isFor_212 (by decide) ?_
        rw [show nI k + Int32.ofInt (-1) = nI (k - 1) by rw [← pk_sub (by omega : 1 ≤ k), Int32.sub_eq_add_neg]; rfl]
        refine ih (k - 1) _ (by omega) (by omega) (fun y hy => by rw [up2_row _ _ hy]; exact ho y hy) (fun q => ?_)
        by_cases e : q = 3 + k
        · subst e
          rw [up2_same, if_pos (by omega)]; congr 1 <;> omega
        · rw [up2_ne _ _ (Or.inr e), hm]
          by_cases c : 3 + k < q ∧ q ≤ 3 + p.2.2.length
          · rw [if_pos c, if_pos (by omega)]
          · rw [if_neg c, if_neg (by omega)]
  have K82 : ¬ (w.1 = se.1 ∨ (w.2.1 = 0 ∧ w.1 ∈ se.2.1)) → Wp yX10_isFor cX10_isFor 7 (some .boolean) (EI 1 z sh mr (PFo mi o (chg se p i))) 0 0 82 [.ref o, .int (nI s), .int (nI i), .int (nI (en 27 w.1)), .int (nI w.2.1), .int (nI (16 * en 27 se.1 + 1))] [] z sh mi mr := by
    intro hA
    rw [if_neg hA] at hch
    by_cases hB : w.2.1 = 0 ∨ w.1 ∉ se.2.2.1
    · rw [if_pos hB] at hch
      refine r_iload 4 dX10_isFor_82 rfl ?_
      refine r_ifN_eq 100 dX10_isFor_84 (by decide) (by omega) (fun h84 => ?_) (fun h84 => ?_)
      · refine r_iconst (v := nI 0) dX10_isFor_100 (by decide) ?_
        refine r_zret dX10_isFor_101 rfl (by first | exact b2_nar _ | decide) (Nat.le_of_ble_eq_true rfl) (Nat.le_of_ble_eq_true rfl) ?_
        refine ⟨rfl, rfl, rfl, fun _ _ => rfl, ?_⟩
        rw [hch]
      · refine r_aload_n 0 dX10_isFor_87 rfl rfl ?_
        refine r_iload_n 3 dX10_isFor_88 rfl rfl ?_
        refine r_bipush (v := nI 24) dX10_isFor_89 (by decide) ?_
        refine r_bipush (v := nI 36) dX10_isFor_91 (by decide) ?_
        refine r_iload_n 1 dX10_isFor_93 rfl rfl ?_
        refine r_callVp [_, _, _, _] dX10_isFor_94 ok_RX10_147 ivX10_isOf (by assumption) ⟨_, _, rfl⟩ rfl rfl (Nat.le_of_ble_eq_true rfl) (by refine ⟨?_, ?_, ?_, ?_⟩ <;> exact Nat.le_of_ble_eq_true rfl) (m_isOf hL (by omega) (by omega) s4 hse.2.2.1.1 s5 hse.2.2.1.2 hwk.1) ?_
        refine r_ifB_ne 102 dX10_isFor_97 (by decide) (fun h97 => ?_) (fun h97 => ?_)
        · have hmem : w.1 ∈ se.2.2.1 := by simpa using h97
          exact absurd hB (by rintro (h | h); (exact h84 h); (exact h hmem))
        · refine r_iconst (v := nI 0) dX10_isFor_100 (by decide) ?_
          refine r_zret dX10_isFor_101 rfl (by first | exact b2_nar _ | decide) (Nat.le_of_ble_eq_true rfl) (Nat.le_of_ble_eq_true rfl) ?_
          refine ⟨rfl, rfl, rfl, fun _ _ => rfl, ?_⟩
          rw [hch]
    · rw [if_neg hB] at hch
      have hn0 : w.2.1 ≠ 0 := fun e => hB (Or.inl e)
      have hmem : w.1 ∈ se.2.2.1 := Classical.byContradiction (fun e => hB (Or.inr e))
      have K134 : ∀ h : Nat, h = min w.2.1 se.2.2.2.1 - 1 → Wp yX10_isFor cX10_isFor 7 (some .boolean) (EI 1 z sh mr (PFo mi o (chg se p i))) 0 0 134 [.ref o, .int (nI s), .int (nI i), .int (nI (en 27 w.1)), .int (nI h), .int (nI (16 * en 27 se.1 + 1))] [] z sh mi mr := by
        intro h hh
        rw [← hh] at hch KL
        have hx : 16 * en 27 w.1 + 2 * h = wc 27 (w.1, h, w.2.2) := by unfold wc; rw [hu]; rfl
        have p2a : ∀ y, up2 mi (o + 5) (3 + i) y (o + 5) 2 = nI p.2.2.length := fun y => by rw [up2_ne _ _ (Or.inr (by omega))]; exact p2
        have p2b := p2a (nI (16 * en 27 w.1 + 2 * h))
        have p2c := p2a (nI (16 * en 27 se.1 + 1))
        refine r_aload_n 0 dX10_isFor_134 rfl rfl ?_
        refine r_getR dX10_isFor_135 fl_RX10_23 rfl (by assumption) (by assumption) ?_
        refine r_iconst (v := nI 3) dX10_isFor_138 (by decide) ?_
        refine r_iload_n 2 dX10_isFor_139 rfl rfl ?_
        refine r_iaddN dX10_isFor_140 ?_
        refine r_iload 4 dX10_isFor_141 rfl ?_
        refine r_ifN_ne 151 dX10_isFor_143 (by decide) (by omega) (fun h143 => ?_) (fun h143 => ?_)
        · refine r_bipush (v := nI 16) dX10_isFor_151 (by decide) ?_
          refine r_iload_n 3 dX10_isFor_153 rfl rfl ?_
          refine r_imulN dX10_isFor_154 ?_
          refine r_iconst (v := nI 2) dX10_isFor_155 (by decide) ?_
          refine r_iload 4 dX10_isFor_156 rfl ?_
          refine r_imulN dX10_isFor_158 ?_
          refine r_iaddN dX10_isFor_159 ?_
          refine r_iast dX10_isFor_160 (by assumption) (by omega) (by omega) ?_
          refine r_iload 4 dX10_isFor_161 rfl ?_
          refine r_ifN_le 235 dX10_isFor_163 (by decide) (by omega) (fun h163 => ?_) (fun h163 => ?_)
          · refine r_iconst (v := nI 1) dX10_isFor_235 (by decide) ?_
            refine r_zret dX10_isFor_236 rfl (by first | exact b2_nar _ | decide) (Nat.le_of_ble_eq_true rfl) (Nat.le_of_ble_eq_true rfl) ?_
            refine ⟨rfl, rfl, rfl, fun y hy => up2_row _ _ hy, ?_⟩
            rw [hch]
            first | (rw [if_pos h143]; exact ⟨rfl, hp.set (by rw [hsp])⟩) | (exfalso; omega) | (rw [if_neg h143, if_neg (by omega)]; exact ⟨rfl, hp.set (by rw [hx])⟩)
          · refine r_aload_n 0 dX10_isFor_166 rfl rfl ?_
            refine r_getR dX10_isFor_167 fl_RX10_23 rfl (by assumption) (by assumption) ?_
            refine r_iconst (v := nI 2) dX10_isFor_170 (by decide) ?_
            refine r_ialdV dX10_isFor_171 (by assumption) (by omega) (by omega) (by first | assumption | exact up2_same _ _ _ _ | exact (Eq.trans (up2_ne _ _ (by omega)) (by first | assumption | exact up2_same _ _ _ _)) | exact (Eq.trans (up2_ne _ _ (by omega)) (Eq.trans (up2_ne _ _ (by omega)) (by first | assumption | exact up2_same _ _ _ _))) | exact (Eq.trans (up2_ne _ _ (by omega)) (Eq.trans (up2_ne _ _ (by omega)) (Eq.trans (up2_ne _ _ (by omega)) (by first | assumption | exact up2_same _ _ _ _)))) | exact (Eq.trans (up2_ne _ _ (by omega)) (Eq.trans (up2_ne _ _ (by omega)) (Eq.trans (up2_ne _ _ (by omega)) (Eq.trans (up2_ne _ _ (by omega)) (by first | assumption | exact up2_same _ _ _ _))))) | rfl) ?_
            refine r_bipush (v := nI 8) dX10_isFor_172 (by decide) ?_
            refine r_icmpN_ge 235 dX10_isFor_174 (by decide) (by omega) (by omega) (fun h174 => ?_) (fun h174 => ?_)
            · refine r_iconst (v := nI 1) dX10_isFor_235 (by decide) ?_
              refine r_zret dX10_isFor_236 rfl (by first | exact b2_nar _ | decide) (Nat.le_of_ble_eq_true rfl) (Nat.le_of_ble_eq_true rfl) ?_
              refine ⟨rfl, rfl, rfl, fun y hy => up2_row _ _ hy, ?_⟩
              rw [hch]
              first | (rw [if_pos h143]; exact ⟨rfl, hp.set (by rw [hsp])⟩) | (exfalso; omega) | (rw [if_neg h143, if_neg (by omega)]; exact ⟨rfl, hp.set (by rw [hx])⟩)
            · refine r_aload_n 0 dX10_isFor_177 rfl rfl ?_
              refine r_getR dX10_isFor_178 fl_RX10_23 rfl (by assumption) (by assumption) ?_
              refine r_iconst (v := nI 2) dX10_isFor_181 (by decide) ?_
              refine r_ialdV dX10_isFor_182 (by assumption) (by omega) (by omega) (by first | assumption | exact up2_same _ _ _ _ | exact (Eq.trans (up2_ne _ _ (by omega)) (by first | assumption | exact up2_same _ _ _ _)) | exact (Eq.trans (up2_ne _ _ (by omega)) (Eq.trans (up2_ne _ _ (by omega)) (by first | assumption | exact up2_same _ _ _ _))) | exact (Eq.trans (up2_ne _ _ (by omega)) (Eq.trans (up2_ne _ _ (by omega)) (Eq.trans (up2_ne _ _ (by omega)) (by first | assumption | exact up2_same _ _ _ _)))) | exact (Eq.trans (up2_ne _ _ (by omega)) (Eq.trans (up2_ne _ _ (by omega)) (Eq.trans (up2_ne _ _ (by omega)) (Eq.trans (up2_ne _ _ (by omega)) (by first | assumption | exact up2_same _ _ _ _))))) | rfl) ?_
              refine r_istore 6 (ls2 := [_, _, _, _, _, _, _]) dX10_isFor_183 (by decide) (Nat.le_of_ble_eq_true rfl) rfl ?_
              first | omega | exact KL _ hx (by omega) (by rw [hch, if_neg (by omega), if_pos (by omega)]) _ _ (p.2.2.length - i) p.2.2.length _ (by omega) (Nat.le_refl _) (fun y hy => up2_row _ _ hy) (fun q => by rw [if_neg (by omega)])
        · refine r_iload 5 dX10_isFor_146 rfl ?_
          refine r_goto 160 dX10_isFor_148 (by decide) ?_
          refine r_iast dX10_isFor_160 (by assumption) (by omega) (by omega) ?_
          refine r_iload 4 dX10_isFor_161 rfl ?_
          refine r_ifN_le 235 dX10_isFor_163 (by decide) (by omega) (fun h163 => ?_) (fun h163 => ?_)
          · refine r_iconst (v := nI 1) dX10_isFor_235 (by decide) ?_
            refine r_zret dX10_isFor_236 rfl (by first | exact b2_nar _ | decide) (Nat.le_of_ble_eq_true rfl) (Nat.le_of_ble_eq_true rfl) ?_
            refine ⟨rfl, rfl, rfl, fun y hy => up2_row _ _ hy, ?_⟩
            rw [hch]
            first | (rw [if_pos h143]; exact ⟨rfl, hp.set (by rw [hsp])⟩) | (exfalso; omega) | (rw [if_neg h143, if_neg (by omega)]; exact ⟨rfl, hp.set (by rw [hx])⟩)
          · refine r_aload_n 0 dX10_isFor_166 rfl rfl ?_
            refine r_getR dX10_isFor_167 fl_RX10_23 rfl (by assumption) (by assumption) ?_
            refine r_iconst (v := nI 2) dX10_isFor_170 (by decide) ?_
            refine r_ialdV dX10_isFor_171 (by assumption) (by omega) (by omega) (by first | assumption | exact up2_same _ _ _ _ | exact (Eq.trans (up2_ne _ _ (by omega)) (by first | assumption | exact up2_same _ _ _ _)) | exact (Eq.trans (up2_ne _ _ (by omega)) (Eq.trans (up2_ne _ _ (by omega)) (by first | assumption | exact up2_same _ _ _ _))) | exact (Eq.trans (up2_ne _ _ (by omega)) (Eq.trans (up2_ne _ _ (by omega)) (Eq.trans (up2_ne _ _ (by omega)) (by first | assumption | exact up2_same _ _ _ _)))) | exact (Eq.trans (up2_ne _ _ (by omega)) (Eq.trans (up2_ne _ _ (by omega)) (Eq.trans (up2_ne _ _ (by omega)) (Eq.trans (up2_ne _ _ (by omega)) (by first | assumption | exact up2_same _ _ _ _))))) | rfl) ?_
            refine r_bipush (v := nI 8) dX10_isFor_172 (by decide) ?_
            refine r_icmpN_ge 235 dX10_isFor_174 (by decide) (by omega) (by omega) (fun h174 => ?_) (fun h174 => ?_)
            · refine r_iconst (v := nI 1) dX10_isFor_235 (by decide) ?_
              refine r_zret dX10_isFor_236 rfl (by first | exact b2_nar _ | decide) (Nat.le_of_ble_eq_true rfl) (Nat.le_of_ble_eq_true rfl) ?_
              refine ⟨rfl, rfl, rfl, fun y hy => up2_row _ _ hy, ?_⟩
              rw [hch]
              first | (rw [if_pos h143]; exact ⟨rfl, hp.set (by rw [hsp])⟩) | (exfalso; omega) | (rw [if_neg h143, if_neg (by omega)]; exact ⟨rfl, hp.set (by rw [hx])⟩)
            · refine r_aload_n 0 dX10_isFor_177 rfl rfl ?_
              refine r_getR dX10_isFor_178 fl_RX10_23 rfl (by assumption) (by assumption) ?_
              refine r_iconst (v := nI 2) dX10_isFor_181 (by decide) ?_
              refine r_ialdV dX10_isFor_182 (by assumption) (by omega) (by omega) (by first | assumption | exact up2_same _ _ _ _ | exact (Eq.trans (up2_ne _ _ (by omega)) (by first | assumption | exact up2_same _ _ _ _)) | exact (Eq.trans (up2_ne _ _ (by omega)) (Eq.trans (up2_ne _ _ (by omega)) (by first | assumption | exact up2_same _ _ _ _))) | exact (Eq.trans (up2_ne _ _ (by omega)) (Eq.trans (up2_ne _ _ (by omega)) (Eq.trans (up2_ne _ _ (by omega)) (by first | assumption | exact up2_same _ _ _ _)))) | exact (Eq.trans (up2_ne _ _ (by omega)) (Eq.trans (up2_ne _ _ (by omega)) (Eq.trans (up2_ne _ _ (by omega)) (Eq.trans (up2_ne _ _ (by omega)) (by first | assumption | exact up2_same _ _ _ _))))) | rfl) ?_
              refine r_istore 6 (ls2 := [_, _, _, _, _, _, _]) dX10_isFor_183 (by decide) (Nat.le_of_ble_eq_true rfl) rfl ?_
              first | omega | exact KL _ hx (by omega) (by rw [hch, if_neg (by omega), if_pos (by omega)]) _ _ (p.2.2.length - i) p.2.2.length _ (by omega) (Nat.le_refl _) (fun y hy => up2_row _ _ hy) (fun q => by rw [if_neg (by omega)])
      refine r_iload 4 dX10_isFor_82 rfl ?_
      refine r_ifN_eq 100 dX10_isFor_84 (by decide) (by omega) (fun h84 => ?_) (fun h84 => ?_)
      · first | exact absurd h84 hn0 | exact absurd hmem (by simpa using h97)
      · refine r_aload_n 0 dX10_isFor_87 rfl rfl ?_
        refine r_iload_n 3 dX10_isFor_88 rfl rfl ?_
        refine r_bipush (v := nI 24) dX10_isFor_89 (by decide) ?_
        refine r_bipush (v := nI 36) dX10_isFor_91 (by decide) ?_
        refine r_iload_n 1 dX10_isFor_93 rfl rfl ?_
        refine r_callVp [_, _, _, _] dX10_isFor_94 ok_RX10_147 ivX10_isOf (by assumption) ⟨_, _, rfl⟩ rfl rfl (Nat.le_of_ble_eq_true rfl) (by refine ⟨?_, ?_, ?_, ?_⟩ <;> exact Nat.le_of_ble_eq_true rfl) (m_isOf hL (by omega) (by omega) s4 hse.2.2.1.1 s5 hse.2.2.1.2 hwk.1) ?_
        refine r_ifB_ne 102 dX10_isFor_97 (by decide) (fun h97 => ?_) (fun h97 => ?_)
        · refine r_iload 4 dX10_isFor_102 rfl ?_
          refine r_aload_n 0 dX10_isFor_104 rfl rfl ?_
          refine r_getR dX10_isFor_105 fl_RX10_7 rfl (by assumption) (by assumption) ?_
          refine r_bipush (v := nI 42) dX10_isFor_108 (by decide) ?_
          refine r_iload_n 1 dX10_isFor_110 rfl rfl ?_
          refine r_iaddN dX10_isFor_111 ?_
          refine r_ialdV dX10_isFor_112 (by assumption) (by omega) (by omega) (by first | assumption | exact up2_same _ _ _ _ | exact (Eq.trans (up2_ne _ _ (by omega)) (by first | assumption | exact up2_same _ _ _ _)) | exact (Eq.trans (up2_ne _ _ (by omega)) (Eq.trans (up2_ne _ _ (by omega)) (by first | assumption | exact up2_same _ _ _ _))) | exact (Eq.trans (up2_ne _ _ (by omega)) (Eq.trans (up2_ne _ _ (by omega)) (Eq.trans (up2_ne _ _ (by omega)) (by first | assumption | exact up2_same _ _ _ _)))) | exact (Eq.trans (up2_ne _ _ (by omega)) (Eq.trans (up2_ne _ _ (by omega)) (Eq.trans (up2_ne _ _ (by omega)) (Eq.trans (up2_ne _ _ (by omega)) (by first | assumption | exact up2_same _ _ _ _))))) | rfl) ?_
          refine r_icmpN_le 128 dX10_isFor_113 (by decide) (by omega) (by omega) (fun h113 => ?_) (fun h113 => ?_)
          · refine r_iload 4 dX10_isFor_128 rfl ?_
            refine r_iconst (v := nI 1) dX10_isFor_130 (by decide) ?_
            refine r_isubN dX10_isFor_131 (by omega) ?_
            refine r_istore 4 (ls2 := [_, _, _, _, _, _]) dX10_isFor_132 (by decide) (Nat.le_of_ble_eq_true rfl) rfl ?_
            exact K134 _ (by omega)
          · refine r_aload_n 0 dX10_isFor_116 rfl rfl ?_
            refine r_getR dX10_isFor_117 fl_RX10_7 rfl (by assumption) (by assumption) ?_
            refine r_bipush (v := nI 42) dX10_isFor_120 (by decide) ?_
            refine r_iload_n 1 dX10_isFor_122 rfl rfl ?_
            refine r_iaddN dX10_isFor_123 ?_
            refine r_ialdV dX10_isFor_124 (by assumption) (by omega) (by omega) (by first | assumption | exact up2_same _ _ _ _ | exact (Eq.trans (up2_ne _ _ (by omega)) (by first | assumption | exact up2_same _ _ _ _)) | exact (Eq.trans (up2_ne _ _ (by omega)) (Eq.trans (up2_ne _ _ (by omega)) (by first | assumption | exact up2_same _ _ _ _))) | exact (Eq.trans (up2_ne _ _ (by omega)) (Eq.trans (up2_ne _ _ (by omega)) (Eq.trans (up2_ne _ _ (by omega)) (by first | assumption | exact up2_same _ _ _ _)))) | exact (Eq.trans (up2_ne _ _ (by omega)) (Eq.trans (up2_ne _ _ (by omega)) (Eq.trans (up2_ne _ _ (by omega)) (Eq.trans (up2_ne _ _ (by omega)) (by first | assumption | exact up2_same _ _ _ _))))) | rfl) ?_
            refine r_goto 130 dX10_isFor_125 (by decide) ?_
            refine r_iconst (v := nI 1) dX10_isFor_130 (by decide) ?_
            refine r_isubN dX10_isFor_131 (by omega) ?_
            refine r_istore 4 (ls2 := [_, _, _, _, _, _]) dX10_isFor_132 (by decide) (Nat.le_of_ble_eq_true rfl) rfl ?_
            exact K134 _ (by omega)
        · first | exact absurd h84 hn0 | exact absurd hmem (by simpa using h97)
  have K40 : Wp yX10_isFor cX10_isFor 7 (some .boolean) (EI 1 z sh mr (PFo mi o (chg se p i))) 0 0 40 [.ref o, .int (nI s), .int (nI i), .int (nI (en 27 w.1)), .int (nI w.2.1), .int (nI (16 * en 27 se.1 + 1))] [] z sh mi mr := by
    refine r_iload_n 3 dX10_isFor_40 rfl rfl ?_
    refine r_aload_n 0 dX10_isFor_41 rfl rfl ?_
    refine r_getR dX10_isFor_42 fl_RX10_7 rfl (by assumption) (by assumption) ?_
    refine r_iconst (v := nI 0) dX10_isFor_45 (by decide) ?_
    refine r_iload_n 1 dX10_isFor_46 rfl rfl ?_
    refine r_iaddN dX10_isFor_47 ?_
    refine r_ialdV dX10_isFor_48 (by assumption) (by omega) (by omega) (by first | assumption | exact up2_same _ _ _ _ | exact (Eq.trans (up2_ne _ _ (by omega)) (by first | assumption | exact up2_same _ _ _ _)) | exact (Eq.trans (up2_ne _ _ (by omega)) (Eq.trans (up2_ne _ _ (by omega)) (by first | assumption | exact up2_same _ _ _ _))) | exact (Eq.trans (up2_ne _ _ (by omega)) (Eq.trans (up2_ne _ _ (by omega)) (Eq.trans (up2_ne _ _ (by omega)) (by first | assumption | exact up2_same _ _ _ _)))) | exact (Eq.trans (up2_ne _ _ (by omega)) (Eq.trans (up2_ne _ _ (by omega)) (Eq.trans (up2_ne _ _ (by omega)) (Eq.trans (up2_ne _ _ (by omega)) (by first | assumption | exact up2_same _ _ _ _))))) | rfl) ?_
    refine r_icmpN_eq 70 dX10_isFor_49 (by decide) (by omega) (by omega) (fun h49 => ?_) (fun h49 => ?_)
    · refine r_aload_n 0 dX10_isFor_70 rfl rfl ?_
      refine r_getR dX10_isFor_71 fl_RX10_23 rfl (by assumption) (by assumption) ?_
      refine r_iconst (v := nI 3) dX10_isFor_74 (by decide) ?_
      refine r_iload_n 2 dX10_isFor_75 rfl rfl ?_
      refine r_iaddN dX10_isFor_76 ?_
      refine r_iload 5 dX10_isFor_77 rfl ?_
      refine r_iast dX10_isFor_79 (by assumption) (by omega) (by omega) ?_
      refine r_iconst (v := nI 1) dX10_isFor_80 (by decide) ?_
      refine r_zret dX10_isFor_81 rfl (by first | exact b2_nar _ | decide) (Nat.le_of_ble_eq_true rfl) (Nat.le_of_ble_eq_true rfl) ?_
      refine ⟨rfl, rfl, rfl, fun y hy => up2_row _ _ hy, ?_⟩
      rw [hch, if_pos (by first | exact Or.inl (hin.mp h49) | exact Or.inr ⟨h54, by simpa using h67⟩)]
      exact ⟨rfl, hp.set (by rw [hsp])⟩
    · refine r_iload 4 dX10_isFor_52 rfl ?_
      refine r_ifN_ne 82 dX10_isFor_54 (by decide) (by omega) (fun h54 => ?_) (fun h54 => ?_)
      · first | exact K82 (by rintro (h | h); (exact h49 (hin.mpr h)); (exact h54 h.1)) | exact K82 (by rintro (h | h); (exact h49 (hin.mpr h)); (exact absurd h.2 (by simpa using h67)))
      · refine r_aload_n 0 dX10_isFor_57 rfl rfl ?_
        refine r_iload_n 3 dX10_isFor_58 rfl rfl ?_
        refine r_bipush (v := nI 6) dX10_isFor_59 (by decide) ?_
        refine r_bipush (v := nI 18) dX10_isFor_61 (by decide) ?_
        refine r_iload_n 1 dX10_isFor_63 rfl rfl ?_
        refine r_callVp [_, _, _, _] dX10_isFor_64 ok_RX10_147 ivX10_isOf (by assumption) ⟨_, _, rfl⟩ rfl rfl (Nat.le_of_ble_eq_true rfl) (by refine ⟨?_, ?_, ?_, ?_⟩ <;> exact Nat.le_of_ble_eq_true rfl) (m_isOf hL (by omega) (by omega) s2 hse.2.1.1 s3 hse.2.1.2 hwk.1) ?_
        refine r_ifB_eq 82 dX10_isFor_67 (by decide) (fun h67 => ?_) (fun h67 => ?_)
        · first | exact K82 (by rintro (h | h); (exact h49 (hin.mpr h)); (exact h54 h.1)) | exact K82 (by rintro (h | h); (exact h49 (hin.mpr h)); (exact absurd h.2 (by simpa using h67)))
        · refine r_aload_n 0 dX10_isFor_70 rfl rfl ?_
          refine r_getR dX10_isFor_71 fl_RX10_23 rfl (by assumption) (by assumption) ?_
          refine r_iconst (v := nI 3) dX10_isFor_74 (by decide) ?_
          refine r_iload_n 2 dX10_isFor_75 rfl rfl ?_
          refine r_iaddN dX10_isFor_76 ?_
          refine r_iload 5 dX10_isFor_77 rfl ?_
          refine r_iast dX10_isFor_79 (by assumption) (by omega) (by omega) ?_
          refine r_iconst (v := nI 1) dX10_isFor_80 (by decide) ?_
          refine r_zret dX10_isFor_81 rfl (by first | exact b2_nar _ | decide) (Nat.le_of_ble_eq_true rfl) (Nat.le_of_ble_eq_true rfl) ?_
          refine ⟨rfl, rfl, rfl, fun y hy => up2_row _ _ hy, ?_⟩
          rw [hch, if_pos (by first | exact Or.inl (hin.mp h49) | exact Or.inr ⟨h54, by simpa using h67⟩)]
          exact ⟨rfl, hp.set (by rw [hsp])⟩
  refine Mv.of pnX10_isFor (Nat.le_of_ble_eq_true rfl) rfl ?_
  refine r_aload_n 0 dX10_isFor_0 rfl rfl ?_
  refine r_getR dX10_isFor_1 fl_RX10_23 rfl (by assumption) (by assumption) ?_
  refine r_iconst (v := nI 3) dX10_isFor_4 (by decide) ?_
  refine r_iload_n 2 dX10_isFor_5 rfl rfl ?_
  refine r_iaddN dX10_isFor_6 ?_
  refine r_ialdV dX10_isFor_7 (by assumption) (by omega) (by omega) (by first | assumption | exact up2_same _ _ _ _ | exact (Eq.trans (up2_ne _ _ (by omega)) (by first | assumption | exact up2_same _ _ _ _)) | exact (Eq.trans (up2_ne _ _ (by omega)) (Eq.trans (up2_ne _ _ (by omega)) (by first | assumption | exact up2_same _ _ _ _))) | exact (Eq.trans (up2_ne _ _ (by omega)) (Eq.trans (up2_ne _ _ (by omega)) (Eq.trans (up2_ne _ _ (by omega)) (by first | assumption | exact up2_same _ _ _ _)))) | exact (Eq.trans (up2_ne _ _ (by omega)) (Eq.trans (up2_ne _ _ (by omega)) (Eq.trans (up2_ne _ _ (by omega)) (Eq.trans (up2_ne _ _ (by omega)) (by first | assumption | exact up2_same _ _ _ _))))) | rfl) ?_
  refine r_bipush (v := nI 16) dX10_isFor_8 (by decide) ?_
  refine r_idivN dX10_isFor_10 (by omega) (by omega) (by omega) ?_
  rw [hd]
  refine r_istore_n 3 (ls2 := [_, _, _, _]) dX10_isFor_11 rfl (by decide) (Nat.le_of_ble_eq_true rfl) rfl ?_
  refine r_aload_n 0 dX10_isFor_12 rfl rfl ?_
  refine r_getR dX10_isFor_13 fl_RX10_23 rfl (by assumption) (by assumption) ?_
  refine r_iconst (v := nI 3) dX10_isFor_16 (by decide) ?_
  refine r_iload_n 2 dX10_isFor_17 rfl rfl ?_
  refine r_iaddN dX10_isFor_18 ?_
  refine r_ialdV dX10_isFor_19 (by assumption) (by omega) (by omega) (by first | assumption | exact up2_same _ _ _ _ | exact (Eq.trans (up2_ne _ _ (by omega)) (by first | assumption | exact up2_same _ _ _ _)) | exact (Eq.trans (up2_ne _ _ (by omega)) (Eq.trans (up2_ne _ _ (by omega)) (by first | assumption | exact up2_same _ _ _ _))) | exact (Eq.trans (up2_ne _ _ (by omega)) (Eq.trans (up2_ne _ _ (by omega)) (Eq.trans (up2_ne _ _ (by omega)) (by first | assumption | exact up2_same _ _ _ _)))) | exact (Eq.trans (up2_ne _ _ (by omega)) (Eq.trans (up2_ne _ _ (by omega)) (Eq.trans (up2_ne _ _ (by omega)) (Eq.trans (up2_ne _ _ (by omega)) (by first | assumption | exact up2_same _ _ _ _))))) | rfl) ?_
  refine r_callSp [_] dX10_isFor_20 ok_RX10_144 isX10_hopsOf rfl rfl (Nat.le_of_ble_eq_true rfl) (by refine ⟨?_, ?_, ?_, ?_⟩ <;> exact Nat.le_of_ble_eq_true rfl) (m_hoW hwk) ?_
  refine r_istore 4 (ls2 := [_, _, _, _, _]) dX10_isFor_23 (by decide) (Nat.le_of_ble_eq_true rfl) rfl ?_
  refine r_bipush (v := nI 16) dX10_isFor_25 (by decide) ?_
  refine r_aload_n 0 dX10_isFor_27 rfl rfl ?_
  refine r_getR dX10_isFor_28 fl_RX10_7 rfl (by assumption) (by assumption) ?_
  refine r_iconst (v := nI 0) dX10_isFor_31 (by decide) ?_
  refine r_iload_n 1 dX10_isFor_32 rfl rfl ?_
  refine r_iaddN dX10_isFor_33 ?_
  refine r_ialdV dX10_isFor_34 (by assumption) (by omega) (by omega) (by first | assumption | exact up2_same _ _ _ _ | exact (Eq.trans (up2_ne _ _ (by omega)) (by first | assumption | exact up2_same _ _ _ _)) | exact (Eq.trans (up2_ne _ _ (by omega)) (Eq.trans (up2_ne _ _ (by omega)) (by first | assumption | exact up2_same _ _ _ _))) | exact (Eq.trans (up2_ne _ _ (by omega)) (Eq.trans (up2_ne _ _ (by omega)) (Eq.trans (up2_ne _ _ (by omega)) (by first | assumption | exact up2_same _ _ _ _)))) | exact (Eq.trans (up2_ne _ _ (by omega)) (Eq.trans (up2_ne _ _ (by omega)) (Eq.trans (up2_ne _ _ (by omega)) (Eq.trans (up2_ne _ _ (by omega)) (by first | assumption | exact up2_same _ _ _ _))))) | rfl) ?_
  refine r_imulN dX10_isFor_35 ?_
  refine r_iconst (v := nI 1) dX10_isFor_36 (by decide) ?_
  refine r_iaddN dX10_isFor_37 ?_
  refine r_istore 5 (ls2 := [_, _, _, _, _, _]) dX10_isFor_38 (by decide) (Nat.le_of_ble_eq_true rfl) rfl ?_
  exact K40
end RFOR
