section NET2
variable {z : Nat} {sh : SH} {mi : MI} {mr : MR} {a : Nat}
def NtC (mi : MI) (mr : MR) (a : Nat) (n : Nt) : Prop := mi a 2 = nI n.2.2 ∧ ∀ s, s < 6 → mi (a + 2) s = nI (bs (n.2.1 s)) ∧ StC mi mr (a + 3 + 43 * s) (n.1 s)
def okNt (n : Nt) : Prop := (∀ s, s < 6 → okSt (n.1 s) n.2.2) ∧ ∀ s t, s < 6 → t < 6 → (n.1 s).1.1 = (n.1 t).1.1 → s = t
def psum (f : Nat → Nat) : Nat → Nat
  | 0 => 0
  | i + 1 => psum f i + f i
theorem psum6 (f : Nat → Nat) : psum f 6 = sum6 f := by simp [psum, sum6]
theorem psum_le {f : Nat → Nat} {c : Nat} (h : ∀ j, j < 6 → f j ≤ c) : ∀ i, i ≤ 6 → psum f i ≤ c * i
  | 0, _ => Nat.zero_le _
  | i + 1, hi => by
    have := psum_le h i (by omega)
    have := h i (by omega)
    rw [psum, Nat.mul_succ]; omega
theorem c_keptByAll (hL : LNt sh mr a) {n : Nt} (hN : NtC mi mr a n) (hok : ∀ s, s < 6 → (n.1 s).2.2.1.length ≤ 12) : Mp mX3_keptByAll 0 [.ref a] z sh mi mr (nI (keptA n)) := by
  obtain ⟨l0, l1, l2, l3, l4, l5⟩ := id hL
  have H : ∀ k i : Nat, i + k = 6 → Wp yX3_keptByAll cX3_keptByAll 3 (some .int) (EP 0 z sh mr mi (nI (keptA n))) 0 0 4 [.ref a, .int (nI (psum (fun s => (n.1 s).2.2.1.length) i)), .int (nI i)] [] z sh mi mr := by
    intro k
    induction k with
    | zero =>
      intro i hi
      have hi6 : i = 6 := by omega
      subst hi6
      refine r_iload_n 2 dX3_keptByAll_4 rfl rfl ?_
      refine r_bipush (v := nI 6) dX3_keptByAll_5 (by decide) ?_
      refine r_icmpN_ge 31 dX3_keptByAll_7 (by decide) (by omega) (by omega) (fun h7 => ?_) (fun h7 => ?_)
      · refine r_iload_n 1 dX3_keptByAll_31 rfl rfl ?_
        refine r_iret dX3_keptByAll_32 rfl (Nat.le_of_ble_eq_true rfl) (Nat.le_of_ble_eq_true rfl) ?_
        exact ⟨rfl, rfl, rfl, by rw [psum6]; rfl, rfl⟩
      · omega
    | succ k ih =>
      intro i hi
      obtain ⟨r1, hLs⟩ := l5 i (by omega)
      obtain ⟨s0, -, -, -, ⟨s7, s8⟩, -⟩ := hLs
      have s9 := s8.1
      have hk := (hN.2 i (by omega)).2.2.2.1.1
      refine r_iload_n 2 dX3_keptByAll_4 rfl rfl ?_
      refine r_bipush (v := nI 6) dX3_keptByAll_5 (by decide) ?_
      refine r_icmpN_ge 31 dX3_keptByAll_7 (by decide) (by omega) (by omega) (fun h7 => ?_) (fun h7 => ?_)
      · omega
      · refine r_iload_n 1 dX3_keptByAll_10 rfl rfl ?_
        refine r_aload_n 0 dX3_keptByAll_11 rfl rfl ?_
        refine r_getR dX3_keptByAll_12 fl_RX3_11 rfl (by assumption) (by assumption) ?_
        refine r_iload_n 2 dX3_keptByAll_15 rfl rfl ?_
        refine r_aald dX3_keptByAll_16 (by assumption) (by decide) (by intro _; rfl) (by omega) (by omega) (by assumption) ?_
        refine r_getR dX3_keptByAll_17 fl_RX3_69 rfl (by assumption) (by assumption) ?_
        refine r_getV dX3_keptByAll_20 fl_RX3_73 rfl (by assumption) (by first | assumption | exact up2_same _ _ _ _ | exact (Eq.trans (up2_ne _ _ (by omega)) (by first | assumption | exact up2_same _ _ _ _)) | exact (Eq.trans (up2_ne _ _ (by omega)) (Eq.trans (up2_ne _ _ (by omega)) (by first | assumption | exact up2_same _ _ _ _))) | exact (Eq.trans (up2_ne _ _ (by omega)) (Eq.trans (up2_ne _ _ (by omega)) (Eq.trans (up2_ne _ _ (by omega)) (by first | assumption | exact up2_same _ _ _ _)))) | exact (Eq.trans (up2_ne _ _ (by omega)) (Eq.trans (up2_ne _ _ (by omega)) (Eq.trans (up2_ne _ _ (by omega)) (Eq.trans (up2_ne _ _ (by omega)) (by first | assumption | exact up2_same _ _ _ _))))) | rfl) ?_
        refine r_iaddN dX3_keptByAll_23 ?_
        refine r_istore_n 1 (ls2 := [_, _, _]) dX3_keptByAll_24 rfl (by decide) (Nat.le_of_ble_eq_true rfl) rfl ?_
        refine r_iincN 2 (b := 1) (ls2 := [_, _, _]) dX3_keptByAll_25 rfl (by decide) (by decide) rfl ?_
        refine r_goto 4 dX3_keptByAll_28 (by decide) ?_
        exact ih (i + 1) (by omega)
  refine Mv.of pnX3_keptByAll (Nat.le_of_ble_eq_true rfl) rfl ?_
  refine r_iconst (v := nI 0) dX3_keptByAll_0 (by decide) ?_
  refine r_istore_n 1 (ls2 := [_, _]) dX3_keptByAll_1 rfl (by decide) (Nat.le_of_ble_eq_true rfl) rfl ?_
  refine r_iconst (v := nI 0) dX3_keptByAll_2 (by decide) ?_
  refine r_istore_n 2 (ls2 := [_, _, _]) dX3_keptByAll_3 rfl (by decide) (Nat.le_of_ble_eq_true rfl) rfl ?_
  exact H 6 0 rfl
theorem c_tally (hL : LNt sh mr a) {n : Nt} (hN : NtC mi mr a n) {w : Nat} (hw : w < 9) : Mp mX3_tallyOfAll 0 [.ref a, .int (nI w)] z sh mi mr (nI (sum6 (fun s => (n.1 s).2.1 w))) := by
  obtain ⟨l0, l1, l2, l3, l4, l5⟩ := id hL
  have H : ∀ k i : Nat, i + k = 6 → Wp yX3_tallyOfAll cX3_tallyOfAll 4 (some .int) (EP 0 z sh mr mi (nI (sum6 (fun s => (n.1 s).2.1 w)))) 0 0 4 [.ref a, .int (nI w), .int (nI (psum (fun s => (n.1 s).2.1 w) i)), .int (nI i)] [] z sh mi mr := by
    intro k
    induction k with
    | zero =>
      intro i hi
      have hi6 : i = 6 := by omega
      subst hi6
      refine r_iload_n 3 dX3_tallyOfAll_4 rfl rfl ?_
      refine r_bipush (v := nI 6) dX3_tallyOfAll_5 (by decide) ?_
      refine r_icmpN_ge 40 dX3_tallyOfAll_7 (by decide) (by omega) (by omega) (fun h7 => ?_) (fun h7 => ?_)
      · refine r_iload_n 2 dX3_tallyOfAll_40 rfl rfl ?_
        refine r_iret dX3_tallyOfAll_41 rfl (Nat.le_of_ble_eq_true rfl) (Nat.le_of_ble_eq_true rfl) ?_
        exact ⟨rfl, rfl, rfl, by rw [psum6], rfl⟩
      · omega
    | succ k ih =>
      intro i hi
      obtain ⟨r1, hLs⟩ := l5 i (by omega)
      obtain ⟨s0, -, -, ⟨s5, s6⟩, -⟩ := hLs
      have hk := (hN.2 i (by omega)).2.2.1 w hw
      refine r_iload_n 3 dX3_tallyOfAll_4 rfl rfl ?_
      refine r_bipush (v := nI 6) dX3_tallyOfAll_5 (by decide) ?_
      refine r_icmpN_ge 40 dX3_tallyOfAll_7 (by decide) (by omega) (by omega) (fun h7 => ?_) (fun h7 => ?_)
      · omega
      · refine r_iload_n 1 dX3_tallyOfAll_10 rfl rfl ?_
        refine r_ifN_lt 40 dX3_tallyOfAll_11 (by decide) (by omega) ?_
        refine r_iload_n 1 dX3_tallyOfAll_14 rfl rfl ?_
        refine r_bipush (v := nI 9) dX3_tallyOfAll_15 (by decide) ?_
        refine r_icmpN_ge 40 dX3_tallyOfAll_17 (by decide) (by omega) (by omega) (fun h17 => ?_) (fun h17 => ?_)
        · omega
        · refine r_iload_n 2 dX3_tallyOfAll_20 rfl rfl ?_
          refine r_aload_n 0 dX3_tallyOfAll_21 rfl rfl ?_
          refine r_getR dX3_tallyOfAll_22 fl_RX3_11 rfl (by assumption) (by assumption) ?_
          refine r_iload_n 3 dX3_tallyOfAll_25 rfl rfl ?_
          refine r_aald dX3_tallyOfAll_26 (by assumption) (by decide) (by intro _; rfl) (by omega) (by omega) (by assumption) ?_
          refine r_getR dX3_tallyOfAll_27 fl_RX3_55 rfl (by assumption) (by assumption) ?_
          refine r_iload_n 1 dX3_tallyOfAll_30 rfl rfl ?_
          refine r_ialdV dX3_tallyOfAll_31 (by assumption) (by omega) (by omega) (by first | assumption | exact up2_same _ _ _ _ | exact (Eq.trans (up2_ne _ _ (by omega)) (by first | assumption | exact up2_same _ _ _ _)) | exact (Eq.trans (up2_ne _ _ (by omega)) (Eq.trans (up2_ne _ _ (by omega)) (by first | assumption | exact up2_same _ _ _ _))) | exact (Eq.trans (up2_ne _ _ (by omega)) (Eq.trans (up2_ne _ _ (by omega)) (Eq.trans (up2_ne _ _ (by omega)) (by first | assumption | exact up2_same _ _ _ _)))) | exact (Eq.trans (up2_ne _ _ (by omega)) (Eq.trans (up2_ne _ _ (by omega)) (Eq.trans (up2_ne _ _ (by omega)) (Eq.trans (up2_ne _ _ (by omega)) (by first | assumption | exact up2_same _ _ _ _))))) | rfl) ?_
          refine r_iaddN dX3_tallyOfAll_32 ?_
          refine r_istore_n 2 (ls2 := [_, _, _, _]) dX3_tallyOfAll_33 rfl (by decide) (Nat.le_of_ble_eq_true rfl) rfl ?_
          refine r_iincN 3 (b := 1) (ls2 := [_, _, _, _]) dX3_tallyOfAll_34 rfl (by decide) (by decide) rfl ?_
          refine r_goto 4 dX3_tallyOfAll_37 (by decide) ?_
          exact ih (i + 1) (by omega)
  refine Mv.of pnX3_tallyOfAll (Nat.le_of_ble_eq_true rfl) rfl ?_
  refine r_iconst (v := nI 0) dX3_tallyOfAll_0 (by decide) ?_
  refine r_istore_n 2 (ls2 := [_, _, _]) dX3_tallyOfAll_1 rfl (by decide) (Nat.le_of_ble_eq_true rfl) rfl ?_
  refine r_iconst (v := nI 0) dX3_tallyOfAll_2 (by decide) ?_
  refine r_istore_n 3 (ls2 := [_, _, _, _]) dX3_tallyOfAll_3 rfl (by decide) (Nat.le_of_ble_eq_true rfl) rfl ?_
  exact H 6 0 rfl
theorem c_pairs (hL : LNt sh mr a) {n : Nt} (hN : NtC mi mr a n) : Mp mX3_pairsNear 1 [.ref a] z sh mi mr (nI (sum6 (fun s => cn6 (n.2.1 s)) / 2)) := by
  obtain ⟨l0, l1, l2, l3, l4, l5⟩ := id hL
  have hc6 : ∀ g, cn6 g ≤ 6 := fun g => by
    unfold cn6 sum6
    have := bn_le (g 0); have := bn_le (g 1); have := bn_le (g 2); have := bn_le (g 3); have := bn_le (g 4); have := bn_le (g 5)
    dsimp only; omega
  have hps := psum_le (f := fun s => cn6 (n.2.1 s)) (c := 6) (fun j _ => hc6 _)
  have H : ∀ k i : Nat, i + k = 6 → Wp yX3_pairsNear cX3_pairsNear 3 (some .int) (EP 1 z sh mr mi (nI (sum6 (fun s => cn6 (n.2.1 s)) / 2))) 0 0 4 [.ref a, .int (nI (psum (fun s => cn6 (n.2.1 s)) i)), .int (nI i)] [] z sh mi mr := by
    intro k
    induction k with
    | zero =>
      intro i hi
      have hi6 : i = 6 := by omega
      subst hi6
      have h6 := hps 6 (by omega)
      refine r_iload_n 2 dX3_pairsNear_4 rfl rfl ?_
      refine r_bipush (v := nI 6) dX3_pairsNear_5 (by decide) ?_
      refine r_icmpN_ge 28 dX3_pairsNear_7 (by decide) (by omega) (by omega) (fun h7 => ?_) (fun h7 => ?_)
      · refine r_iload_n 1 dX3_pairsNear_28 rfl rfl ?_
        refine r_iconst (v := nI 2) dX3_pairsNear_29 (by decide) ?_
        refine r_idivN dX3_pairsNear_30 (by omega) (by omega) (by omega) ?_
        refine r_iret dX3_pairsNear_31 rfl (Nat.le_of_ble_eq_true rfl) (Nat.le_of_ble_eq_true rfl) ?_
        exact ⟨rfl, rfl, rfl, by rw [psum6], rfl⟩
      · omega
    | succ k ih =>
      intro i hi
      have hk := (hN.2 i (by omega)).1
      refine r_iload_n 2 dX3_pairsNear_4 rfl rfl ?_
      refine r_bipush (v := nI 6) dX3_pairsNear_5 (by decide) ?_
      refine r_icmpN_ge 28 dX3_pairsNear_7 (by decide) (by omega) (by omega) (fun h7 => ?_) (fun h7 => ?_)
      · omega
      · refine r_iload_n 1 dX3_pairsNear_10 rfl rfl ?_
        refine r_aload_n 0 dX3_pairsNear_11 rfl rfl ?_
        refine r_getR dX3_pairsNear_12 fl_RX3_17 rfl (by assumption) (by assumption) ?_
        refine r_iload_n 2 dX3_pairsNear_15 rfl rfl ?_
        refine r_ialdV dX3_pairsNear_16 (by assumption) (by omega) (by omega) (by first | assumption | exact up2_same _ _ _ _ | exact (Eq.trans (up2_ne _ _ (by omega)) (by first | assumption | exact up2_same _ _ _ _)) | exact (Eq.trans (up2_ne _ _ (by omega)) (Eq.trans (up2_ne _ _ (by omega)) (by first | assumption | exact up2_same _ _ _ _))) | exact (Eq.trans (up2_ne _ _ (by omega)) (Eq.trans (up2_ne _ _ (by omega)) (Eq.trans (up2_ne _ _ (by omega)) (by first | assumption | exact up2_same _ _ _ _)))) | exact (Eq.trans (up2_ne _ _ (by omega)) (Eq.trans (up2_ne _ _ (by omega)) (Eq.trans (up2_ne _ _ (by omega)) (Eq.trans (up2_ne _ _ (by omega)) (by first | assumption | exact up2_same _ _ _ _))))) | rfl) ?_
        refine r_callSp [_] dX3_pairsNear_17 ok_RX3_50 isJ6_bitCount_0f7a4 rfl rfl (Nat.le_of_ble_eq_true rfl) (by refine ⟨?_, ?_, ?_, ?_⟩ <;> exact Nat.le_of_ble_eq_true rfl) (c_bitCount (n.2.1 i)) ?_
        refine r_iaddN dX3_pairsNear_20 ?_
        refine r_istore_n 1 (ls2 := [_, _, _]) dX3_pairsNear_21 rfl (by decide) (Nat.le_of_ble_eq_true rfl) rfl ?_
        refine r_iincN 2 (b := 1) (ls2 := [_, _, _]) dX3_pairsNear_22 rfl (by decide) (by decide) rfl ?_
        refine r_goto 4 dX3_pairsNear_25 (by decide) ?_
        exact ih (i + 1) (by omega)
  refine Mv.of pnX3_pairsNear (Nat.le_of_ble_eq_true rfl) rfl ?_
  refine r_iconst (v := nI 0) dX3_pairsNear_0 (by decide) ?_
  refine r_istore_n 1 (ls2 := [_, _]) dX3_pairsNear_1 rfl (by decide) (Nat.le_of_ble_eq_true rfl) rfl ?_
  refine r_iconst (v := nI 0) dX3_pairsNear_2 (by decide) ?_
  refine r_istore_n 2 (ls2 := [_, _, _]) dX3_pairsNear_3 rfl (by decide) (Nat.le_of_ble_eq_true rfl) rfl ?_
  exact H 6 0 rfl
theorem c_hearers (hL : LNt sh mr a) {n : Nt} (hN : NtC mi mr a n) (hok : ∀ s, s < 6 → (n.1 s).2.1 1 < 2 ^ 31) : Mp mX3_hearers 1 [.ref a] z sh mi mr (nI (bs (fun s => decide (0 < (n.1 s).2.1 1)))) := by
  obtain ⟨l0, l1, l2, l3, l4, l5⟩ := id hL
  have H : ∀ k i v : Nat, i + k = 6 → v = bs (fun s => decide (s < i) && decide (0 < (n.1 s).2.1 1)) → Wp yX3_hearers cX3_hearers 3 (some .int) (EP 1 z sh mr mi (nI (bs (fun s => decide (0 < (n.1 s).2.1 1))))) 0 0 4 [.ref a, .int (nI v), .int (nI i)] [] z sh mi mr := by
    intro k
    induction k with
    | zero =>
      intro i v hi hv
      have hi6 : i = 6 := by omega
      subst hi6
      have hv2 : v = bs (fun s => decide (0 < (n.1 s).2.1 1)) := hv.trans (bs_eq (fun q hq => by simp [hq]))
      refine r_iload_n 2 dX3_hearers_4 rfl rfl ?_
      refine r_bipush (v := nI 6) dX3_hearers_5 (by decide) ?_
      refine r_icmpN_ge 34 dX3_hearers_7 (by decide) (by omega) (by omega) (fun h7 => ?_) (fun h7 => ?_)
      · refine r_iload_n 1 dX3_hearers_34 rfl rfl ?_
        refine r_iret dX3_hearers_35 rfl (Nat.le_of_ble_eq_true rfl) (Nat.le_of_ble_eq_true rfl) ?_
        exact ⟨rfl, rfl, rfl, by rw [hv2], rfl⟩
      · omega
    | succ k ih =>
      intro i v hi hv
      obtain ⟨r1, hLs⟩ := l5 i (by omega)
      have s0 := hLs.1
      have hT := (hN.2 i (by omega)).2.2.1
      have h2 : 1 * 2 ^ i < 2 ^ 32 := by have := Nat.pow_lt_pow_right (a := 2) (by omega) (show i < 32 by omega); omega
      have hlt : ∀ q, q ≠ i → decide (q < i) = decide (q < i + 1) := fun q e => by simp only [decide_eq_decide]; omega
      have K1 : decide (0 < (n.1 i).2.1 1) = false → v = bs (fun s => decide (s < i + 1) && decide (0 < (n.1 s).2.1 1)) := fun h => by
        rw [hv]
        refine bs_eq (fun q hq => ?_)
        by_cases e : q = i
        · subst e; rw [h]; simp
        · rw [hlt q e]
      have K2 : decide (0 < (n.1 i).2.1 1) = true → v ||| 1 * 2 ^ i = bs (fun s => decide (s < i + 1) && decide (0 < (n.1 s).2.1 1)) := fun h => by
        rw [hv, bs_or _ (by omega)]
        refine bs_eq (fun q hq => ?_)
        unfold upB
        by_cases e : q = i
        · subst e; rw [if_pos rfl, h]; simp
        · rw [if_neg e]; dsimp only; rw [hlt q e]
      refine r_iload_n 2 dX3_hearers_4 rfl rfl ?_
      refine r_bipush (v := nI 6) dX3_hearers_5 (by decide) ?_
      refine r_icmpN_ge 34 dX3_hearers_7 (by decide) (by omega) (by omega) (fun h7 => ?_) (fun h7 => ?_)
      · omega
      · refine r_aload_n 0 dX3_hearers_10 rfl rfl ?_
        refine r_getR dX3_hearers_11 fl_RX3_11 rfl (by assumption) (by assumption) ?_
        refine r_iload_n 2 dX3_hearers_14 rfl rfl ?_
        refine r_aald dX3_hearers_15 (by assumption) (by decide) (by intro _; rfl) (by omega) (by omega) (by assumption) ?_
        refine r_callVp [] dX3_hearers_16 ok_RX3_78 ivX6_hasHeard (by assumption) ⟨_, _, rfl⟩ rfl rfl (Nat.le_of_ble_eq_true rfl) (by refine ⟨?_, ?_, ?_, ?_⟩ <;> exact Nat.le_of_ble_eq_true rfl) (c_hasHeard hLs hT (hok i (by omega))) ?_
        refine r_ifB_eq 28 dX3_hearers_19 (by decide) (fun h19 => ?_) (fun h19 => ?_)
        · refine r_iincN 2 (b := 1) (ls2 := [_, _, _]) dX3_hearers_28 rfl (by decide) (by decide) rfl ?_
          refine r_goto 4 dX3_hearers_31 (by decide) ?_
          first | exact ih (i + 1) _ (by omega) (K1 h19) | exact ih (i + 1) _ (by omega) (K2 h19)
        · refine r_iload_n 1 dX3_hearers_22 rfl rfl ?_
          refine r_iconst (v := nI 1) dX3_hearers_23 (by decide) ?_
          refine r_iload_n 2 dX3_hearers_24 rfl rfl ?_
          refine r_ishlN dX3_hearers_25 (by omega) (by omega) ?_
          refine r_iorN dX3_hearers_26 ?_
          refine r_istore_n 1 (ls2 := [_, _, _]) dX3_hearers_27 rfl (by decide) (Nat.le_of_ble_eq_true rfl) rfl ?_
          refine r_iincN 2 (b := 1) (ls2 := [_, _, _]) dX3_hearers_28 rfl (by decide) (by decide) rfl ?_
          refine r_goto 4 dX3_hearers_31 (by decide) ?_
          first | exact ih (i + 1) _ (by omega) (K1 h19) | exact ih (i + 1) _ (by omega) (K2 h19)
  refine Mv.of pnX3_hearers (Nat.le_of_ble_eq_true rfl) rfl ?_
  refine r_iconst (v := nI 0) dX3_hearers_0 (by decide) ?_
  refine r_istore_n 1 (ls2 := [_, _]) dX3_hearers_1 rfl (by decide) (Nat.le_of_ble_eq_true rfl) rfl ?_
  refine r_iconst (v := nI 0) dX3_hearers_2 (by decide) ?_
  refine r_istore_n 2 (ls2 := [_, _, _]) dX3_hearers_3 rfl (by decide) (Nat.le_of_ble_eq_true rfl) rfl ?_
  exact H 6 0 0 rfl (by rw [bs_eq (g := fun _ => false) (fun q _ => by simp)]; rfl)
theorem c_called (hL : LNt sh mr a) {n : Nt} (hN : NtC mi mr a n) (hok : ∀ s, s < 6 → okL 3 (n.1 s).1.1) {c : Nm} (hc : okL 3 c) : Mp mX3_stationCalled 0 [.ref a, .int (nI (en 32 c))] z sh mi mr (match fs6 (fun s => (n.1 s).1.1 == c) with | some q => nI q | none => -6) := by
  obtain ⟨l0, l1, l2, l3, l4, l5⟩ := id hL
  have hcl := okL_32 hc
  have H : ∀ k i : Nat, i + k = 6 → (∀ j, j < i → ((n.1 j).1.1 == c) = false) → Wp yX3_stationCalled cX3_stationCalled 3 (some .int) (EP 0 z sh mr mi (match fs6 (fun s => (n.1 s).1.1 == c) with | some q => nI q | none => -6)) 0 0 2 [.ref a, .int (nI (en 32 c)), .int (nI i)] [] z sh mi mr := by
    intro k
    induction k with
    | zero =>
      intro i hi hb
      refine r_iload_n 2 dX3_stationCalled_2 rfl rfl ?_
      refine r_bipush (v := nI 6) dX3_stationCalled_3 (by decide) ?_
      refine r_icmpN_ge 29 dX3_stationCalled_5 (by decide) (by omega) (by omega) (fun h5 => ?_) (fun h5 => ?_)
      · refine r_bipush (v := -6) dX3_stationCalled_29 (by decide) ?_
        refine r_iret dX3_stationCalled_31 rfl (Nat.le_of_ble_eq_true rfl) (Nat.le_of_ble_eq_true rfl) ?_
        refine ⟨rfl, rfl, rfl, ?_, rfl⟩
        rw [show fs6 (fun s => (n.1 s).1.1 == c) = none from fr_no (fun j hj => hb j (by omega))]
      · omega
    | succ k ih =>
      intro i hi hb
      obtain ⟨r1, hLs⟩ := l5 i (by omega)
      have s0 := hLs.1
      have hk := (hN.2 i (by omega)).2.1.1
      have hki := okL_32 (hok i (by omega))
      refine r_iload_n 2 dX3_stationCalled_2 rfl rfl ?_
      refine r_bipush (v := nI 6) dX3_stationCalled_3 (by decide) ?_
      refine r_icmpN_ge 29 dX3_stationCalled_5 (by decide) (by omega) (by omega) (fun h5 => ?_) (fun h5 => ?_)
      · omega
      · refine r_aload_n 0 dX3_stationCalled_8 rfl rfl ?_
        refine r_getR dX3_stationCalled_9 fl_RX3_11 rfl (by assumption) (by assumption) ?_
        refine r_iload_n 2 dX3_stationCalled_12 rfl rfl ?_
        refine r_aald dX3_stationCalled_13 (by assumption) (by decide) (by intro _; rfl) (by omega) (by omega) (by assumption) ?_
        refine r_getV dX3_stationCalled_14 fl_RX3_66 rfl (by assumption) (by first | assumption | exact up2_same _ _ _ _ | exact (Eq.trans (up2_ne _ _ (by omega)) (by first | assumption | exact up2_same _ _ _ _)) | exact (Eq.trans (up2_ne _ _ (by omega)) (Eq.trans (up2_ne _ _ (by omega)) (by first | assumption | exact up2_same _ _ _ _))) | exact (Eq.trans (up2_ne _ _ (by omega)) (Eq.trans (up2_ne _ _ (by omega)) (Eq.trans (up2_ne _ _ (by omega)) (by first | assumption | exact up2_same _ _ _ _)))) | exact (Eq.trans (up2_ne _ _ (by omega)) (Eq.trans (up2_ne _ _ (by omega)) (Eq.trans (up2_ne _ _ (by omega)) (Eq.trans (up2_ne _ _ (by omega)) (by first | assumption | exact up2_same _ _ _ _))))) | rfl) ?_
        refine r_iload_n 1 dX3_stationCalled_17 rfl rfl ?_
        refine r_icmpN_ne 23 dX3_stationCalled_18 (by decide) (by omega) (by omega) (fun h18 => ?_) (fun h18 => ?_)
        · refine r_iincN 2 (b := 1) (ls2 := [_, _, _]) dX3_stationCalled_23 rfl (by decide) (by decide) rfl ?_
          refine r_goto 2 dX3_stationCalled_26 (by decide) ?_
          refine ih (i + 1) (by omega) (fun j hj => ?_)
          rcases Nat.lt_or_ge j i with q | q
          · exact hb j q
          · rw [show j = i by omega]
            have : (n.1 i).1.1 ≠ c := fun e => h18 (by rw [e])
            simpa using this
        · refine r_iload_n 2 dX3_stationCalled_21 rfl rfl ?_
          refine r_iret dX3_stationCalled_22 rfl (Nat.le_of_ble_eq_true rfl) (Nat.le_of_ble_eq_true rfl) ?_
          refine ⟨rfl, rfl, rfl, ?_, rfl⟩
          rw [show fs6 (fun s => (n.1 s).1.1 == c) = some i from fr_at (by omega) (by simpa using (okL_inj (b := 32) (hok i (by omega)) hc (by omega)).mp h18) hb]
  refine Mv.of pnX3_stationCalled (Nat.le_of_ble_eq_true rfl) rfl ?_
  refine r_iconst (v := nI 0) dX3_stationCalled_0 (by decide) ?_
  refine r_istore_n 2 (ls2 := [_, _, _]) dX3_stationCalled_1 rfl (by decide) (Nat.le_of_ble_eq_true rfl) rfl ?_
  exact H 6 0 rfl (fun j hj => by omega)
end NET2
