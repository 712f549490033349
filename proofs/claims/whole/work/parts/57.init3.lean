section INIT3
variable {z : Nat} {sh : SH} {mi : MI} {mr : MR} {a : Nat}
theorem st0_len (v : Nat) : (st0 v).2.2.1.length ≤ 12 := Nat.zero_le _
theorem bs_0 : bs (fun _ => false) = 0 := rfl
theorem i_nt (hs : sh a = (3, 0)) (hm : mi a = fun _ => 0) : Mv mX3_init 4 260 1746 [.ref a] (a + 1) sh mi mr (fun w z' sh' mi' mr' => w = none ∧ z' = a + 261 ∧ LNt sh' mr' a ∧ NtC mi' mr' a nt0 ∧ Bel a sh mi mr sh' mi' mr') := by
  have H : ∀ (c i kc ks z : Nat) (sh1 : SH) (mi1 : MI) (mr1 : MR), i + c = 6 → kc = 2 + 43 * i → ks = 12 + 289 * i → z = a + 3 + 43 * i → sh1 a = (3, 0) → mr1 a 0 = some (a + 1) → sh1 (a + 1) = (15, 6) → mr1 a 1 = some (a + 2) → sh1 (a + 2) = (11, 6) → (∀ j, j < i → mr1 (a + 1) j = some (a + 3 + 43 * j) ∧ LSt sh1 mr1 (a + 3 + 43 * j) ∧ StC mi1 mr1 (a + 3 + 43 * j) (st0 (j + 1))) → mi1 a 2 = nI 0 → (∀ w, mi1 (a + 2) w = nI 0) → Bel a sh mi mr sh1 mi1 mr1 → Wp yX3_init cX3_init 2 none (mE 4 260 1746 (fun w z' sh' mi' mr' => w = none ∧ z' = a + 261 ∧ LNt sh' mr' a ∧ NtC mi' mr' a nt0 ∧ Bel a sh mi mr sh' mi' mr')) kc ks 23 [.ref a, .int (nI i)] [] z sh1 mi1 mr1 := by
    intro c
    induction c with
    | zero =>
      intro i kc ks z sh1 mi1 mr1 hi hkc hks hz g1 g2 g3 g4 g5 g6 g7 g8 g9
      refine r_iload_n 1 dX3_init_23 rfl rfl ?_
      refine r_bipush (v := nI 6) dX3_init_24 (by decide) ?_
      refine r_icmpN_ge 51 dX3_init_26 (by decide) (by omega) (by omega) (fun h26 => ?_) (fun h26 => ?_)
      · refine r_vret dX3_init_51 rfl (by omega) (by omega) ?_
        exact ⟨rfl, by omega, ⟨g1, g2, g3, g4, g5, fun s h => ⟨(g6 s (by omega)).1, (g6 s (by omega)).2.1⟩⟩, ⟨g7, fun s h => ⟨g8 s, (g6 s (by omega)).2.2⟩⟩, g9⟩
      · omega
    | succ c ih =>
      intro i kc ks z sh1 mi1 mr1 hi hkc hks hz g1 g2 g3 g4 g5 g6 g7 g8 g9
      refine r_iload_n 1 dX3_init_23 rfl rfl ?_
      refine r_bipush (v := nI 6) dX3_init_24 (by decide) ?_
      refine r_icmpN_ge 51 dX3_init_26 (by decide) (by omega) (by omega) (fun h26 => ?_) (fun h26 => ?_)
      · omega
      · refine r_aload_n 0 dX3_init_29 rfl rfl ?_
        refine r_getR dX3_init_30 fl_RX3_11 rfl (by assumption) (by assumption) ?_
        refine r_iload_n 1 dX3_init_33 rfl rfl ?_
        refine r_new dX3_init_34 ckX6 cl_RX3_9 in_RX6 ini_RX6 (by decide) ⟨Nat.le_trans (m := 260) (by omega) (Nat.le_refl _), Nat.le_trans (m := 1746) (by omega) (Nat.le_refl _)⟩ ?_
        refine r_dup dX3_init_37 rfl ?_
        refine r_iload_n 1 dX3_init_38 rfl rfl ?_
        refine r_iconst (v := nI 1) dX3_init_39 (by decide) ?_
        refine r_iaddN dX3_init_40 ?_
        refine r_callI [_] dX3_init_41 ok_RX3_21 iiX6_init rfl rfl (Nat.le_of_ble_eq_true rfl) ⟨(Nat.le_of_ble_eq_true rfl), (Nat.le_of_ble_eq_true rfl), Nat.le_trans (m := 260) (by omega) (Nat.le_refl _), Nat.le_trans (m := 1746) (by omega) (Nat.le_refl _)⟩ (i_st (up1_same _ _ _) (i + 1)) ?_
        intro v z' sh2 mi2 mr2 ⟨hv, hz2, hL, hS, hB0⟩
        subst hv
        have hB := hB0.new
        have b2 := hL.1
        have b1 : sh2 (a + 1) = (15, 6) := by rw [(hB _ (by omega)).1]; exact g3
        refine r_aast (r := (RX6, TX6, 13)) dX3_init_44 (by assumption) (by decide) (by intro _; rfl) (by assumption) (by rfl) (by decide) (by omega) (by omega) ?_
        refine r_iincN 1 (b := 1) (ls2 := [_, _]) dX3_init_45 rfl (by decide) (by decide) rfl ?_
        refine r_goto 23 dX3_init_48 (by decide) ?_
        refine ih (i + 1) _ _ z' sh2 mi2 _ (by omega) (by omega) (by omega) (by omega) ?_ ?_ b1 ?_ ?_ (fun j hj => ?_) ?_ (fun w => ?_) (fun q hq => ?_)
        · rw [(hB _ (by omega)).1]; exact g1
        · rw [up2_row _ _ (by omega), (hB _ (by omega)).2.2]; exact g2
        · rw [up2_row _ _ (by omega), (hB _ (by omega)).2.2]; exact g4
        · rw [(hB _ (by omega)).1]; exact g5
        · by_cases e : j = i
          · subst e
            refine ⟨by rw [up2_same, hz], ?_, ?_⟩
            · rw [← hz]; exact hL.loc (fun q q1 q2 => ⟨rfl, up2_row _ _ (by omega)⟩)
            · rw [← hz]; exact hS.keep2 (st0_len _) (fun q q1 q2 => rfl) (up2_row _ _ (by omega))
          · obtain ⟨w1, w2, w3⟩ := g6 j (by omega)
            refine ⟨by rw [up2_ne _ _ (Or.inr e), (hB _ (by omega)).2.2]; exact w1, w2.loc (fun q q1 q2 => ⟨(hB q (by omega)).1, by rw [up2_row _ _ (by omega)]; exact (hB q (by omega)).2.2⟩), w3.keep2 (st0_len _) (fun q q1 q2 => (hB q (by omega)).2.1) (by rw [up2_row _ _ (by omega)]; exact (hB _ (by omega)).2.2)⟩
        · rw [(hB _ (by omega)).2.1]; exact g7
        · rw [(hB _ (by omega)).2.1]; exact g8 w
        · obtain ⟨w1, w2, w3⟩ := g9 q hq
          obtain ⟨v1, v2, v3⟩ := hB q (by omega)
          exact ⟨v1.trans w1, v2.trans w2, by rw [up2_row _ _ (by omega)]; exact v3.trans w3⟩
  have n2 : ¬ a = a + 1 + 1 := by omega
  refine Mv.of pnX3_init (Nat.le_of_ble_eq_true rfl) rfl ?_
  refine r_aload_n 0 dX3_init_0 rfl rfl ?_
  refine r_objInit dX3_init_1 ml_RX3_3 ⟨(Nat.le_of_ble_eq_true rfl), (Nat.le_of_ble_eq_true rfl)⟩ x_oi x_oc ?_
  refine r_aload_n 0 dX3_init_4 rfl rfl ?_
  refine r_bipush (v := nI 6) dX3_init_5 (by decide) ?_
  refine r_anew (κ := 15) dX3_init_7 (by decide) (by intro _; rfl) cl_RX3_9 (fun _ h => h.2.2.2) (by decide) ⟨(Nat.le_of_ble_eq_true rfl), (Nat.le_of_ble_eq_true rfl)⟩ ?_
  have hA : up1 sh (a + 1) (15, 6) a = (3, 0) := by rw [up1_ne _ _ (by omega)]; exact hs
  refine r_putRF rfl dX3_init_10 fl_RX3_11 ⟨_, _, rfl⟩ rfl rfl rfl (by assumption) ?_
  refine r_aload_n 0 dX3_init_13 rfl rfl ?_
  refine r_bipush (v := nI 6) dX3_init_14 (by decide) ?_
  refine r_newarr (κ := 11) dX3_init_16 rfl (by decide) ac_int (by decide) ⟨(Nat.le_of_ble_eq_true rfl), (Nat.le_of_ble_eq_true rfl)⟩ ?_
  have hB : up1 (up1 sh (a + 1) (15, 6)) (a + 1 + 1) (11, 6) a = (3, 0) := by rw [up1_ne _ _ (by omega)]; exact hA
  refine r_putRF rfl dX3_init_18 fl_RX3_17 ⟨_, _, rfl⟩ rfl rfl rfl (by assumption) ?_
  refine r_iconst (v := nI 0) dX3_init_21 (by decide) ?_
  refine r_istore_n 1 (ls2 := [_, _]) dX3_init_22 rfl (by decide) (Nat.le_of_ble_eq_true rfl) rfl ?_
  refine H 6 0 _ _ _ _ _ _ rfl rfl rfl rfl hB ?_ ?_ ?_ ?_ (fun j hj => by omega) ?_ (fun w => ?_) (fun q hq => ⟨?_, ?_, ?_⟩)
  · simp [up1, up2, n2]
  · simp [up1, up2]
  · simp [up1, up2]
  · simp [up1, up2]
  · rw [up1_ne _ _ (by omega), up1_ne _ _ (by omega), hm]; rfl
  · rw [up1_same]; rfl
  · rw [up1_ne _ _ (by omega), up1_ne _ _ (by omega)]
  · rw [up1_ne _ _ (by omega), up1_ne _ _ (by omega)]
  · rw [up2_row _ _ (by omega), up1_ne _ _ (by omega), up2_row _ _ (by omega), up1_ne _ _ (by omega)]
theorem nt0_len : ∀ s, s < 6 → (nt0.1 s).2.2.1.length ≤ 12 := fun s _ => st0_len _
theorem i_tr (hs : sh a = (7, 0)) : Mv mX7_init 5 263 1761 [.ref a] (a + 1) sh mi mr (fun w z' sh' mi' mr' => w = none ∧ z' = a + 264 ∧ LTr sh' mr' a ∧ NtC mi' mr' (a + 1) nt0 ∧ Bel a sh mi mr sh' mi' mr') := by
  refine Mv.of pnX7_init (Nat.le_of_ble_eq_true rfl) rfl ?_
  refine r_aload_n 0 dX7_init_0 rfl rfl ?_
  refine r_objInit dX7_init_1 ml_RX7_3 ⟨(Nat.le_of_ble_eq_true rfl), (Nat.le_of_ble_eq_true rfl)⟩ x_oi x_oc ?_
  refine r_aload_n 0 dX7_init_4 rfl rfl ?_
  refine r_new dX7_init_5 ckX3 cl_RX7_9 in_RX3 ini_RX3 (by decide) ⟨(Nat.le_of_ble_eq_true rfl), (Nat.le_of_ble_eq_true rfl)⟩ ?_
  refine r_dup dX7_init_8 rfl ?_
  refine r_callI [] dX7_init_9 ok_RX7_11 iiX3_init rfl rfl (Nat.le_of_ble_eq_true rfl) (by refine ⟨?_, ?_, ?_, ?_⟩ <;> exact Nat.le_of_ble_eq_true rfl) (i_nt (up1_same _ _ _) (up1_same _ _ _)) ?_
  intro w z1 sh1 mi1 mr1 ⟨hw, hz, hL1, hN1, hB⟩
  subst hw
  obtain rfl : z1 = a + 262 := by omega
  have B1 := hB.new
  have f1 : sh1 a = (7, 0) := by rw [(B1 a (by omega)).1]; exact hs
  have r1 := (B1 a (by omega)).2.2
  refine r_putRF rfl dX7_init_12 fl_RX7_12 ⟨_, _, rfl⟩ rfl rfl rfl (by assumption) ?_
  refine r_aload_n 0 dX7_init_15 rfl rfl ?_
  refine r_new dX7_init_16 ckX4 cl_RX7_18 in_RX4 ini_RX4 (by decide) ⟨(Nat.le_of_ble_eq_true rfl), (Nat.le_of_ble_eq_true rfl)⟩ ?_
  refine r_dup dX7_init_19 rfl ?_
  refine r_callIN [] dX7_init_20 ok_RX7_20 iiX4_init rfl rfl (Nat.le_of_ble_eq_true rfl) (by refine ⟨?_, ?_, ?_, ?_⟩ <;> exact Nat.le_of_ble_eq_true rfl) (i_pk (up1_same _ _ _)) ?_
  intro w z2 sh2 mi2 mr2 ⟨hw, hz, hL2, hm2, hB⟩
  subst hw
  obtain rfl : z2 = a + 264 := by omega
  have B2 := hB.new
  have f2 : sh2 a = (7, 0) := by rw [(B2 a (by omega)).1]; exact f1
  have r2 := (B2 a (by omega)).2.2
  refine r_putRF rfl dX7_init_23 fl_RX7_21 ⟨_, _, rfl⟩ rfl rfl rfl (by assumption) ?_
  refine r_vret dX7_init_26 rfl (Nat.le_of_ble_eq_true rfl) (Nat.le_of_ble_eq_true rfl) ?_
  have e2 : Sam (a + 1) (a + 264) sh2 mi2 mr2 sh2 mi2 (up2 mr2 a 1 (some (a + 262))) := fun q q1 q2 => ⟨rfl, rfl, up2_row _ _ (by omega)⟩
  have e1 : Sam (a + 1) (a + 262) sh1 mi1 mr1 sh2 mi2 (up2 mr2 a 1 (some (a + 262))) := (B2.sam (by omega) (Nat.le_refl _)).tr e2 (Nat.le_refl _) (by omega)
  refine ⟨rfl, rfl, ⟨f2, ⟨?_, hL1.loc (fun q q1 q2 => ⟨(e1 q (by omega) (by omega)).1, (e1 q (by omega) (by omega)).2.2⟩)⟩, ⟨up2_same _ _ _ _, hL2.loc (fun q q1 q2 => ⟨rfl, up2_row _ _ (by omega)⟩)⟩⟩, hN1.keep2 nt0_len (fun q q1 q2 => (e1 q (by omega) (by omega)).2), fun q hq => ⟨?_, ?_, ?_⟩⟩
  · simp [up2, r2]
  · rw [(B2 q (by omega)).1, (B1 q (by omega)).1]
  · rw [(B2 q (by omega)).2.1, (B1 q (by omega)).2.1]
  · rw [up2_row _ _ (by omega), (B2 q (by omega)).2.2, up2_row _ _ (by omega), (B1 q (by omega)).2.2]
def al0 : Al := ([], nt0, fun _ => none)
theorem i_pw (hs : sh a = (9, 0)) : Mv mX9_init 6 532 3640 [.ref a] (a + 1) sh mi mr (fun w z' sh' mi' mr' => w = none ∧ z' = a + 533 ∧ CR z' sh' mi' mr' a al0 ∧ Bel a sh mi mr sh' mi' mr') := by
  refine Mv.of pnX9_init (Nat.le_of_ble_eq_true rfl) rfl ?_
  refine r_aload_n 0 dX9_init_0 rfl rfl ?_
  refine r_objInit dX9_init_1 ml_RX9_1 ⟨(Nat.le_of_ble_eq_true rfl), (Nat.le_of_ble_eq_true rfl)⟩ x_oi x_oc ?_
  refine r_aload_n 0 dX9_init_4 rfl rfl ?_
  refine r_new dX9_init_5 ckX5 cl_RX9_7 in_RX5 ini_RX5 (by decide) ⟨(Nat.le_of_ble_eq_true rfl), (Nat.le_of_ble_eq_true rfl)⟩ ?_
  refine r_dup dX9_init_8 rfl ?_
  refine r_callIN [] dX9_init_9 ok_RX9_9 iiX5_init rfl rfl (Nat.le_of_ble_eq_true rfl) (by refine ⟨?_, ?_, ?_, ?_⟩ <;> exact Nat.le_of_ble_eq_true rfl) (i_pd (up1_same _ _ _)) ?_
  intro w z1 sh1 mi1 mr1 ⟨hw, hz, hL1, hm1, hB⟩
  subst hw
  obtain rfl : z1 = a + 3 := by omega
  have B1 := hB.new
  have k1 : mi1 (a + 1) 1 = nI 0 := by rw [hm1, up1_same]; rfl
  have f1 : sh1 a = (9, 0) := by rw [(B1 a (by omega)).1]; exact hs
  have r1 := (B1 a (by omega)).2.2
  refine r_putRF rfl dX9_init_12 fl_RX9_10 ⟨_, _, rfl⟩ rfl rfl rfl (by assumption) ?_
  refine r_aload_n 0 dX9_init_15 rfl rfl ?_
  refine r_new dX9_init_16 ckX3 cl_RX9_16 in_RX3 ini_RX3 (by decide) ⟨(Nat.le_of_ble_eq_true rfl), (Nat.le_of_ble_eq_true rfl)⟩ ?_
  refine r_dup dX9_init_19 rfl ?_
  refine r_callI [] dX9_init_20 ok_RX9_18 iiX3_init rfl rfl (Nat.le_of_ble_eq_true rfl) (by refine ⟨?_, ?_, ?_, ?_⟩ <;> exact Nat.le_of_ble_eq_true rfl) (i_nt (up1_same _ _ _) (up1_same _ _ _)) ?_
  intro w z2 sh2 mi2 mr2 ⟨hw, hz, hL2, hN2, hB⟩
  subst hw
  obtain rfl : z2 = a + 264 := by omega
  have B2 := hB.new
  have f2 : sh2 a = (9, 0) := by rw [(B2 a (by omega)).1]; exact f1
  have r2 := (B2 a (by omega)).2.2
  refine r_putRF rfl dX9_init_23 fl_RX9_19 ⟨_, _, rfl⟩ rfl rfl rfl (by assumption) ?_
  refine r_aload_n 0 dX9_init_26 rfl rfl ?_
  refine r_new dX9_init_27 ckX7 cl_RX9_23 in_RX7 ini_RX7 (by decide) ⟨(Nat.le_of_ble_eq_true rfl), (Nat.le_of_ble_eq_true rfl)⟩ ?_
  refine r_dup dX9_init_30 rfl ?_
  refine r_callIN [] dX9_init_31 ok_RX9_25 iiX7_init rfl rfl (Nat.le_of_ble_eq_true rfl) (by refine ⟨?_, ?_, ?_, ?_⟩ <;> exact Nat.le_of_ble_eq_true rfl) (i_tr (up1_same _ _ _)) ?_
  intro w z3 sh3 mi3 mr3 ⟨hw, hz, hL3, hN3, hB⟩
  subst hw
  obtain rfl : z3 = a + 528 := by omega
  have B3 := hB.new
  have f3 : sh3 a = (9, 0) := by rw [(B3 a (by omega)).1]; exact f2
  have r3 := (B3 a (by omega)).2.2
  refine r_putRF rfl dX9_init_34 fl_RX9_26 ⟨_, _, rfl⟩ rfl rfl rfl (by assumption) ?_
  refine r_aload_n 0 dX9_init_37 rfl rfl ?_
  refine r_iconst (v := nI 2) dX9_init_38 (by decide) ?_
  refine r_anew (κ := 13) dX9_init_39 (by decide) (by intro _; rfl) cl_RX9_16 (fun _ h => h.2.1) (by decide) ⟨(Nat.le_of_ble_eq_true rfl), (Nat.le_of_ble_eq_true rfl)⟩ ?_
  have f3' : up1 sh3 (a + 528) (13, 2) a = (9, 0) := by rw [up1_ne _ _ (by omega)]; exact f3
  refine r_putRF rfl dX9_init_42 fl_RX9_30 ⟨_, _, rfl⟩ rfl rfl rfl (by assumption) ?_
  refine r_aload_n 0 dX9_init_45 rfl rfl ?_
  refine r_new dX9_init_46 ckX4 cl_RX9_34 in_RX4 ini_RX4 (by decide) ⟨(Nat.le_of_ble_eq_true rfl), (Nat.le_of_ble_eq_true rfl)⟩ ?_
  refine r_dup dX9_init_49 rfl ?_
  refine r_callIN [] dX9_init_50 ok_RX9_36 iiX4_init rfl rfl (Nat.le_of_ble_eq_true rfl) (by refine ⟨?_, ?_, ?_, ?_⟩ <;> exact Nat.le_of_ble_eq_true rfl) (i_pk (up1_same _ _ _)) ?_
  intro w z4 sh4 mi4 mr4 ⟨hw, hz, hL4, hm4, hB⟩
  subst hw
  obtain rfl : z4 = a + 531 := by omega
  have B4 := hB.new
  have f4 : sh4 a = (9, 0) := by rw [(B4 a (by omega)).1]; exact f3'
  have r4 := (B4 a (by omega)).2.2
  refine r_putRF rfl dX9_init_53 fl_RX9_37 ⟨_, _, rfl⟩ rfl rfl rfl (by assumption) ?_
  refine r_aload_n 0 dX9_init_56 rfl rfl ?_
  refine r_new dX9_init_57 ckX8 cl_RX9_41 in_RX8 ini_RX8 (by decide) ⟨(Nat.le_of_ble_eq_true rfl), (Nat.le_of_ble_eq_true rfl)⟩ ?_
  refine r_dup dX9_init_60 rfl ?_
  refine r_callIN [] dX9_init_61 ok_RX9_43 iiX8_init rfl rfl (Nat.le_of_ble_eq_true rfl) (by refine ⟨?_, ?_, ?_, ?_⟩ <;> exact Nat.le_of_ble_eq_true rfl) (i_wr (up1_same _ _ _)) ?_
  intro w z5 sh5 mi5 mr5 ⟨hw, hz, hL5, hm5, hB⟩
  subst hw
  obtain rfl : z5 = a + 533 := by omega
  have B5 := hB.new
  have f5 : sh5 a = (9, 0) := by rw [(B5 a (by omega)).1]; exact f4
  have r5 := (B5 a (by omega)).2.2
  refine r_putRF rfl dX9_init_64 fl_RX9_44 ⟨_, _, rfl⟩ rfl rfl rfl (by assumption) ?_
  refine r_vret dX9_init_67 rfl (Nat.le_of_ble_eq_true rfl) (Nat.le_of_ble_eq_true rfl) ?_
  have e5 : Sam (a + 1) (a + 533) sh5 mi5 mr5 sh5 mi5 (up2 mr5 a 5 (some (a + 531))) := fun q q1 q2 => ⟨rfl, rfl, up2_row _ _ (by omega)⟩
  have e4 : Sam (a + 1) (a + 531) sh4 mi4 mr4 sh5 mi5 (up2 mr5 a 5 (some (a + 531))) := (B5.sam (by omega) (Nat.le_refl _)).tr e5 (Nat.le_refl _) (by omega)
  have e3 : Sam (a + 1) (a + 528) sh3 mi3 mr3 sh5 mi5 (up2 mr5 a 5 (some (a + 531))) := fun q q1 q2 => by
    obtain ⟨x1, x2, x3⟩ := B4 q (by omega)
    obtain ⟨y1, y2, y3⟩ := e4 q (by omega) (by omega)
    refine ⟨y1.trans (x1.trans (up1_ne _ _ (by omega))), y2.trans (x2.trans (up1_ne _ _ (by omega))), y3.trans (x3.trans ?_)⟩
    rw [up2_row _ _ (by omega), up1_ne _ _ (by omega), up2_row _ _ (by omega)]
  have e2 : Sam (a + 1) (a + 264) sh2 mi2 mr2 sh5 mi5 (up2 mr5 a 5 (some (a + 531))) := (B3.sam (by omega) (Nat.le_refl _)).tr e3 (Nat.le_refl _) (by omega)
  have e1 : Sam (a + 1) (a + 3) sh1 mi1 mr1 sh5 mi5 (up2 mr5 a 5 (some (a + 531))) := (B2.sam (by omega) (Nat.le_refl _)).tr e2 (Nat.le_refl _) (by omega)
  have t5 := B4 (a + 528) (by omega)
  have u5 := e4 (a + 528) (by omega) (by omega)
  have hnone : ∀ k, up2 mr5 a 5 (some (a + 531)) (a + 528) k = none := fun k => by rw [u5.2.2, t5.2.2, up2_row _ _ (by omega), up1_same]
  refine ⟨rfl, rfl, ⟨⟨f5, ⟨?_, hL1.loc (fun q q1 q2 => ⟨(e1 q (by omega) (by omega)).1, (e1 q (by omega) (by omega)).2.2⟩)⟩, ⟨?_, hL2.loc (fun q q1 q2 => ⟨(e2 q (by omega) (by omega)).1, (e2 q (by omega) (by omega)).2.2⟩)⟩, ⟨?_, hL3.loc (fun q q1 q2 => ⟨(e3 q (by omega) (by omega)).1, (e3 q (by omega) (by omega)).2.2⟩)⟩, ⟨?_, u5.1.trans (t5.1.trans (up1_same _ _ _))⟩, ⟨?_, hL4.loc (fun q q1 q2 => ⟨(e4 q (by omega) (by omega)).1, (e4 q (by omega) (by omega)).2.2⟩)⟩, ⟨?_, hL5.loc (fun q q1 q2 => ⟨(e5 q (by omega) (by omega)).1, (e5 q (by omega) (by omega)).2.2⟩)⟩⟩, ⟨?_, fun i y hy => by simp [al0] at hy⟩, hN2.keep2 nt0_len (fun q q1 q2 => (e2 q (by omega) (by omega)).2), fun s hs => (hN3.2 s hs).2.2.2.2.1.keep (e3 (a + 264 + 1 + 3 + 43 * s + 6 + 1) (by omega) (by omega)).2.2, fun k hk => hnone k, fun y0 y1 h0 h1 => by rw [hnone] at h0; cases h0⟩, fun q hq => ⟨?_, ?_, ?_⟩⟩
  · simp [up2, up1, r5, r4, r3, r2]
  · simp [up2, up1, r5, r4, r3]
  · simp [up2, up1, r5, r4]
  · simp [up2, up1, r5, r4]
  · simp [up2, up1, r5]
  · exact up2_same _ _ _ _
  · rw [(e1 (a + 1) (by omega) (by omega)).2.1]; exact k1
  · rw [(B5 q (by omega)).1, (B4 q (by omega)).1, up1_ne _ _ (by omega), (B3 q (by omega)).1, (B2 q (by omega)).1, (B1 q (by omega)).1]
  · rw [(B5 q (by omega)).2.1, (B4 q (by omega)).2.1, up1_ne _ _ (by omega), (B3 q (by omega)).2.1, (B2 q (by omega)).2.1, (B1 q (by omega)).2.1]
  · rw [up2_row _ _ (by omega), (B5 q (by omega)).2.2, up2_row _ _ (by omega), (B4 q (by omega)).2.2, up2_row _ _ (by omega), up1_ne _ _ (by omega), up2_row _ _ (by omega), (B3 q (by omega)).2.2, up2_row _ _ (by omega), (B2 q (by omega)).2.2, up2_row _ _ (by omega), (B1 q (by omega)).2.2]
end INIT3
