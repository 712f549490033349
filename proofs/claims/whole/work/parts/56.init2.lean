section INIT2
variable {z : Nat} {sh : SH} {mi : MI} {mr : MR} {a : Nat}
def st0 (v : Nat) : St := (([v], [], [], 3, 1, 10), fun _ => 0, [], [], none)
def nt0 : Nt := (fun s => st0 (s + 1), fun _ _ => false, 0)
theorem i_st (hs : sh a = (6, 0)) (v : Nat) : Mv mX6_init 3 42 276 [.ref a, .int (nI v)] (a + 1) sh mi mr (fun w z' sh' mi' mr' => w = none ∧ z' = a + 43 ∧ LSt sh' mr' a ∧ StC mi' mr' a (st0 v) ∧ Bel a sh mi mr sh' mi' mr') := by
  refine Mv.of pnX6_init (Nat.le_of_ble_eq_true rfl) rfl ?_
  refine r_aload_n 0 dX6_init_0 rfl rfl ?_
  refine r_objInit dX6_init_1 ml_RX6_3 ⟨(Nat.le_of_ble_eq_true rfl), (Nat.le_of_ble_eq_true rfl)⟩ x_oi x_oc ?_
  refine r_aload_n 0 dX6_init_4 rfl rfl ?_
  refine r_new dX6_init_5 ckX2 cl_RX6_9 in_RX2 ini_RX2 (by decide) ⟨(Nat.le_of_ble_eq_true rfl), (Nat.le_of_ble_eq_true rfl)⟩ ?_
  refine r_dup dX6_init_8 rfl ?_
  refine r_callIN [] dX6_init_9 ok_RX6_11 iiX2_init rfl rfl (Nat.le_of_ble_eq_true rfl) (by refine ⟨?_, ?_, ?_, ?_⟩ <;> exact Nat.le_of_ble_eq_true rfl) (i_nm (up1_same _ _ _)) ?_
  intro w z1 sh1 mi1 mr1 ⟨hw, hz, hL1, hm1, hB⟩
  subst hw
  obtain rfl : z1 = a + 3 := by omega
  have B1 := hB.new
  have k1 : mi1 (a + 1) 1 = nI 0 := by rw [hm1, up1_same]; rfl
  have f1 : sh1 a = (6, 0) := by rw [(B1 a (by omega)).1]; exact hs
  have r1 := (B1 a (by omega)).2.2
  refine r_putRF rfl dX6_init_12 fl_RX6_12 ⟨_, _, rfl⟩ rfl rfl rfl (by assumption) ?_
  refine r_aload_n 0 dX6_init_15 rfl rfl ?_
  refine r_new dX6_init_16 ckX2 cl_RX6_9 in_RX2 ini_RX2 (by decide) ⟨(Nat.le_of_ble_eq_true rfl), (Nat.le_of_ble_eq_true rfl)⟩ ?_
  refine r_dup dX6_init_19 rfl ?_
  refine r_callIN [] dX6_init_20 ok_RX6_11 iiX2_init rfl rfl (Nat.le_of_ble_eq_true rfl) (by refine ⟨?_, ?_, ?_, ?_⟩ <;> exact Nat.le_of_ble_eq_true rfl) (i_nm (up1_same _ _ _)) ?_
  intro w z2 sh2 mi2 mr2 ⟨hw, hz, hL2, hm2, hB⟩
  subst hw
  obtain rfl : z2 = a + 5 := by omega
  have B2 := hB.new
  have k2 : mi2 (a + 3) 1 = nI 0 := by rw [hm2, up1_same]; rfl
  have f2 : sh2 a = (6, 0) := by rw [(B2 a (by omega)).1]; exact f1
  have r2 := (B2 a (by omega)).2.2
  refine r_putRF rfl dX6_init_23 fl_RX6_18 ⟨_, _, rfl⟩ rfl rfl rfl (by assumption) ?_
  refine r_aload_n 0 dX6_init_26 rfl rfl ?_
  refine r_iconst (v := nI 3) dX6_init_27 (by decide) ?_
  refine r_putI dX6_init_28 fl_RX6_21 rfl rfl rfl (by assumption) ?_
  refine r_aload_n 0 dX6_init_31 rfl rfl ?_
  refine r_iconst (v := nI 1) dX6_init_32 (by decide) ?_
  refine r_putI dX6_init_33 fl_RX6_25 rfl rfl rfl (by assumption) ?_
  refine r_aload_n 0 dX6_init_36 rfl rfl ?_
  refine r_bipush (v := nI 10) dX6_init_37 (by decide) ?_
  refine r_putI dX6_init_39 fl_RX6_28 rfl rfl rfl (by assumption) ?_
  refine r_aload_n 0 dX6_init_42 rfl rfl ?_
  refine r_bipush (v := nI 9) dX6_init_43 (by decide) ?_
  refine r_newarr (κ := 11) dX6_init_45 rfl (by decide) ac_int (by decide) ⟨(Nat.le_of_ble_eq_true rfl), (Nat.le_of_ble_eq_true rfl)⟩ ?_
  have f2' : up1 sh2 (a + 5) (11, 9) a = (6, 0) := by rw [up1_ne _ _ (by omega)]; exact f2
  refine r_putRF rfl dX6_init_47 fl_RX6_31 ⟨_, _, rfl⟩ rfl rfl rfl (by assumption) ?_
  refine r_aload_n 0 dX6_init_50 rfl rfl ?_
  refine r_new dX6_init_51 ckX0 cl_RX6_35 in_RX0 ini_RX0 (by decide) ⟨(Nat.le_of_ble_eq_true rfl), (Nat.le_of_ble_eq_true rfl)⟩ ?_
  refine r_dup dX6_init_54 rfl ?_
  refine r_callI [] dX6_init_55 ok_RX6_37 iiX0_init rfl rfl (Nat.le_of_ble_eq_true rfl) (by refine ⟨?_, ?_, ?_, ?_⟩ <;> exact Nat.le_of_ble_eq_true rfl) (i_kp (up1_same _ _ _)) ?_
  intro w z3 sh3 mi3 mr3 ⟨hw, hz, hL3, hR3, hm3, hB⟩
  subst hw
  obtain rfl : z3 = a + 33 := by omega
  have B3 := hB.new
  have k3 : mi3 (a + 6) 2 = nI 0 := by rw [hm3, up1_same]; rfl
  have f3 : sh3 a = (6, 0) := by rw [(B3 a (by omega)).1]; exact f2'
  have r3 := (B3 a (by omega)).2.2
  have m3 := (B3 a (by omega)).2.1
  refine r_putRF rfl dX6_init_58 fl_RX6_38 ⟨_, _, rfl⟩ rfl rfl rfl (by assumption) ?_
  refine r_aload_n 0 dX6_init_61 rfl rfl ?_
  refine r_new dX6_init_62 ckX1 cl_RX6_42 in_RX1 ini_RX1 (by decide) ⟨(Nat.le_of_ble_eq_true rfl), (Nat.le_of_ble_eq_true rfl)⟩ ?_
  refine r_dup dX6_init_65 rfl ?_
  refine r_callIN [] dX6_init_66 ok_RX6_44 iiX1_init rfl rfl (Nat.le_of_ble_eq_true rfl) (by refine ⟨?_, ?_, ?_, ?_⟩ <;> exact Nat.le_of_ble_eq_true rfl) (i_kn (up1_same _ _ _)) ?_
  intro w z4 sh4 mi4 mr4 ⟨hw, hz, hL4, hm4, hB⟩
  subst hw
  obtain rfl : z4 = a + 37 := by omega
  have B4 := hB.new
  have k4 : mi4 (a + 33) 3 = nI 0 := by rw [hm4, up1_same]; rfl
  have f4 : sh4 a = (6, 0) := by rw [(B4 a (by omega)).1]; exact f3
  have r4 := (B4 a (by omega)).2.2
  have m4 := (B4 a (by omega)).2.1
  refine r_putRF rfl dX6_init_69 fl_RX6_45 ⟨_, _, rfl⟩ rfl rfl rfl (by assumption) ?_
  refine r_aload_n 0 dX6_init_72 rfl rfl ?_
  refine r_new dX6_init_73 ckX4 cl_RX6_49 in_RX4 ini_RX4 (by decide) ⟨(Nat.le_of_ble_eq_true rfl), (Nat.le_of_ble_eq_true rfl)⟩ ?_
  refine r_dup dX6_init_76 rfl ?_
  refine r_callIN [] dX6_init_77 ok_RX6_51 iiX4_init rfl rfl (Nat.le_of_ble_eq_true rfl) (by refine ⟨?_, ?_, ?_, ?_⟩ <;> exact Nat.le_of_ble_eq_true rfl) (i_pk (up1_same _ _ _)) ?_
  intro w z5 sh5 mi5 mr5 ⟨hw, hz, hL5, hm5, hB⟩
  subst hw
  obtain rfl : z5 = a + 39 := by omega
  have B5 := hB.new
  have f5 : sh5 a = (6, 0) := by rw [(B5 a (by omega)).1]; exact f4
  have r5 := (B5 a (by omega)).2.2
  have m5 := (B5 a (by omega)).2.1
  refine r_putRF rfl dX6_init_80 fl_RX6_52 ⟨_, _, rfl⟩ rfl rfl rfl (by assumption) ?_
  refine r_aload_n 0 dX6_init_83 rfl rfl ?_
  refine r_new dX6_init_84 ckX4 cl_RX6_49 in_RX4 ini_RX4 (by decide) ⟨(Nat.le_of_ble_eq_true rfl), (Nat.le_of_ble_eq_true rfl)⟩ ?_
  refine r_dup dX6_init_87 rfl ?_
  refine r_callIN [] dX6_init_88 ok_RX6_51 iiX4_init rfl rfl (Nat.le_of_ble_eq_true rfl) (by refine ⟨?_, ?_, ?_, ?_⟩ <;> exact Nat.le_of_ble_eq_true rfl) (i_pk (up1_same _ _ _)) ?_
  intro w z6 sh6 mi6 mr6 ⟨hw, hz, hL6, hm6, hB⟩
  subst hw
  obtain rfl : z6 = a + 41 := by omega
  have B6 := hB.new
  have f6 : sh6 a = (6, 0) := by rw [(B6 a (by omega)).1]; exact f5
  have r6 := (B6 a (by omega)).2.2
  have m6 := (B6 a (by omega)).2.1
  refine r_putRF rfl dX6_init_91 fl_RX6_56 ⟨_, _, rfl⟩ rfl rfl rfl (by assumption) ?_
  refine r_aload_n 0 dX6_init_94 rfl rfl ?_
  refine r_new dX6_init_95 ckX4 cl_RX6_49 in_RX4 ini_RX4 (by decide) ⟨(Nat.le_of_ble_eq_true rfl), (Nat.le_of_ble_eq_true rfl)⟩ ?_
  refine r_dup dX6_init_98 rfl ?_
  refine r_callIN [] dX6_init_99 ok_RX6_51 iiX4_init rfl rfl (Nat.le_of_ble_eq_true rfl) (by refine ⟨?_, ?_, ?_, ?_⟩ <;> exact Nat.le_of_ble_eq_true rfl) (i_pk (up1_same _ _ _)) ?_
  intro w z7 sh7 mi7 mr7 ⟨hw, hz, hL7, hm7, hB⟩
  subst hw
  obtain rfl : z7 = a + 43 := by omega
  have B7 := hB.new
  have f7 : sh7 a = (6, 0) := by rw [(B7 a (by omega)).1]; exact f6
  have r7 := (B7 a (by omega)).2.2
  have m7 := (B7 a (by omega)).2.1
  refine r_putRF rfl dX6_init_102 fl_RX6_59 ⟨_, _, rfl⟩ rfl rfl rfl (by assumption) ?_
  refine r_aload_n 0 dX6_init_105 rfl rfl ?_
  refine r_iload_n 1 dX6_init_106 rfl rfl ?_
  refine r_putI dX6_init_107 fl_RX6_62 rfl rfl rfl (by assumption) ?_
  refine r_vret dX6_init_110 rfl (Nat.le_of_ble_eq_true rfl) (Nat.le_of_ble_eq_true rfl) ?_
  have e7 : Sam (a + 1) (a + 43) sh7 mi7 mr7 sh7 (up2 mi7 a 0 (nI v)) (up2 mr7 a 12 (some (a + 41))) := fun q q1 q2 => ⟨rfl, up2_row _ _ (by omega), up2_row _ _ (by omega)⟩
  have e6 : Sam (a + 1) (a + 41) sh6 mi6 mr6 sh7 (up2 mi7 a 0 (nI v)) (up2 mr7 a 12 (some (a + 41))) := (B7.sam (by omega) (Nat.le_refl _)).tr e7 (Nat.le_refl _) (by omega)
  have e5 : Sam (a + 1) (a + 39) sh5 mi5 mr5 sh7 (up2 mi7 a 0 (nI v)) (up2 mr7 a 12 (some (a + 41))) := (B6.sam (by omega) (Nat.le_refl _)).tr e6 (Nat.le_refl _) (by omega)
  have e4 : Sam (a + 1) (a + 37) sh4 mi4 mr4 sh7 (up2 mi7 a 0 (nI v)) (up2 mr7 a 12 (some (a + 41))) := (B5.sam (by omega) (Nat.le_refl _)).tr e5 (Nat.le_refl _) (by omega)
  have e3 : Sam (a + 1) (a + 33) sh3 mi3 mr3 sh7 (up2 mi7 a 0 (nI v)) (up2 mr7 a 12 (some (a + 41))) := (B4.sam (by omega) (Nat.le_refl _)).tr e4 (Nat.le_refl _) (by omega)
  have e2 : Sam (a + 1) (a + 5) sh2 mi2 mr2 sh7 (up2 mi7 a 0 (nI v)) (up2 mr7 a 12 (some (a + 41))) := fun q q1 q2 => by
    obtain ⟨x1, x2, x3⟩ := B3 q (by omega)
    obtain ⟨y1, y2, y3⟩ := e3 q (by omega) (by omega)
    refine ⟨y1.trans (x1.trans (up1_ne _ _ (by omega))), y2.trans (x2.trans ?_), y3.trans (x3.trans ?_)⟩
    · rw [up1_ne _ _ (by omega), up2_row _ _ (by omega), up2_row _ _ (by omega), up2_row _ _ (by omega)]
    · rw [up2_row _ _ (by omega), up1_ne _ _ (by omega), up2_row _ _ (by omega)]
  have e1 : Sam (a + 1) (a + 3) sh1 mi1 mr1 sh7 (up2 mi7 a 0 (nI v)) (up2 mr7 a 12 (some (a + 41))) := (B2.sam (by omega) (Nat.le_refl _)).tr e2 (Nat.le_refl _) (by omega)
  have t5 := B3 (a + 5) (by omega)
  have u5 := e3 (a + 5) (by omega) (by omega)
  refine ⟨rfl, rfl, ⟨f7, ⟨?_, hL1.loc (fun q q1 q2 => ⟨(e1 q (by omega) (by omega)).1, (e1 q (by omega) (by omega)).2.2⟩)⟩, ⟨?_, hL2.loc (fun q q1 q2 => ⟨(e2 q (by omega) (by omega)).1, (e2 q (by omega) (by omega)).2.2⟩)⟩, ⟨?_, u5.1.trans (t5.1.trans (up1_same _ _ _))⟩, ⟨?_, hL3.loc (fun q q1 q2 => ⟨(e3 q (by omega) (by omega)).1, (e3 q (by omega) (by omega)).2.2⟩)⟩, ⟨?_, hL4.loc (fun q q1 q2 => ⟨(e4 q (by omega) (by omega)).1, (e4 q (by omega) (by omega)).2.2⟩)⟩, ⟨?_, hL5.loc (fun q q1 q2 => ⟨(e5 q (by omega) (by omega)).1, (e5 q (by omega) (by omega)).2.2⟩)⟩, ⟨?_, hL6.loc (fun q q1 q2 => ⟨(e6 q (by omega) (by omega)).1, (e6 q (by omega) (by omega)).2.2⟩)⟩, ⟨?_, hL7.loc (fun q q1 q2 => ⟨rfl, up2_row _ _ (by omega)⟩)⟩⟩, ⟨⟨?_, ⟨?_, fun i y hy => by simp [st0] at hy⟩, ⟨?_, fun i y hy => by simp [st0] at hy⟩, ?_, ?_, ?_⟩, fun w _ => ?_, ⟨?_, fun i y hy => by simp [st0] at hy⟩, hR3.keep (e3 (a + 6 + 1) (by omega) (by omega)).2.2, ⟨?_, fun i y hy => by simp [st0] at hy⟩, fun p t e => by cases e⟩, fun q hq => ⟨?_, ?_, ?_⟩⟩
  · simp [up2, up1, r7, r6, r5, r4, r3, r2]
  · simp [up2, up1, r7, r6, r5, r4, r3]
  · simp [up2, up1, r7, r6, r5, r4, r3]
  · simp [up2, up1, r7, r6, r5, r4]
  · simp [up2, up1, r7, r6, r5]
  · simp [up2, up1, r7, r6]
  · simp [up2, up1, r7]
  · exact up2_same _ _ _ _
  · rw [up2_same]; simp [st0, en]
  · rw [(e1 (a + 1) (by omega) (by omega)).2.1]; exact k1
  · rw [(e2 (a + 3) (by omega) (by omega)).2.1]; exact k2
  · simp [up2, up1, m7, m6, m5, m4, m3, st0]
  · simp [up2, up1, m7, m6, m5, m4, m3, st0]
  · simp [up2, up1, m7, m6, m5, m4, m3, st0]
  · rw [u5.2.1, t5.2.1, up1_same]; rfl
  · rw [(e3 (a + 6) (by omega) (by omega)).2.1]; exact k3
  · rw [(e4 (a + 33) (by omega) (by omega)).2.1]; exact k4
  · rw [(B7 q (by omega)).1, (B6 q (by omega)).1, (B5 q (by omega)).1, (B4 q (by omega)).1, (B3 q (by omega)).1, up1_ne _ _ (by omega), (B2 q (by omega)).1, (B1 q (by omega)).1]
  · rw [up2_row _ _ (by omega), (B7 q (by omega)).2.1, (B6 q (by omega)).2.1, (B5 q (by omega)).2.1, (B4 q (by omega)).2.1, (B3 q (by omega)).2.1, up1_ne _ _ (by omega), up2_row _ _ (by omega), up2_row _ _ (by omega), up2_row _ _ (by omega), (B2 q (by omega)).2.1, (B1 q (by omega)).2.1]
  · rw [up2_row _ _ (by omega), (B7 q (by omega)).2.2, up2_row _ _ (by omega), (B6 q (by omega)).2.2, up2_row _ _ (by omega), (B5 q (by omega)).2.2, up2_row _ _ (by omega), (B4 q (by omega)).2.2, up2_row _ _ (by omega), (B3 q (by omega)).2.2, up2_row _ _ (by omega), up1_ne _ _ (by omega), up2_row _ _ (by omega), (B2 q (by omega)).2.2, up2_row _ _ (by omega), (B1 q (by omega)).2.2]
end INIT2
