def ini (i q : Nat) : Int32 := if q < i then nI (1 + q) else if 42 ≤ q ∧ q < 42 + i then nI 3 else if 48 ≤ q ∧ q < 48 + i then nI 1 else if 54 ≤ q ∧ q < 54 + i then nI 10 else if 1380 ≤ q ∧ q < 1380 + i then -6 else 0
theorem ini_0 (q : Nat) : ini 0 q = 0 := by unfold ini; rw [if_neg (by omega), if_neg (by omega), if_neg (by omega), if_neg (by omega), if_neg (by omega)]
theorem ini_s {i q : Nat} (h1 : q ≠ i) (h2 : q ≠ 42 + i) (h3 : q ≠ 48 + i) (h4 : q ≠ 54 + i) (h5 : q ≠ 1380 + i) : ini (i + 1) q = ini i q := by
  have e1 : (q < i + 1) = (q < i) := propext (by omega)
  have e2 : (42 ≤ q ∧ q < 42 + (i + 1)) = (42 ≤ q ∧ q < 42 + i) := propext (by omega)
  have e3 : (48 ≤ q ∧ q < 48 + (i + 1)) = (48 ≤ q ∧ q < 48 + i) := propext (by omega)
  have e4 : (54 ≤ q ∧ q < 54 + (i + 1)) = (54 ≤ q ∧ q < 54 + i) := propext (by omega)
  have e5 : (1380 ≤ q ∧ q < 1380 + (i + 1)) = (1380 ≤ q ∧ q < 1380 + i) := propext (by omega)
  unfold ini
  simp only [e1, e2, e3, e4, e5]
theorem ini_z {q : Nat} (h : (6 ≤ q ∧ q < 42) ∨ (60 ≤ q ∧ q < 1380) ∨ 1386 ≤ q) : ini 6 q = nI 0 := by unfold ini; rw [if_neg (by omega), if_neg (by omega), if_neg (by omega), if_neg (by omega), if_neg (by omega)]; rfl
theorem ini_c {q : Nat} (h : q < 6) : ini 6 q = nI (1 + q) := by unfold ini; rw [if_pos h]
theorem ini_l {q : Nat} (h : q < 6) : ini 6 (42 + q) = nI 3 := by unfold ini; rw [if_neg (by omega), if_pos (by omega)]
theorem ini_d {q : Nat} (h : q < 6) : ini 6 (48 + q) = nI 1 := by unfold ini; rw [if_neg (by omega), if_neg (by omega), if_pos (by omega)]
theorem ini_w {q : Nat} (h : q < 6) : ini 6 (54 + q) = nI 10 := by unfold ini; rw [if_neg (by omega), if_neg (by omega), if_neg (by omega), if_pos (by omega)]
theorem ini_a {q : Nat} (h : q < 6) : ini 6 (1380 + q) = -6 := by unfold ini; rw [if_neg (by omega), if_neg (by omega), if_neg (by omega), if_neg (by omega), if_pos (by omega)]
theorem ini_nt {f : Rw} (h : ∀ q, f q = ini 6 q) : NtM f nt0 ∧ LaM f nt0 := by
  refine ⟨⟨fun s hs => ⟨⟨?_, ⟨?_, fun i x hi => by simp [nt0, st0] at hi⟩, ⟨?_, fun i x hi => by simp [nt0, st0] at hi⟩, ?_, ?_, ?_⟩, fun w hw => ?_, ⟨?_, fun i q hi => by simp [nt0, st0] at hi⟩, ⟨?_, fun i q hi => by simp [nt0, st0] at hi⟩, fun q hq => by cases hq⟩, fun x y hx hy => ?_, ?_⟩, fun s hs _ => ?_⟩
  · rw [h, ini_c hs]; show _ = nI (en 27 [s + 1]); congr 1; simp [en]; omega
  · rw [h, ini_z (by omega)]; rfl
  · rw [h, ini_z (by omega)]; rfl
  · rw [h, ini_l hs]; rfl
  · rw [h, ini_d hs]; rfl
  · rw [h, ini_w hs]; rfl
  · rw [h, ini_z (by omega)]; rfl
  · rw [h, ini_z (by omega)]; rfl
  · rw [h, ini_z (by omega)]; rfl
  · rw [h, ini_z (by omega)]; rfl
  · rw [h, ini_z (by omega)]; rfl
  · rw [h, ini_a hs]
section RINIT
variable {z : Nat} {sh : SH} {mi : MI} {mr : MR} {a : Nat}
theorem i_md (hs : sh a = (10, 0)) (hm : mi a = fun _ => 0) : Mv mX10_init 1 10 5765 [.ref a] (a + 1) sh mi mr (fun w z' sh' mi' mr' => w = none ∧ z' = a + 11 ∧ LM sh' mr' a ∧ RR mi' a al0 ∧ Bel a sh mi mr sh' mi' mr') := by
  have H : ∀ (t i kc ks z1 : Nat) (sh1 : SH) (mi1 : MI) (mr1 : MR), i + t = 6 → kc = 10 → ks = 5765 → z1 = a + 11 → LM sh1 mr1 a → (∀ q, mi1 (a + 1) q = ini i q) → (∀ x, a ≤ x → x ≠ a + 1 → x < a + 11 → ∀ q, mi1 x q = 0) → Bel a sh mi mr sh1 mi1 mr1 → Wp yX10_init cX10_init 2 none (mE 1 10 5765 (fun w z' sh' mi' mr' => w = none ∧ z' = a + 11 ∧ LM sh' mr' a ∧ RR mi' a al0 ∧ Bel a sh mi mr sh' mi' mr')) kc ks 87 [.ref a, .int (nI i)] [] z1 sh1 mi1 mr1 := by
    intro t
    induction t with
    | zero =>
      intro i kc ks z1 sh1 mi1 mr1 hi hkc hks hz hL hm1 hm0 hB
      have hi : i = 6 := hi
      subst hi
      obtain ⟨n1, n2⟩ := ini_nt hm1
      refine r_iload_n 1 dX10_init_87 rfl rfl ?_
      refine r_bipush (v := nI 6) dX10_init_88 (by decide) ?_
      refine r_icmpN_ge 153 dX10_init_90 (by decide) (by omega) (by omega) (fun h90 => ?_) (fun h90 => ?_)
      · refine r_vret dX10_init_153 rfl (by omega) (by omega) ?_
        exact ⟨rfl, hz, hL, ⟨⟨hm0 a (by omega) (by omega) (by omega) 4, fun i y hy => by simp [al0] at hy⟩, ⟨n1, n2⟩, fun k hk => ⟨hm0 (a + 3) (by omega) (by omega) (by omega) k, fun n hn => by cases hn⟩⟩, hB⟩
      · omega
    | succ t ih =>
      intro i kc ks z1 sh1 mi1 mr1 hi hkc hks hz hL hm1 hm0 hB
      obtain ⟨l0, ⟨l1, l2⟩, -⟩ := id hL
      refine r_iload_n 1 dX10_init_87 rfl rfl ?_
      refine r_bipush (v := nI 6) dX10_init_88 (by decide) ?_
      refine r_icmpN_ge 153 dX10_init_90 (by decide) (by omega) (by omega) (fun h90 => ?_) (fun h90 => ?_)
      · omega
      · refine r_aload_n 0 dX10_init_93 rfl rfl ?_
        refine r_getR dX10_init_94 fl_RX10_7 rfl (by assumption) (by assumption) ?_
        refine r_iconst (v := nI 0) dX10_init_97 (by decide) ?_
        refine r_iload_n 1 dX10_init_98 rfl rfl ?_
        refine r_iaddN dX10_init_99 ?_
        refine r_iconst (v := nI 1) dX10_init_100 (by decide) ?_
        refine r_iload_n 1 dX10_init_101 rfl rfl ?_
        refine r_iaddN dX10_init_102 ?_
        refine r_iast dX10_init_103 (by assumption) (by omega) (by omega) ?_
        refine r_aload_n 0 dX10_init_104 rfl rfl ?_
        refine r_getR dX10_init_105 fl_RX10_7 rfl (by assumption) (by assumption) ?_
        refine r_bipush (v := nI 42) dX10_init_108 (by decide) ?_
        refine r_iload_n 1 dX10_init_110 rfl rfl ?_
        refine r_iaddN dX10_init_111 ?_
        refine r_iconst (v := nI 3) dX10_init_112 (by decide) ?_
        refine r_iast dX10_init_113 (by assumption) (by omega) (by omega) ?_
        refine r_aload_n 0 dX10_init_114 rfl rfl ?_
        refine r_getR dX10_init_115 fl_RX10_7 rfl (by assumption) (by assumption) ?_
        refine r_bipush (v := nI 48) dX10_init_118 (by decide) ?_
        refine r_iload_n 1 dX10_init_120 rfl rfl ?_
        refine r_iaddN dX10_init_121 ?_
        refine r_iconst (v := nI 1) dX10_init_122 (by decide) ?_
        refine r_iast dX10_init_123 (by assumption) (by omega) (by omega) ?_
        refine r_aload_n 0 dX10_init_124 rfl rfl ?_
        refine r_getR dX10_init_125 fl_RX10_7 rfl (by assumption) (by assumption) ?_
        refine r_bipush (v := nI 54) dX10_init_128 (by decide) ?_
        refine r_iload_n 1 dX10_init_130 rfl rfl ?_
        refine r_iaddN dX10_init_131 ?_
        refine r_bipush (v := nI 10) dX10_init_132 (by decide) ?_
        refine r_iast dX10_init_134 (by assumption) (by omega) (by omega) ?_
        refine r_aload_n 0 dX10_init_135 rfl rfl ?_
        refine r_getR dX10_init_136 fl_RX10_7 rfl (by assumption) (by assumption) ?_
        refine r_sipush (v := nI 1380) dX10_init_139 (by decide) ?_
        refine r_iload_n 1 dX10_init_142 rfl rfl ?_
        refine r_iaddN dX10_init_143 ?_
        refine r_bipush (v := -6) dX10_init_144 (by decide) ?_
        refine r_iast dX10_init_146 (by assumption) (by omega) (by omega) ?_
        refine r_iincN 1 (b := 1) (ls2 := [_, _]) dX10_init_147 rfl (by decide) (by decide) rfl ?_
        refine r_goto 87 dX10_init_150 (by decide) ?_
        refine ih (i + 1) kc ks z1 sh1 _ mr1 (by omega) hkc hks hz hL (fun q => ?_) (fun x x1 x2 x3 q => by rw [up2_row _ _ x2, up2_row _ _ x2, up2_row _ _ x2, up2_row _ _ x2, up2_row _ _ x2]; exact hm0 x x1 x2 x3 q) (fun q hq => ⟨(hB q hq).1, by rw [up2_row _ _ (by omega), up2_row _ _ (by omega), up2_row _ _ (by omega), up2_row _ _ (by omega), up2_row _ _ (by omega)]; exact (hB q hq).2.1, (hB q hq).2.2⟩)
        by_cases c5 : q = 1380 + i
        · unfold ini; rw [c5, up2_same, if_neg (by omega), if_neg (by omega), if_neg (by omega), if_neg (by omega), if_pos (by omega)]
        · rw [up2_ne _ _ (Or.inr c5)]
          by_cases c4 : q = 54 + i
          · unfold ini; rw [c4, up2_same, if_neg (by omega), if_neg (by omega), if_neg (by omega), if_pos (by omega)]
          · rw [up2_ne _ _ (Or.inr c4)]
            by_cases c3 : q = 48 + i
            · unfold ini; rw [c3, up2_same, if_neg (by omega), if_neg (by omega), if_pos (by omega)]
            · rw [up2_ne _ _ (Or.inr c3)]
              by_cases c2 : q = 42 + i
              · unfold ini; rw [c2, up2_same, if_neg (by omega), if_pos (by omega)]
              · rw [up2_ne _ _ (Or.inr c2)]
                by_cases c1 : q = 0 + i
                · unfold ini; rw [c1, up2_same, if_pos (by omega)]; congr 1; omega
                · rw [up2_ne _ _ (Or.inr c1), hm1]
                  exact (ini_s (by omega) (by omega) (by omega) (by omega) (by omega)).symm
  refine Mv.of pnX10_init (Nat.le_of_ble_eq_true rfl) rfl ?_
  refine r_aload_n 0 dX10_init_0 rfl rfl ?_
  refine r_objInit dX10_init_1 ml_RX10_1 ⟨(Nat.le_of_ble_eq_true rfl), (Nat.le_of_ble_eq_true rfl)⟩ x_oi x_oc ?_
  refine r_aload_n 0 dX10_init_4 rfl rfl ?_
  refine r_sipush (v := nI 1387) dX10_init_5 (by decide) ?_
  refine r_newarr (κ := 11) dX10_init_8 rfl (by decide) ac_int (by decide) ⟨(Nat.le_of_ble_eq_true rfl), (Nat.le_of_ble_eq_true rfl)⟩ ?_
  have hS1 : (up1 sh (a + 1) (11, 1387)) a = (10, 0) := by rw [up1_ne _ _ (by omega)]; exact hs
  refine r_putRF rfl dX10_init_10 fl_RX10_7 ⟨_, _, rfl⟩ rfl rfl rfl (by assumption) ?_
  refine r_aload_n 0 dX10_init_13 rfl rfl ?_
  refine r_sipush (v := nI 4161) dX10_init_14 (by decide) ?_
  refine r_newarr (κ := 11) dX10_init_17 rfl (by decide) ac_int (by decide) ⟨(Nat.le_of_ble_eq_true rfl), (Nat.le_of_ble_eq_true rfl)⟩ ?_
  have hS2 : (up1 (up1 sh (a + 1) (11, 1387)) (a + 1 + 1) (11, 4161)) a = (10, 0) := by rw [up1_ne _ _ (by omega)]; exact hS1
  refine r_putRF rfl dX10_init_19 fl_RX10_13 ⟨_, _, rfl⟩ rfl rfl rfl (by assumption) ?_
  refine r_aload_n 0 dX10_init_22 rfl rfl ?_
  refine r_iconst (v := nI 2) dX10_init_23 (by decide) ?_
  refine r_newarr (κ := 12) dX10_init_24 rfl (by decide) ac_boolean (by decide) ⟨(Nat.le_of_ble_eq_true rfl), (Nat.le_of_ble_eq_true rfl)⟩ ?_
  have hS3 : (up1 (up1 (up1 sh (a + 1) (11, 1387)) (a + 1 + 1) (11, 4161)) (a + 1 + 1 + 1) (12, 2)) a = (10, 0) := by rw [up1_ne _ _ (by omega)]; exact hS2
  refine r_putRF rfl dX10_init_26 fl_RX10_16 ⟨_, _, rfl⟩ rfl rfl rfl (by assumption) ?_
  refine r_aload_n 0 dX10_init_29 rfl rfl ?_
  refine r_bipush (v := nI 40) dX10_init_30 (by decide) ?_
  refine r_newarr (κ := 11) dX10_init_32 rfl (by decide) ac_int (by decide) ⟨(Nat.le_of_ble_eq_true rfl), (Nat.le_of_ble_eq_true rfl)⟩ ?_
  have hS4 : (up1 (up1 (up1 (up1 sh (a + 1) (11, 1387)) (a + 1 + 1) (11, 4161)) (a + 1 + 1 + 1) (12, 2)) (a + 1 + 1 + 1 + 1) (11, 40)) a = (10, 0) := by rw [up1_ne _ _ (by omega)]; exact hS3
  refine r_putRF rfl dX10_init_34 fl_RX10_20 ⟨_, _, rfl⟩ rfl rfl rfl (by assumption) ?_
  refine r_aload_n 0 dX10_init_37 rfl rfl ?_
  refine r_bipush (v := nI 11) dX10_init_38 (by decide) ?_
  refine r_newarr (κ := 11) dX10_init_40 rfl (by decide) ac_int (by decide) ⟨(Nat.le_of_ble_eq_true rfl), (Nat.le_of_ble_eq_true rfl)⟩ ?_
  have hS5 : (up1 (up1 (up1 (up1 (up1 sh (a + 1) (11, 1387)) (a + 1 + 1) (11, 4161)) (a + 1 + 1 + 1) (12, 2)) (a + 1 + 1 + 1 + 1) (11, 40)) (a + 1 + 1 + 1 + 1 + 1) (11, 11)) a = (10, 0) := by rw [up1_ne _ _ (by omega)]; exact hS4
  refine r_putRF rfl dX10_init_42 fl_RX10_23 ⟨_, _, rfl⟩ rfl rfl rfl (by assumption) ?_
  refine r_aload_n 0 dX10_init_45 rfl rfl ?_
  refine r_bipush (v := nI 66) dX10_init_46 (by decide) ?_
  refine r_newarr (κ := 11) dX10_init_48 rfl (by decide) ac_int (by decide) ⟨(Nat.le_of_ble_eq_true rfl), (Nat.le_of_ble_eq_true rfl)⟩ ?_
  have hS6 : (up1 (up1 (up1 (up1 (up1 (up1 sh (a + 1) (11, 1387)) (a + 1 + 1) (11, 4161)) (a + 1 + 1 + 1) (12, 2)) (a + 1 + 1 + 1 + 1) (11, 40)) (a + 1 + 1 + 1 + 1 + 1) (11, 11)) (a + 1 + 1 + 1 + 1 + 1 + 1) (11, 66)) a = (10, 0) := by rw [up1_ne _ _ (by omega)]; exact hS5
  refine r_putRF rfl dX10_init_50 fl_RX10_26 ⟨_, _, rfl⟩ rfl rfl rfl (by assumption) ?_
  refine r_aload_n 0 dX10_init_53 rfl rfl ?_
  refine r_bipush (v := nI 6) dX10_init_54 (by decide) ?_
  refine r_newarr (κ := 12) dX10_init_56 rfl (by decide) ac_boolean (by decide) ⟨(Nat.le_of_ble_eq_true rfl), (Nat.le_of_ble_eq_true rfl)⟩ ?_
  have hS7 : (up1 (up1 (up1 (up1 (up1 (up1 (up1 sh (a + 1) (11, 1387)) (a + 1 + 1) (11, 4161)) (a + 1 + 1 + 1) (12, 2)) (a + 1 + 1 + 1 + 1) (11, 40)) (a + 1 + 1 + 1 + 1 + 1) (11, 11)) (a + 1 + 1 + 1 + 1 + 1 + 1) (11, 66)) (a + 1 + 1 + 1 + 1 + 1 + 1 + 1) (12, 6)) a = (10, 0) := by rw [up1_ne _ _ (by omega)]; exact hS6
  refine r_putRF rfl dX10_init_58 fl_RX10_29 ⟨_, _, rfl⟩ rfl rfl rfl (by assumption) ?_
  refine r_aload_n 0 dX10_init_61 rfl rfl ?_
  refine r_bipush (v := nI 6) dX10_init_62 (by decide) ?_
  refine r_newarr (κ := 11) dX10_init_64 rfl (by decide) ac_int (by decide) ⟨(Nat.le_of_ble_eq_true rfl), (Nat.le_of_ble_eq_true rfl)⟩ ?_
  have hS8 : (up1 (up1 (up1 (up1 (up1 (up1 (up1 (up1 sh (a + 1) (11, 1387)) (a + 1 + 1) (11, 4161)) (a + 1 + 1 + 1) (12, 2)) (a + 1 + 1 + 1 + 1) (11, 40)) (a + 1 + 1 + 1 + 1 + 1) (11, 11)) (a + 1 + 1 + 1 + 1 + 1 + 1) (11, 66)) (a + 1 + 1 + 1 + 1 + 1 + 1 + 1) (12, 6)) (a + 1 + 1 + 1 + 1 + 1 + 1 + 1 + 1) (11, 6)) a = (10, 0) := by rw [up1_ne _ _ (by omega)]; exact hS7
  refine r_putRF rfl dX10_init_66 fl_RX10_32 ⟨_, _, rfl⟩ rfl rfl rfl (by assumption) ?_
  refine r_aload_n 0 dX10_init_69 rfl rfl ?_
  refine r_bipush (v := nI 6) dX10_init_70 (by decide) ?_
  refine r_newarr (κ := 11) dX10_init_72 rfl (by decide) ac_int (by decide) ⟨(Nat.le_of_ble_eq_true rfl), (Nat.le_of_ble_eq_true rfl)⟩ ?_
  have hS9 : (up1 (up1 (up1 (up1 (up1 (up1 (up1 (up1 (up1 sh (a + 1) (11, 1387)) (a + 1 + 1) (11, 4161)) (a + 1 + 1 + 1) (12, 2)) (a + 1 + 1 + 1 + 1) (11, 40)) (a + 1 + 1 + 1 + 1 + 1) (11, 11)) (a + 1 + 1 + 1 + 1 + 1 + 1) (11, 66)) (a + 1 + 1 + 1 + 1 + 1 + 1 + 1) (12, 6)) (a + 1 + 1 + 1 + 1 + 1 + 1 + 1 + 1) (11, 6)) (a + 1 + 1 + 1 + 1 + 1 + 1 + 1 + 1 + 1) (11, 6)) a = (10, 0) := by rw [up1_ne _ _ (by omega)]; exact hS8
  refine r_putRF rfl dX10_init_74 fl_RX10_35 ⟨_, _, rfl⟩ rfl rfl rfl (by assumption) ?_
  refine r_aload_n 0 dX10_init_77 rfl rfl ?_
  refine r_bipush (v := nI 80) dX10_init_78 (by decide) ?_
  refine r_newarr (κ := 11) dX10_init_80 rfl (by decide) ac_int (by decide) ⟨(Nat.le_of_ble_eq_true rfl), (Nat.le_of_ble_eq_true rfl)⟩ ?_
  have hS10 : (up1 (up1 (up1 (up1 (up1 (up1 (up1 (up1 (up1 (up1 sh (a + 1) (11, 1387)) (a + 1 + 1) (11, 4161)) (a + 1 + 1 + 1) (12, 2)) (a + 1 + 1 + 1 + 1) (11, 40)) (a + 1 + 1 + 1 + 1 + 1) (11, 11)) (a + 1 + 1 + 1 + 1 + 1 + 1) (11, 66)) (a + 1 + 1 + 1 + 1 + 1 + 1 + 1) (12, 6)) (a + 1 + 1 + 1 + 1 + 1 + 1 + 1 + 1) (11, 6)) (a + 1 + 1 + 1 + 1 + 1 + 1 + 1 + 1 + 1) (11, 6)) (a + 1 + 1 + 1 + 1 + 1 + 1 + 1 + 1 + 1 + 1) (11, 80)) a = (10, 0) := by rw [up1_ne _ _ (by omega)]; exact hS9
  refine r_putRF rfl dX10_init_82 fl_RX10_38 ⟨_, _, rfl⟩ rfl rfl rfl (by assumption) ?_
  refine r_iconst (v := nI 0) dX10_init_85 (by decide) ?_
  refine r_istore_n 1 (ls2 := [_, _]) dX10_init_86 rfl (by decide) (Nat.le_of_ble_eq_true rfl) rfl ?_
  refine H 6 0 _ _ _ _ _ _ rfl rfl rfl rfl ?_ (fun q => ?_) (fun x x1 x2 x3 q => ?_) (fun q hq => ⟨?_, ?_, ?_⟩)
  · refine ⟨hS10, ⟨?_, ?_⟩, ⟨?_, ?_⟩, ⟨?_, ?_⟩, ⟨?_, ?_⟩, ⟨?_, ?_⟩, ⟨?_, ?_⟩, ⟨?_, ?_⟩, ⟨?_, ?_⟩, ⟨?_, ?_⟩, ⟨?_, ?_⟩⟩
    · first | (rw [up2_ne _ _ (Or.inr (by decide)), up1_ne _ _ (by omega), up2_ne _ _ (Or.inr (by decide)), up1_ne _ _ (by omega), up2_ne _ _ (Or.inr (by decide)), up1_ne _ _ (by omega), up2_ne _ _ (Or.inr (by decide)), up1_ne _ _ (by omega), up2_ne _ _ (Or.inr (by decide)), up1_ne _ _ (by omega), up2_ne _ _ (Or.inr (by decide)), up1_ne _ _ (by omega), up2_ne _ _ (Or.inr (by decide)), up1_ne _ _ (by omega), up2_ne _ _ (Or.inr (by decide)), up1_ne _ _ (by omega), up2_ne _ _ (Or.inr (by decide)), up1_ne _ _ (by omega), up2_same]; done) | (rw [up2_ne _ _ (Or.inr (by decide)), up1_ne _ _ (by omega), up2_ne _ _ (Or.inr (by decide)), up1_ne _ _ (by omega), up2_ne _ _ (Or.inr (by decide)), up1_ne _ _ (by omega), up2_ne _ _ (Or.inr (by decide)), up1_ne _ _ (by omega), up2_ne _ _ (Or.inr (by decide)), up1_ne _ _ (by omega), up2_ne _ _ (Or.inr (by decide)), up1_ne _ _ (by omega), up2_ne _ _ (Or.inr (by decide)), up1_ne _ _ (by omega), up2_ne _ _ (Or.inr (by decide)), up1_ne _ _ (by omega), up2_ne _ _ (Or.inr (by decide)), up1_ne _ _ (by omega), up2_same]; rfl)
    · simp [up1]
    · first | (rw [up2_ne _ _ (Or.inr (by decide)), up1_ne _ _ (by omega), up2_ne _ _ (Or.inr (by decide)), up1_ne _ _ (by omega), up2_ne _ _ (Or.inr (by decide)), up1_ne _ _ (by omega), up2_ne _ _ (Or.inr (by decide)), up1_ne _ _ (by omega), up2_ne _ _ (Or.inr (by decide)), up1_ne _ _ (by omega), up2_ne _ _ (Or.inr (by decide)), up1_ne _ _ (by omega), up2_ne _ _ (Or.inr (by decide)), up1_ne _ _ (by omega), up2_ne _ _ (Or.inr (by decide)), up1_ne _ _ (by omega), up2_same]; done) | (rw [up2_ne _ _ (Or.inr (by decide)), up1_ne _ _ (by omega), up2_ne _ _ (Or.inr (by decide)), up1_ne _ _ (by omega), up2_ne _ _ (Or.inr (by decide)), up1_ne _ _ (by omega), up2_ne _ _ (Or.inr (by decide)), up1_ne _ _ (by omega), up2_ne _ _ (Or.inr (by decide)), up1_ne _ _ (by omega), up2_ne _ _ (Or.inr (by decide)), up1_ne _ _ (by omega), up2_ne _ _ (Or.inr (by decide)), up1_ne _ _ (by omega), up2_ne _ _ (Or.inr (by decide)), up1_ne _ _ (by omega), up2_same]; rfl)
    · simp [up1]
    · first | (rw [up2_ne _ _ (Or.inr (by decide)), up1_ne _ _ (by omega), up2_ne _ _ (Or.inr (by decide)), up1_ne _ _ (by omega), up2_ne _ _ (Or.inr (by decide)), up1_ne _ _ (by omega), up2_ne _ _ (Or.inr (by decide)), up1_ne _ _ (by omega), up2_ne _ _ (Or.inr (by decide)), up1_ne _ _ (by omega), up2_ne _ _ (Or.inr (by decide)), up1_ne _ _ (by omega), up2_ne _ _ (Or.inr (by decide)), up1_ne _ _ (by omega), up2_same]; done) | (rw [up2_ne _ _ (Or.inr (by decide)), up1_ne _ _ (by omega), up2_ne _ _ (Or.inr (by decide)), up1_ne _ _ (by omega), up2_ne _ _ (Or.inr (by decide)), up1_ne _ _ (by omega), up2_ne _ _ (Or.inr (by decide)), up1_ne _ _ (by omega), up2_ne _ _ (Or.inr (by decide)), up1_ne _ _ (by omega), up2_ne _ _ (Or.inr (by decide)), up1_ne _ _ (by omega), up2_ne _ _ (Or.inr (by decide)), up1_ne _ _ (by omega), up2_same]; rfl)
    · simp [up1]
    · first | (rw [up2_ne _ _ (Or.inr (by decide)), up1_ne _ _ (by omega), up2_ne _ _ (Or.inr (by decide)), up1_ne _ _ (by omega), up2_ne _ _ (Or.inr (by decide)), up1_ne _ _ (by omega), up2_ne _ _ (Or.inr (by decide)), up1_ne _ _ (by omega), up2_ne _ _ (Or.inr (by decide)), up1_ne _ _ (by omega), up2_ne _ _ (Or.inr (by decide)), up1_ne _ _ (by omega), up2_same]; done) | (rw [up2_ne _ _ (Or.inr (by decide)), up1_ne _ _ (by omega), up2_ne _ _ (Or.inr (by decide)), up1_ne _ _ (by omega), up2_ne _ _ (Or.inr (by decide)), up1_ne _ _ (by omega), up2_ne _ _ (Or.inr (by decide)), up1_ne _ _ (by omega), up2_ne _ _ (Or.inr (by decide)), up1_ne _ _ (by omega), up2_ne _ _ (Or.inr (by decide)), up1_ne _ _ (by omega), up2_same]; rfl)
    · simp [up1]
    · first | (rw [up2_ne _ _ (Or.inr (by decide)), up1_ne _ _ (by omega), up2_ne _ _ (Or.inr (by decide)), up1_ne _ _ (by omega), up2_ne _ _ (Or.inr (by decide)), up1_ne _ _ (by omega), up2_ne _ _ (Or.inr (by decide)), up1_ne _ _ (by omega), up2_ne _ _ (Or.inr (by decide)), up1_ne _ _ (by omega), up2_same]; done) | (rw [up2_ne _ _ (Or.inr (by decide)), up1_ne _ _ (by omega), up2_ne _ _ (Or.inr (by decide)), up1_ne _ _ (by omega), up2_ne _ _ (Or.inr (by decide)), up1_ne _ _ (by omega), up2_ne _ _ (Or.inr (by decide)), up1_ne _ _ (by omega), up2_ne _ _ (Or.inr (by decide)), up1_ne _ _ (by omega), up2_same]; rfl)
    · simp [up1]
    · first | (rw [up2_ne _ _ (Or.inr (by decide)), up1_ne _ _ (by omega), up2_ne _ _ (Or.inr (by decide)), up1_ne _ _ (by omega), up2_ne _ _ (Or.inr (by decide)), up1_ne _ _ (by omega), up2_ne _ _ (Or.inr (by decide)), up1_ne _ _ (by omega), up2_same]; done) | (rw [up2_ne _ _ (Or.inr (by decide)), up1_ne _ _ (by omega), up2_ne _ _ (Or.inr (by decide)), up1_ne _ _ (by omega), up2_ne _ _ (Or.inr (by decide)), up1_ne _ _ (by omega), up2_ne _ _ (Or.inr (by decide)), up1_ne _ _ (by omega), up2_same]; rfl)
    · simp [up1]
    · first | (rw [up2_ne _ _ (Or.inr (by decide)), up1_ne _ _ (by omega), up2_ne _ _ (Or.inr (by decide)), up1_ne _ _ (by omega), up2_ne _ _ (Or.inr (by decide)), up1_ne _ _ (by omega), up2_same]; done) | (rw [up2_ne _ _ (Or.inr (by decide)), up1_ne _ _ (by omega), up2_ne _ _ (Or.inr (by decide)), up1_ne _ _ (by omega), up2_ne _ _ (Or.inr (by decide)), up1_ne _ _ (by omega), up2_same]; rfl)
    · simp [up1]
    · first | (rw [up2_ne _ _ (Or.inr (by decide)), up1_ne _ _ (by omega), up2_ne _ _ (Or.inr (by decide)), up1_ne _ _ (by omega), up2_same]; done) | (rw [up2_ne _ _ (Or.inr (by decide)), up1_ne _ _ (by omega), up2_ne _ _ (Or.inr (by decide)), up1_ne _ _ (by omega), up2_same]; rfl)
    · simp [up1]
    · first | (rw [up2_ne _ _ (Or.inr (by decide)), up1_ne _ _ (by omega), up2_same]; done) | (rw [up2_ne _ _ (Or.inr (by decide)), up1_ne _ _ (by omega), up2_same]; rfl)
    · simp [up1]
    · first | (rw [up2_same]; done) | (rw [up2_same]; rfl)
    · simp [up1]
  · rw [ini_0]; simp [up1]
  · by_cases e : x = a
    · subst e; simp [up1, hm]
    · have hx10 : x = a + 2 ∨ x = a + 3 ∨ x = a + 4 ∨ x = a + 5 ∨ x = a + 6 ∨ x = a + 7 ∨ x = a + 8 ∨ x = a + 9 ∨ x = a + 10 := by omega
      rcases hx10 with h | h | h | h | h | h | h | h | h <;> subst h <;> simp [up1]
  · rw [up1_ne _ _ (by omega), up1_ne _ _ (by omega), up1_ne _ _ (by omega), up1_ne _ _ (by omega), up1_ne _ _ (by omega), up1_ne _ _ (by omega), up1_ne _ _ (by omega), up1_ne _ _ (by omega), up1_ne _ _ (by omega), up1_ne _ _ (by omega)]
  · rw [up1_ne _ _ (by omega), up1_ne _ _ (by omega), up1_ne _ _ (by omega), up1_ne _ _ (by omega), up1_ne _ _ (by omega), up1_ne _ _ (by omega), up1_ne _ _ (by omega), up1_ne _ _ (by omega), up1_ne _ _ (by omega), up1_ne _ _ (by omega)]
  · funext k
    rw [up2_row _ _ (by omega), up1_ne _ _ (by omega), up2_row _ _ (by omega), up1_ne _ _ (by omega), up2_row _ _ (by omega), up1_ne _ _ (by omega), up2_row _ _ (by omega), up1_ne _ _ (by omega), up2_row _ _ (by omega), up1_ne _ _ (by omega), up2_row _ _ (by omega), up1_ne _ _ (by omega), up2_row _ _ (by omega), up1_ne _ _ (by omega), up2_row _ _ (by omega), up1_ne _ _ (by omega), up2_row _ _ (by omega), up1_ne _ _ (by omega), up2_row _ _ (by omega), up1_ne _ _ (by omega)]
end RINIT
