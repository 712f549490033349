section IMAGE
variable {z : Nat} {sh : SH} {mi : MI} {mr : MR} {x : Nat}
theorem LPW.loc {sh' : SH} {mr' : MR} (h : LPW sh mr x) (F : ∀ q, x ≤ q → q < x + 533 → sh' q = sh q) (G : ∀ q, x ≤ q → q < x + 533 → q ≠ x + 528 → mr' q = mr q) : LPW sh' mr' x := by
  obtain ⟨l0, ⟨l1, l2⟩, ⟨l3, l4⟩, ⟨l5, l6⟩, ⟨l7, l8⟩, ⟨l9, l10⟩, ⟨l11, l12⟩⟩ := h
  have e := F x (by omega) (by omega)
  have e' := G x (by omega) (by omega) (by omega)
  exact ⟨by rw [e]; exact l0, ⟨by rw [e']; exact l1, l2.loc (fun q q1 q2 => ⟨F q (by omega) (by omega), G q (by omega) (by omega) (by omega)⟩)⟩, ⟨by rw [e']; exact l3, l4.loc (fun q q1 q2 => ⟨F q (by omega) (by omega), G q (by omega) (by omega) (by omega)⟩)⟩, ⟨by rw [e']; exact l5, l6.loc (fun q q1 q2 => ⟨F q (by omega) (by omega), G q (by omega) (by omega) (by omega)⟩)⟩, ⟨by rw [e']; exact l7, by rw [F _ (by omega) (by omega)]; exact l8⟩, ⟨by rw [e']; exact l9, l10.loc (fun q q1 q2 => ⟨F q (by omega) (by omega), G q (by omega) (by omega) (by omega)⟩)⟩, ⟨by rw [e']; exact l11, l12.loc (fun q q1 q2 => ⟨F q (by omega) (by omega), G q (by omega) (by omega) (by omega)⟩)⟩⟩
def IP (z : Nat) (sh : SH) (mi : MI) (mr : MR) (x : Nat) (σ : Al) (j y : Nat) : Prop := LPW sh mr x ∧ PdC mi (x + 1) σ.1 ∧ NtC mi mr (x + 3) σ.2.1 ∧ (∀ s, s < 6 → KpR mr (x + 264 + 1 + 3 + 43 * s + 6)) ∧ (∀ k, k < 2 → k ≠ j → ImC z sh mi mr x k (σ.2.2 k)) ∧ (mr (x + 528) j = some y ∧ x + 544 ≤ y ∧ y + 261 ≤ z ∧ LNt sh mr y ∧ ∀ s, s < 6 → KpR mr (y + 3 + 43 * s + 6)) ∧ ∀ y0 y1, mr (x + 528) 0 = some y0 → mr (x + 528) 1 = some y1 → y0 + 261 ≤ y1 ∨ y1 + 261 ≤ y0
theorem IP.fin {σ : Al} {N j y : Nat} {m : MI} (h : IP z sh mi mr x σ j y) (hok : okA σ N) (hj : j < 2) (hN : NtC m mr y σ.2.1) (hO : Oth mi m y (y + 261)) : CR z sh m mr x (σ.1, σ.2.1, fun k => if k = j then some σ.2.1 else σ.2.2 k) := by
  obtain ⟨h1, h2, h3, h4, h5, ⟨g1, g2, g3, g4, g5⟩, h7⟩ := h
  refine ⟨h1, h2.keep (by rw [hO _ (by omega)]) (hO _ (by omega)), h3.keep (okNt_len hok.2.1.1) (fun q q1 q2 => hO q (by omega)), h4, fun k hk => ?_, h7⟩
  show ImC z sh m mr x k (if k = j then some σ.2.1 else σ.2.2 k)
  by_cases e : k = j
  · rw [if_pos e, e]; exact ⟨y, g1, g2, g3, g4, hN⟩
  · rw [if_neg e]
    have := h5 k hk e
    unfold ImC at *
    cases ho : σ.2.2 k with
    | none => rw [ho] at this; exact this
    | some n =>
      rw [ho] at this
      obtain ⟨y', y1, y2, y3, y4, y5⟩ := this
      have hd : y + 261 ≤ y' ∨ y' + 261 ≤ y := by
        rcases (show (k = 0 ∧ j = 1) ∨ (k = 1 ∧ j = 0) by omega) with ⟨rfl, rfl⟩ | ⟨rfl, rfl⟩
        · have := h7 y' y y1 g1; omega
        · have := h7 y y' g1 y1; omega
      exact ⟨y', y1, y2, y3, y4, y5.keep (okNt_len (hok.2.2 k hk n ho).1) (fun q q1 q2 => hO q (by omega))⟩
def PI (z : Nat) (sh : SH) (mi : MI) (mr : MR) (x : Nat) (p : Int32 × Al) : Option Value → Nat → SH → MI → MR → Prop := fun v z' sh' m r => v = some (.int p.1) ∧ CR z' sh' m r x p.2 ∧ z ≤ z' ∧ ∀ q, x + 533 ≤ q → q < x + 544 → sh' q = sh q ∧ m q = mi q ∧ r q = mr q
theorem k_image {σ : Al} {N : Nat} (hC : CR z sh mi mr x σ) (hok : okA σ N) (hz : x + 544 ≤ z) (k : Int32) : Mv mX9_image 5 261 1749 [.ref x, .int k] z sh mi mr (PI z sh mi mr x (sp_image σ k)) := by
  obtain ⟨hLL, c2, c3, c4, c5, c6⟩ := id hC
  obtain ⟨l0, ⟨l1, l2⟩, ⟨l3, l4⟩, ⟨l5, l6⟩, ⟨l7, l8⟩, ⟨l9, l10⟩, ⟨l11, l12⟩⟩ := id hLL
  have pd0 := l2.1
  have pd1 := c2.1
  have h40 := hok.1.1
  have hnt := okNt_len hok.2.1.1
  obtain ⟨n0, n1, n2, n3, n4, n5⟩ := id l4
  have K34 : ∀ j, j < 2 → k = nI j → ∀ (kc ks z1 : Nat) (sh1 : SH) (mi1 : MI) (mr1 : MR) (y : Nat), kc ≤ 261 → ks ≤ 1749 → IP z1 sh1 mi1 mr1 x σ j y → z ≤ z1 → (∀ q, x + 533 ≤ q → q < x + 544 → sh1 q = sh q ∧ mi1 q = mi q ∧ mr1 q = mr q) → Wp yX9_image cX9_image 2 (some .int) (mE 5 261 1749 (PI z sh mi mr x (sp_image σ k))) kc ks 34 [.ref x, .int k] [] z1 sh1 mi1 mr1 := by
    intro j hj hk kc ks z1 sh1 mi1 mr1 y hkc hks hP hz1 hfr
    subst hk
    have hP' := hP
    obtain ⟨h1, h2, h3, h4, h5, ⟨g1, g2, g3, g4, g5⟩, h7⟩ := hP'
    obtain ⟨v0, -, ⟨v3, v4⟩, -, ⟨v7, v8⟩, -⟩ := id h1
    have v9 := g4.1
    have e : sp_image σ (nI j) = (nI 1, (σ.1, σ.2.1, fun k => if k = j then some σ.2.1 else σ.2.2 k)) := by
      unfold sp_image
      rw [if_neg (by rw [inB_in (Nat.zero_le _) (by omega) (by omega)]; decide), sk_nI (by omega)]
    rw [e]
    refine r_aload_n 0 dX9_image_34 rfl rfl ?_
    refine r_getR dX9_image_35 fl_RX9_30 rfl (by assumption) (by assumption) ?_
    refine r_iload_n 1 dX9_image_38 rfl rfl ?_
    refine r_aald dX9_image_39 (by assumption) (by decide) (by intro _; rfl) (by omega) (by omega) (by assumption) ?_
    refine r_aload_n 0 dX9_image_40 rfl rfl ?_
    refine r_getR dX9_image_41 fl_RX9_19 rfl (by assumption) (by assumption) ?_
    refine r_callVw [_] dX9_image_44 ok_RX9_213 ivX3_copyFrom (by assumption) ⟨_, _, rfl⟩ rfl rfl (Nat.le_of_ble_eq_true rfl) ⟨(Nat.le_of_ble_eq_true rfl), (Nat.le_of_ble_eq_true rfl), Nat.le_trans (m := 261) (by omega) (Nat.le_refl _), Nat.le_trans (m := 1749) (by omega) (Nat.le_refl _)⟩ (c_ntCopy g4 v4 (by omega) h3 hok.2.1.1.1 g5) ?_
    intro m ⟨q1, q2⟩
    refine r_iconst (v := nI 1) dX9_image_47 (by decide) ?_
    refine r_iret dX9_image_48 rfl (by omega) (by omega) ?_
    exact ⟨rfl, hP.fin hok hj q1 q2, hz1, fun q a1 a2 => ⟨(hfr q a1 a2).1, by rw [q2 q (by omega)]; exact (hfr q a1 a2).2.1, (hfr q a1 a2).2.2⟩⟩
  have K12 : inB k (nI 0) (nI 1) = true → Wp yX9_image cX9_image 2 (some .int) (mE 5 261 1749 (PI z sh mi mr x (sp_image σ k))) 0 0 12 [.ref x, .int k] [] z sh mi mr := by
    intro hin
    obtain ⟨j, j1, j2, hkj⟩ := inB_ex (by omega) hin (by omega)
    have hI := c5 j (by omega)
    unfold ImC at hI
    cases ho : σ.2.2 j with
    | some n =>
      rw [ho] at hI
      obtain ⟨y, y1, y2, y3, y4, y5⟩ := hI
      have k34 := K34 j (by omega) hkj 0 0 z sh mi mr y (by omega) (by omega) ⟨hLL, c2, c3, c4, fun k hk _ => c5 k hk, ⟨y1, y2, y3, y4, fun s hs => (y5.2 s hs).2.2.2.2.1⟩, c6⟩ (Nat.le_refl _) (fun _ _ _ => ⟨rfl, rfl, rfl⟩)
      subst hkj
      refine r_aload_n 0 dX9_image_12 rfl rfl ?_
      refine r_getR dX9_image_13 fl_RX9_30 rfl (by assumption) (by assumption) ?_
      refine r_iload_n 1 dX9_image_16 rfl rfl ?_
      refine r_aald dX9_image_17 (by assumption) (by decide) (by intro _; rfl) (by omega) (by omega) y1 ?_
      refine r_ifnonnullR 34 dX9_image_18 (by decide) ?_
      exact k34
    | none =>
      rw [ho] at hI
      have k21 : Wp yX9_image cX9_image 2 (some .int) (mE 5 261 1749 (PI z sh mi mr x (sp_image σ k))) 0 0 21 [.ref x, .int k] [] z sh mi mr := by
        subst hkj
        refine r_aload_n 0 dX9_image_21 rfl rfl ?_
        refine r_getR dX9_image_22 fl_RX9_30 rfl (by assumption) (by assumption) ?_
        refine r_iload_n 1 dX9_image_25 rfl rfl ?_
        refine r_new dX9_image_26 ckX3 cl_RX9_16 in_RX3 ini_RX3 (by decide) ⟨(Nat.le_of_ble_eq_true rfl), (Nat.le_of_ble_eq_true rfl)⟩ ?_
        refine r_dup dX9_image_29 rfl ?_
        refine r_callI [] dX9_image_30 ok_RX9_18 iiX3_init rfl rfl (Nat.le_of_ble_eq_true rfl) (by refine ⟨?_, ?_, ?_, ?_⟩ <;> exact Nat.le_of_ble_eq_true rfl) (i_nt (up1_same _ _ _) (up1_same _ _ _)) ?_
        intro w z1 sh1 mi1 mr1 ⟨hw, hz1, hL1, hN1, hB⟩
        subst hw
        have B := hB.new
        have f3 := hL1.1
        have f1 : sh1 (x + 528) = (13, 2) := by rw [(B _ (by omega)).1]; exact l8
        refine r_aast (r := (RX3, TX3, 3)) dX9_image_33 (by assumption) (by decide) (by intro _; rfl) (by assumption) (by rfl) (by decide) (by omega) (by omega) ?_
        refine K34 j (by omega) rfl _ _ z1 sh1 mi1 _ z (Nat.le_of_ble_eq_true rfl) (Nat.le_of_ble_eq_true rfl) ⟨hLL.loc (fun q q1 q2 => (B q (by omega)).1) (fun q q1 q2 q3 => by rw [up2_row _ _ q3]; exact (B q (by omega)).2.2), c2.keep (by rw [(B _ (by omega)).2.1]) (B _ (by omega)).2.1, c3.keep2 hnt (fun q q1 q2 => ⟨(B q (by omega)).2.1, by rw [up2_row _ _ (by omega)]; exact (B q (by omega)).2.2⟩), fun s hs => (c4 s hs).keep (by rw [up2_row _ _ (by omega)]; exact (B _ (by omega)).2.2), fun k hk hkj => ?_, ⟨up2_same _ _ _ _, hz, by omega, hL1.loc (fun q q1 q2 => ⟨rfl, up2_row _ _ (by omega)⟩), fun s hs => (hN1.2 s hs).2.2.2.2.1.keep (up2_row _ _ (by omega))⟩, ?_⟩ (by omega) (fun q q1 q2 => ⟨(B q (by omega)).1, (B q (by omega)).2.1, by rw [up2_row _ _ (by omega)]; exact (B q (by omega)).2.2⟩)
        · have hI2 := c5 k hk
          unfold ImC at hI2 ⊢
          have e5 : up2 mr1 (x + 528) j (some z) (x + 528) k = mr (x + 528) k := by rw [up2_ne _ _ (Or.inr hkj), (B _ (by omega)).2.2]
          cases ho2 : σ.2.2 k with
          | none => rw [ho2] at hI2; simp only; rw [e5]; exact hI2
          | some n =>
            rw [ho2] at hI2
            obtain ⟨y', y1, y2, y3, y4, y5⟩ := hI2
            exact ⟨y', by rw [e5]; exact y1, y2, by omega, y4.loc (fun q q1 q2 => ⟨(B q (by omega)).1, by rw [up2_row _ _ (by omega)]; exact (B q (by omega)).2.2⟩), y5.keep2 (okNt_len (hok.2.2 k hk n ho2).1) (fun q q1 q2 => ⟨(B q (by omega)).2.1, by rw [up2_row _ _ (by omega)]; exact (B q (by omega)).2.2⟩)⟩
        · have oth : ∀ k y', k < 2 → k ≠ j → up2 mr1 (x + 528) j (some z) (x + 528) k = some y' → y' + 261 ≤ z := fun k y' hk hkj e => by
            rw [up2_ne _ _ (Or.inr hkj), (B _ (by omega)).2.2] at e
            have hI2 := c5 k hk
            unfold ImC at hI2
            cases ho2 : σ.2.2 k with
            | none => rw [ho2] at hI2; simp only at hI2; rw [hI2] at e; cases e
            | some n =>
              rw [ho2] at hI2
              obtain ⟨y2, a1, a2, a3, -⟩ := hI2
              rw [a1] at e
              cases e
              exact a3
          intro y0 y1 e0 e1
          rcases (show j = 0 ∨ j = 1 by omega) with rfl | rfl
          · have := oth 1 y1 (by omega) (by omega) e1; rw [up2_same] at e0; cases e0; right; exact this
          · have := oth 0 y0 (by omega) (by omega) e0; rw [up2_same] at e1; cases e1; left; exact this
      subst hkj
      refine r_aload_n 0 dX9_image_12 rfl rfl ?_
      refine r_getR dX9_image_13 fl_RX9_30 rfl (by assumption) (by assumption) ?_
      refine r_iload_n 1 dX9_image_16 rfl rfl ?_
      refine r_aaldN dX9_image_17 (by assumption) (by decide) (by intro _; rfl) (by omega) (by omega) hI ?_
      refine r_ifnonnullN dX9_image_18 ?_
      exact k21
  refine Mv.of pnX9_image (Nat.le_of_ble_eq_true rfl) rfl ?_
  refine r_iload_n 1 dX9_image_0 rfl rfl ?_
  refine r_if_lt 9 dX9_image_1 (by decide) (fun h1 => ?_) (fun h1 => ?_)
  · refine r_bipush (v := -2) dX9_image_9 (by decide) ?_
    refine r_iret dX9_image_11 rfl (Nat.le_of_ble_eq_true rfl) (Nat.le_of_ble_eq_true rfl) ?_
    have e : sp_image σ k = (-2, σ) := by unfold sp_image; rw [if_pos (by first | (rw [nI_zero] at h1; exact inB_lo h1) | exact inB_hi' (le_two (Int32.not_lt.mp h6)))]
    rw [e]
    exact ⟨rfl, hC, Nat.le_refl _, fun _ _ _ => ⟨rfl, rfl, rfl⟩⟩
  · refine r_iload_n 1 dX9_image_4 rfl rfl ?_
    refine r_iconst (v := nI 2) dX9_image_5 (by decide) ?_
    refine r_icmp_lt 12 dX9_image_6 (by decide) (fun h6 => ?_) (fun h6 => ?_)
    · exact K12 (inB_ok' (by rw [nI_zero] at h1; exact h1) (fun q => by have := Int32.not_lt.mpr (two_le q); exact this h6))
    · refine r_bipush (v := -2) dX9_image_9 (by decide) ?_
      refine r_iret dX9_image_11 rfl (Nat.le_of_ble_eq_true rfl) (Nat.le_of_ble_eq_true rfl) ?_
      have e : sp_image σ k = (-2, σ) := by unfold sp_image; rw [if_pos (by first | (rw [nI_zero] at h1; exact inB_lo h1) | exact inB_hi' (le_two (Int32.not_lt.mp h6)))]
      rw [e]
      exact ⟨rfl, hC, Nat.le_refl _, fun _ _ _ => ⟨rfl, rfl, rfl⟩⟩
end IMAGE
