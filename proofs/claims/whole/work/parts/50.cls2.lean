section CLS2
variable {z : Nat} {sh : SH} {mi : MI} {mr : MR} {x : Nat}
theorem StC.se {m m1 : MI} {a : Nat} {st : St} {se' : Se} (h : StC m mr a st) (hl : st.2.2.1.length ≤ 12) (hS : SeC m1 a se') (h10 : m1 a 10 = m a 10) (hx : ∀ q, a + 5 ≤ q → m1 q = m q) : StC m1 mr a (se', st.2) := by
  obtain ⟨h1, h2, h3, h4, h5, h6⟩ := h
  exact ⟨hS, h2.keep (hx _ (by omega)), h3.keep h4 hl (fun y g1 g2 => hx y (by omega)), h4, h5.keep (fun y g1 g2 => hx y (by omega)), h6.keep h10 (hx _ (by omega)) (hx _ (by omega))⟩
theorem CR.st {σ : Al} {N k : Nat} {m : MI} {st' : St} (h : CR z sh mi mr x σ) (hok : okA σ N) (hk : k < 6) (hS : StC m mr (x + 3 + 3 + 43 * k) st') (hx : ∀ q, (q < x + 3 + 3 + 43 * k ∨ x + 3 + 3 + 43 * k + 43 ≤ q) → m q = mi q) : CR z sh m mr x (upA σ k st') := by
  refine h.net hok MrOk.rf ⟨?_, fun s hs => ⟨?_, ?_⟩⟩ (fun q hq => ⟨hx q (by omega), rfl⟩)
  · rw [hx (x + 3) (by omega)]; exact h.2.2.1.1
  · rw [hx (x + 3 + 2) (by omega)]; exact (h.2.2.1.2 s hs).1
  · show StC m mr _ (upS _ k st' s)
    unfold upS
    by_cases e : s = k
    · rw [if_pos e, e]; exact hS
    · rw [if_neg e]; exact (h.2.2.1.2 s hs).2.keep (okNt_len hok.2.1.1 s hs) (fun q q1 q2 => hx q (by omega))
theorem CR.pad0 {σ : Al} {m : MI} {P : List Nat} (h : CR z sh mi mr x σ) (hl : ∀ s, s < 6 → (σ.2.1.1 s).2.2.1.length ≤ 12) (hi : ∀ k, k < 2 → ∀ n, σ.2.2 k = some n → ∀ s, s < 6 → (n.1 s).2.2.1.length ≤ 12) (hP : PdC m (x + 1) P) (hx : ∀ q, q ≠ x + 1 → q ≠ x + 2 → m q = mi q) : CR z sh m mr x (P, σ.2) := by
  obtain ⟨h1, h2, h3, h4, h5, h6⟩ := h
  refine ⟨h1, hP, h3.keep hl (fun q q1 q2 => hx q (by omega) (by omega)), h4, fun k hk => ?_, h6⟩
  have := h5 k hk
  unfold ImC at *
  cases ho : σ.2.2 k with
  | none => rw [ho] at this; simp only at this ⊢; exact this
  | some n =>
    rw [ho] at this
    simp only at this ⊢
    obtain ⟨y, y1, y2, y3, y4, y5⟩ := this
    exact ⟨y, y1, y2, y3, y4, y5.keep (hi k hk n ho) (fun q q1 q2 => hx q (by omega) (by omega))⟩
theorem rdWs_le {P : List Nat} : ∀ (k : Nat) {q : Nat}, q ≤ P.length → (rdWs k P q).2 ≤ P.length
  | 0, q, h => h
  | k + 1, q, h => by
    have hle := rdW_le (P := P) h
    unfold rdWs
    cases hr : rdW P q with
    | mk r j =>
      rw [hr] at hle
      have hle : j ≤ P.length := hle
      cases r with
      | none => exact hle
      | some w =>
        simp only
        split
        · rename_i hc
          have := sg_pos (P := P) (i := j) (by omega)
          exact rdWs_le k (by omega)
        · exact hle
theorem prs_le {P : List Nat} {j : Nat} (hok : okD P) (h : prs P = .inl j) : j ≤ 50 := by
  have h40 := hok.1
  have h3 := lets_len 65 3 P 0
  unfold prs at h
  simp only at h
  split at h
  · cases h; omega
  · rename_i hne
    split at h
    · cases h; omega
    · rename_i h62
      have hl := sg_pos (P := P) (i := (lets 65 3 P 0).length) (by omega)
      have hm : (if sg P ((lets 65 3 P 0).length + 1) = 58 then (some [], (lets 65 3 P 0).length + 1) else rdWs 5 P ((lets 65 3 P 0).length + 1) : Option (List Wd) × Nat).2 ≤ P.length := by
        split
        · show (lets 65 3 P 0).length + 1 ≤ _; omega
        · exact rdWs_le 5 (by omega)
      split at h
      · rename_i j' he
        rw [he] at hm
        cases h
        have : j ≤ P.length := hm
        omega
      · rename_i ws j' he
        rw [he] at hm
        have hm : j' ≤ P.length := hm
        have h4 := lets_len 97 4 P (j' + 1)
        split at h
        · cases h; omega
        · split at h
          · cases h; omega
          · cases h
theorem c_isSetting (w n : Int32) : Mp mX9_isSetting 0 [.int w, .int n] z sh mi mr (b2 (stg w n)) := by
  refine Mv.of pnX9_isSetting (Nat.le_of_ble_eq_true rfl) rfl ?_
  refine r_iload_n 0 dX9_isSetting_0 rfl rfl ?_
  by_cases hw : inB w (nI 0) (nI 2) = true
  · obtain ⟨j, j1, j2, rfl⟩ := inB_ex (by omega) hw (by omega)
    rcases (show j = 0 ∨ j = 1 ∨ j = 2 by omega) with rfl | rfl | rfl
    · refine r_tableIn 28 dX9_isSetting_1 (by decide) (by decide) rfl (by decide) ?_
      refine r_iload_n 1 dX9_isSetting_28 rfl rfl ?_
      refine r_iconst (v := nI 1) dX9_isSetting_29 (by decide) ?_
      refine r_icmp_lt 43 dX9_isSetting_30 (by decide) (fun h30 => ?_) (fun h30 => ?_)
      · refine r_iconst (v := nI 0) dX9_isSetting_43 (by decide) ?_
        refine r_zret dX9_isSetting_44 rfl (by first | exact b2_nar _ | decide) (Nat.le_of_ble_eq_true rfl) (Nat.le_of_ble_eq_true rfl) ?_
        refine ⟨rfl, rfl, rfl, ?_, rfl⟩
        have e : stg (nI 0) n = inB n (nI 1) (nI 7) := by unfold stg; rw [show decide (nI 0 = nI 0) = true from rfl, show decide (nI 0 = nI 1) = false by decide, show decide (nI 0 = nI 2) = false by decide]; simp
        rw [e]
        first | (rw [inB_lo h30]; rfl) | (rw [inB_hi' h36]; rfl) | (rw [inB_ok' h30 h36]; rfl)
      · refine r_iload_n 1 dX9_isSetting_33 rfl rfl ?_
        refine r_bipush (v := nI 7) dX9_isSetting_34 (by decide) ?_
        refine r_icmp_gt 43 dX9_isSetting_36 (by decide) (fun h36 => ?_) (fun h36 => ?_)
        · refine r_iconst (v := nI 0) dX9_isSetting_43 (by decide) ?_
          refine r_zret dX9_isSetting_44 rfl (by first | exact b2_nar _ | decide) (Nat.le_of_ble_eq_true rfl) (Nat.le_of_ble_eq_true rfl) ?_
          refine ⟨rfl, rfl, rfl, ?_, rfl⟩
          have e : stg (nI 0) n = inB n (nI 1) (nI 7) := by unfold stg; rw [show decide (nI 0 = nI 0) = true from rfl, show decide (nI 0 = nI 1) = false by decide, show decide (nI 0 = nI 2) = false by decide]; simp
          rw [e]
          first | (rw [inB_lo h30]; rfl) | (rw [inB_hi' h36]; rfl) | (rw [inB_ok' h30 h36]; rfl)
        · refine r_iconst (v := nI 1) dX9_isSetting_39 (by decide) ?_
          refine r_goto 44 dX9_isSetting_40 (by decide) ?_
          refine r_zret dX9_isSetting_44 rfl (by first | exact b2_nar _ | decide) (Nat.le_of_ble_eq_true rfl) (Nat.le_of_ble_eq_true rfl) ?_
          refine ⟨rfl, rfl, rfl, ?_, rfl⟩
          have e : stg (nI 0) n = inB n (nI 1) (nI 7) := by unfold stg; rw [show decide (nI 0 = nI 0) = true from rfl, show decide (nI 0 = nI 1) = false by decide, show decide (nI 0 = nI 2) = false by decide]; simp
          rw [e]
          first | (rw [inB_lo h30]; rfl) | (rw [inB_hi' h36]; rfl) | (rw [inB_ok' h30 h36]; rfl)
    · refine r_tableIn 45 dX9_isSetting_1 (by decide) (by decide) rfl (by decide) ?_
      refine r_iload_n 1 dX9_isSetting_45 rfl rfl ?_
      refine r_iconst (v := nI 1) dX9_isSetting_46 (by decide) ?_
      refine r_icmp_lt 59 dX9_isSetting_47 (by decide) (fun h47 => ?_) (fun h47 => ?_)
      · refine r_iconst (v := nI 0) dX9_isSetting_59 (by decide) ?_
        refine r_zret dX9_isSetting_60 rfl (by first | exact b2_nar _ | decide) (Nat.le_of_ble_eq_true rfl) (Nat.le_of_ble_eq_true rfl) ?_
        refine ⟨rfl, rfl, rfl, ?_, rfl⟩
        have e : stg (nI 1) n = inB n (nI 1) (nI 3) := by unfold stg; rw [show decide (nI 1 = nI 0) = false by decide, show decide (nI 1 = nI 1) = true from rfl, show decide (nI 1 = nI 2) = false by decide]; simp
        rw [e]
        first | (rw [inB_lo h47]; rfl) | (rw [inB_hi' h52]; rfl) | (rw [inB_ok' h47 h52]; rfl)
      · refine r_iload_n 1 dX9_isSetting_50 rfl rfl ?_
        refine r_iconst (v := nI 3) dX9_isSetting_51 (by decide) ?_
        refine r_icmp_gt 59 dX9_isSetting_52 (by decide) (fun h52 => ?_) (fun h52 => ?_)
        · refine r_iconst (v := nI 0) dX9_isSetting_59 (by decide) ?_
          refine r_zret dX9_isSetting_60 rfl (by first | exact b2_nar _ | decide) (Nat.le_of_ble_eq_true rfl) (Nat.le_of_ble_eq_true rfl) ?_
          refine ⟨rfl, rfl, rfl, ?_, rfl⟩
          have e : stg (nI 1) n = inB n (nI 1) (nI 3) := by unfold stg; rw [show decide (nI 1 = nI 0) = false by decide, show decide (nI 1 = nI 1) = true from rfl, show decide (nI 1 = nI 2) = false by decide]; simp
          rw [e]
          first | (rw [inB_lo h47]; rfl) | (rw [inB_hi' h52]; rfl) | (rw [inB_ok' h47 h52]; rfl)
        · refine r_iconst (v := nI 1) dX9_isSetting_55 (by decide) ?_
          refine r_goto 60 dX9_isSetting_56 (by decide) ?_
          refine r_zret dX9_isSetting_60 rfl (by first | exact b2_nar _ | decide) (Nat.le_of_ble_eq_true rfl) (Nat.le_of_ble_eq_true rfl) ?_
          refine ⟨rfl, rfl, rfl, ?_, rfl⟩
          have e : stg (nI 1) n = inB n (nI 1) (nI 3) := by unfold stg; rw [show decide (nI 1 = nI 0) = false by decide, show decide (nI 1 = nI 1) = true from rfl, show decide (nI 1 = nI 2) = false by decide]; simp
          rw [e]
          first | (rw [inB_lo h47]; rfl) | (rw [inB_hi' h52]; rfl) | (rw [inB_ok' h47 h52]; rfl)
    · refine r_tableIn 61 dX9_isSetting_1 (by decide) (by decide) rfl (by decide) ?_
      refine r_iload_n 1 dX9_isSetting_61 rfl rfl ?_
      refine r_if_lt 75 dX9_isSetting_62 (by decide) (fun h62 => ?_) (fun h62 => ?_)
      · refine r_iconst (v := nI 0) dX9_isSetting_75 (by decide) ?_
        refine r_zret dX9_isSetting_76 rfl (by first | exact b2_nar _ | decide) (Nat.le_of_ble_eq_true rfl) (Nat.le_of_ble_eq_true rfl) ?_
        refine ⟨rfl, rfl, rfl, ?_, rfl⟩
        have e : stg (nI 2) n = inB n (nI 0) (nI 60) := by unfold stg; rw [show decide (nI 2 = nI 0) = false by decide, show decide (nI 2 = nI 1) = false by decide, show decide (nI 2 = nI 2) = true from rfl]; simp
        rw [e]
        rw [nI_zero] at h62
        first | (rw [inB_lo h62]; rfl) | (rw [inB_hi' h68]; rfl) | (rw [inB_ok' h62 h68]; rfl)
      · refine r_iload_n 1 dX9_isSetting_65 rfl rfl ?_
        refine r_bipush (v := nI 60) dX9_isSetting_66 (by decide) ?_
        refine r_icmp_gt 75 dX9_isSetting_68 (by decide) (fun h68 => ?_) (fun h68 => ?_)
        · refine r_iconst (v := nI 0) dX9_isSetting_75 (by decide) ?_
          refine r_zret dX9_isSetting_76 rfl (by first | exact b2_nar _ | decide) (Nat.le_of_ble_eq_true rfl) (Nat.le_of_ble_eq_true rfl) ?_
          refine ⟨rfl, rfl, rfl, ?_, rfl⟩
          have e : stg (nI 2) n = inB n (nI 0) (nI 60) := by unfold stg; rw [show decide (nI 2 = nI 0) = false by decide, show decide (nI 2 = nI 1) = false by decide, show decide (nI 2 = nI 2) = true from rfl]; simp
          rw [e]
          rw [nI_zero] at h62
          first | (rw [inB_lo h62]; rfl) | (rw [inB_hi' h68]; rfl) | (rw [inB_ok' h62 h68]; rfl)
        · refine r_iconst (v := nI 1) dX9_isSetting_71 (by decide) ?_
          refine r_goto 76 dX9_isSetting_72 (by decide) ?_
          refine r_zret dX9_isSetting_76 rfl (by first | exact b2_nar _ | decide) (Nat.le_of_ble_eq_true rfl) (Nat.le_of_ble_eq_true rfl) ?_
          refine ⟨rfl, rfl, rfl, ?_, rfl⟩
          have e : stg (nI 2) n = inB n (nI 0) (nI 60) := by unfold stg; rw [show decide (nI 2 = nI 0) = false by decide, show decide (nI 2 = nI 1) = false by decide, show decide (nI 2 = nI 2) = true from rfl]; simp
          rw [e]
          rw [nI_zero] at h62
          first | (rw [inB_lo h62]; rfl) | (rw [inB_hi' h68]; rfl) | (rw [inB_ok' h62 h68]; rfl)
  · have hne : ∀ j, j ≤ 2 → w ≠ nI j := fun j hj e => hw (by rw [e]; exact inB_in (Nat.zero_le _) hj (by omega))
    have e : stg w n = false := by unfold stg; simp [hne 0 (by omega), hne 1 (by omega), hne 2 (by omega)]
    have hto : w.toInt < 0 ∨ 2 < w.toInt := by
      refine Classical.byContradiction (fun h => hw ?_)
      refine inB_ok' (fun q => h (Or.inl ?_)) (fun q => h (Or.inr ?_))
      · rw [Int32.lt_iff_toInt_lt, nI_toInt (by omega)] at q; exact q
      · rw [Int32.lt_iff_toInt_lt, nI_toInt (by omega)] at q; exact q
    refine r_tableOut 77 dX9_isSetting_1 hto (by decide) ?_
    refine r_iconst (v := nI 0) dX9_isSetting_77 (by decide) ?_
    refine r_zret dX9_isSetting_78 rfl (by first | exact b2_nar _ | decide) (Nat.le_of_ble_eq_true rfl) (Nat.le_of_ble_eq_true rfl) ?_
    exact ⟨rfl, rfl, rfl, by rw [e]; rfl, rfl⟩
theorem k_set {σ : Al} {N : Nat} (hC : CR z sh mi mr x σ) (hok : okA σ N) (s w n : Int32) : Mm mX9_set 1 [.ref x, .int s, .int w, .int n] z sh mi mr (PC z sh mi mr x (sp_set σ s w n)) := by
  obtain ⟨hLL, c2, c3, c4, c5, c6⟩ := id hC
  obtain ⟨l0, ⟨l1, l2⟩, ⟨l3, l4⟩, ⟨l5, l6⟩, ⟨l7, l8⟩, ⟨l9, l10⟩, ⟨l11, l12⟩⟩ := id hLL
  have pd0 := l2.1
  have pd1 := c2.1
  have h40 := hok.1.1
  have hnt := okNt_len hok.2.1.1
  obtain ⟨n0, n1, n2, n3, n4, n5⟩ := id l4
  refine Mv.of pnX9_set (Nat.le_of_ble_eq_true rfl) rfl ?_
  cases hb : stB s with
  | false =>
    refine r_iload_n 1 dX9_set_0 rfl rfl ?_
    refine r_callSp [_] dX9_set_1 ok_RX9_63 isX9_isStation rfl rfl (Nat.le_of_ble_eq_true rfl) (by refine ⟨?_, ?_, ?_, ?_⟩ <;> exact Nat.le_of_ble_eq_true rfl) (c_isSt _) ?_
    rw [hb]
    refine r_ifB_ne 9 dX9_set_4 (by decide) (fun h4 => ?_) (fun h4 => ?_)
    · cases h4
    · refine r_iconst (v := -1) dX9_set_7 (by decide) ?_
      refine r_iret dX9_set_8 rfl (Nat.le_of_ble_eq_true rfl) (Nat.le_of_ble_eq_true rfl) ?_
      refine ⟨rfl, rfl, ?_⟩
      have e : sp_set σ s w n = (-1, σ) := by unfold sp_set; rw [if_pos hb]
      rw [e]
      exact PC.same hC
  | true =>
    obtain ⟨k, hk, rfl⟩ := st_ex hb
    have hkk : sk (nI k) = k := sk_nI (by omega)
    obtain ⟨s1, s2⟩ := n5 k hk
    obtain ⟨t0, ⟨t1, t2⟩, ⟨t3, t4⟩, ⟨t5, t6⟩, ⟨t7, t8⟩, ⟨t9, t10⟩, ⟨t11, t12⟩, ⟨t13, t14⟩, ⟨t15, t16⟩⟩ := id s2
    have hSt := (c3.2 k hk).2
    have hOk := hok.2.1.1.1 k hk
    cases hg : stg w n with
    | false =>
      refine r_iload_n 1 dX9_set_0 rfl rfl ?_
      refine r_callSp [_] dX9_set_1 ok_RX9_63 isX9_isStation rfl rfl (Nat.le_of_ble_eq_true rfl) (by refine ⟨?_, ?_, ?_, ?_⟩ <;> exact Nat.le_of_ble_eq_true rfl) (c_isSt _) ?_
      rw [hb]
      refine r_ifB_ne 9 dX9_set_4 (by decide) (fun h4 => ?_) (fun h4 => ?_)
      · refine r_iload_n 2 dX9_set_9 rfl rfl ?_
        refine r_iload_n 3 dX9_set_10 rfl rfl ?_
        refine r_callSp [_, _] dX9_set_11 ok_RX9_96 isX9_isSetting rfl rfl (Nat.le_of_ble_eq_true rfl) (by refine ⟨?_, ?_, ?_, ?_⟩ <;> exact Nat.le_of_ble_eq_true rfl) (c_isSetting _ _) ?_
        rw [hg]
        refine r_ifB_ne 20 dX9_set_14 (by decide) (fun h14 => ?_) (fun h14 => ?_)
        · cases h14
        · refine r_bipush (v := -2) dX9_set_17 (by decide) ?_
          refine r_iret dX9_set_19 rfl (Nat.le_of_ble_eq_true rfl) (Nat.le_of_ble_eq_true rfl) ?_
          refine ⟨rfl, rfl, ?_⟩
          have e : sp_set σ (nI k) w n = (-2, σ) := by unfold sp_set; rw [if_neg (by rw [hb]; decide), if_pos hg]
          rw [e]
          exact PC.same hC
      · cases h4
    | true =>
      obtain ⟨e1, e2, e3, e4, e5, e6⟩ := id hSt.1
      have hl := hnt k hk
      have hg' := hg
      unfold stg at hg'
      simp only [Bool.or_eq_true, Bool.and_eq_true, decide_eq_true_eq] at hg'
      have frm : ∀ (j : Nat) (v : Int32) (q : Nat), x + 533 ≤ q → q < x + 544 → up2 mi (x + 3 + 3 + 43 * k) j v q = mi q ∧ mr q = mr q := fun j v q q1 q2 => ⟨up2_row _ _ (by omega), rfl⟩
      have ou : ∀ (j : Nat) (v : Int32) (q : Nat), (q < x + 3 + 3 + 43 * k ∨ x + 3 + 3 + 43 * k + 43 ≤ q) → up2 mi (x + 3 + 3 + 43 * k) j v q = mi q := fun j v q hq => up2_row _ _ (by omega)
      rcases hg' with ⟨rfl, hn⟩ | ⟨rfl, hn⟩ | ⟨rfl, hn⟩
      · obtain ⟨v, v1, v2, rfl⟩ := inB_ex (by omega) hn (by omega)
        have e : sp_set σ (nI k) (nI 0) (nI v) = (nI (stA σ k).1.2.2.2.1, upA σ k (((stA σ k).1.1, (stA σ k).1.2.1, (stA σ k).1.2.2.1, v, (stA σ k).1.2.2.2.2), (stA σ k).2)) := by unfold sp_set; rw [if_neg (by rw [hb]; decide), if_neg (by rw [hg]; decide), if_pos rfl, hkk, sk_nI (by omega)]
        rw [e]
        refine r_iload_n 1 dX9_set_0 rfl rfl ?_
        refine r_callSp [_] dX9_set_1 ok_RX9_63 isX9_isStation rfl rfl (Nat.le_of_ble_eq_true rfl) (by refine ⟨?_, ?_, ?_, ?_⟩ <;> exact Nat.le_of_ble_eq_true rfl) (c_isSt _) ?_
        rw [hb]
        refine r_ifB_ne 9 dX9_set_4 (by decide) (fun h4 => ?_) (fun h4 => ?_)
        · refine r_iload_n 2 dX9_set_9 rfl rfl ?_
          refine r_iload_n 3 dX9_set_10 rfl rfl ?_
          refine r_callSp [_, _] dX9_set_11 ok_RX9_96 isX9_isSetting rfl rfl (Nat.le_of_ble_eq_true rfl) (by refine ⟨?_, ?_, ?_, ?_⟩ <;> exact Nat.le_of_ble_eq_true rfl) (c_isSetting _ _) ?_
          rw [hg]
          refine r_ifB_ne 20 dX9_set_14 (by decide) (fun h14 => ?_) (fun h14 => ?_)
          · refine r_aload_n 0 dX9_set_20 rfl rfl ?_
            refine r_getR dX9_set_21 fl_RX9_19 rfl (by assumption) (by assumption) ?_
            refine r_getR dX9_set_24 fl_RX9_71 rfl (by assumption) (by assumption) ?_
            refine r_iload_n 1 dX9_set_27 rfl rfl ?_
            refine r_aald dX9_set_28 (by assumption) (by decide) (by intro _; rfl) (by omega) (by omega) (by assumption) ?_
            refine r_astore 4 (ls2 := [_, _, _, _, _]) dX9_set_29 (by decide) (Nat.le_of_ble_eq_true rfl) rfl ?_
            refine r_iload_n 2 dX9_set_31 rfl rfl ?_
            refine r_ifN_ne 51 dX9_set_32 (by decide) (by omega) (fun h32 => ?_) (fun h32 => ?_)
            · omega
            · refine r_aload 4 dX9_set_35 rfl ?_
              refine r_getV dX9_set_37 fl_RX9_100 rfl (by assumption) (by first | assumption | exact up2_same _ _ _ _ | exact (Eq.trans (up2_ne _ _ (by omega)) (by first | assumption | exact up2_same _ _ _ _)) | exact (Eq.trans (up2_ne _ _ (by omega)) (Eq.trans (up2_ne _ _ (by omega)) (by first | assumption | exact up2_same _ _ _ _))) | exact (Eq.trans (up2_ne _ _ (by omega)) (Eq.trans (up2_ne _ _ (by omega)) (Eq.trans (up2_ne _ _ (by omega)) (by first | assumption | exact up2_same _ _ _ _)))) | exact (Eq.trans (up2_ne _ _ (by omega)) (Eq.trans (up2_ne _ _ (by omega)) (Eq.trans (up2_ne _ _ (by omega)) (Eq.trans (up2_ne _ _ (by omega)) (by first | assumption | exact up2_same _ _ _ _))))) | rfl) ?_
              refine r_istore 5 (ls2 := [_, _, _, _, _, _]) dX9_set_40 (by decide) (Nat.le_of_ble_eq_true rfl) rfl ?_
              refine r_aload 4 dX9_set_42 rfl ?_
              refine r_iload_n 3 dX9_set_44 rfl rfl ?_
              refine r_putI dX9_set_45 fl_RX9_100 rfl rfl rfl (by assumption) ?_
              refine r_goto 85 dX9_set_48 (by decide) ?_
              refine r_iload 5 dX9_set_85 rfl ?_
              refine r_iret dX9_set_87 rfl (Nat.le_of_ble_eq_true rfl) (Nat.le_of_ble_eq_true rfl) ?_
              refine ⟨rfl, rfl, rfl, hC.st hok hk (hSt.se hl ⟨?_, e2.keep ?_ ?_, e3.keep ?_ ?_, ?_, ?_, ?_⟩ ?_ (fun q hq => up2_row _ _ (by omega))) (ou _ _), frm _ _⟩ <;> first | (rw [up2_row _ _ (by omega)]; done) | exact up2_same _ _ _ _ | (rw [up2_ne _ _ (Or.inr (by omega))]; first | assumption | done)
          · cases h14
        · cases h4
      · obtain ⟨v, v1, v2, rfl⟩ := inB_ex (by omega) hn (by omega)
        have e : sp_set σ (nI k) (nI 1) (nI v) = (nI (stA σ k).1.2.2.2.2.1, upA σ k (((stA σ k).1.1, (stA σ k).1.2.1, (stA σ k).1.2.2.1, (stA σ k).1.2.2.2.1, v, (stA σ k).1.2.2.2.2.2), (stA σ k).2)) := by unfold sp_set; rw [if_neg (by rw [hb]; decide), if_neg (by rw [hg]; decide), if_neg (by decide), if_pos rfl, hkk, sk_nI (by omega)]
        rw [e]
        refine r_iload_n 1 dX9_set_0 rfl rfl ?_
        refine r_callSp [_] dX9_set_1 ok_RX9_63 isX9_isStation rfl rfl (Nat.le_of_ble_eq_true rfl) (by refine ⟨?_, ?_, ?_, ?_⟩ <;> exact Nat.le_of_ble_eq_true rfl) (c_isSt _) ?_
        rw [hb]
        refine r_ifB_ne 9 dX9_set_4 (by decide) (fun h4 => ?_) (fun h4 => ?_)
        · refine r_iload_n 2 dX9_set_9 rfl rfl ?_
          refine r_iload_n 3 dX9_set_10 rfl rfl ?_
          refine r_callSp [_, _] dX9_set_11 ok_RX9_96 isX9_isSetting rfl rfl (Nat.le_of_ble_eq_true rfl) (by refine ⟨?_, ?_, ?_, ?_⟩ <;> exact Nat.le_of_ble_eq_true rfl) (c_isSetting _ _) ?_
          rw [hg]
          refine r_ifB_ne 20 dX9_set_14 (by decide) (fun h14 => ?_) (fun h14 => ?_)
          · refine r_aload_n 0 dX9_set_20 rfl rfl ?_
            refine r_getR dX9_set_21 fl_RX9_19 rfl (by assumption) (by assumption) ?_
            refine r_getR dX9_set_24 fl_RX9_71 rfl (by assumption) (by assumption) ?_
            refine r_iload_n 1 dX9_set_27 rfl rfl ?_
            refine r_aald dX9_set_28 (by assumption) (by decide) (by intro _; rfl) (by omega) (by omega) (by assumption) ?_
            refine r_astore 4 (ls2 := [_, _, _, _, _]) dX9_set_29 (by decide) (Nat.le_of_ble_eq_true rfl) rfl ?_
            refine r_iload_n 2 dX9_set_31 rfl rfl ?_
            refine r_ifN_ne 51 dX9_set_32 (by decide) (by omega) (fun h32 => ?_) (fun h32 => ?_)
            · refine r_iload_n 2 dX9_set_51 rfl rfl ?_
              refine r_iconst (v := nI 1) dX9_set_52 (by decide) ?_
              refine r_icmpN_ne 72 dX9_set_53 (by decide) (by omega) (by omega) (fun h53 => ?_) (fun h53 => ?_)
              · omega
              · refine r_aload 4 dX9_set_56 rfl ?_
                refine r_getV dX9_set_58 fl_RX9_103 rfl (by assumption) (by first | assumption | exact up2_same _ _ _ _ | exact (Eq.trans (up2_ne _ _ (by omega)) (by first | assumption | exact up2_same _ _ _ _)) | exact (Eq.trans (up2_ne _ _ (by omega)) (Eq.trans (up2_ne _ _ (by omega)) (by first | assumption | exact up2_same _ _ _ _))) | exact (Eq.trans (up2_ne _ _ (by omega)) (Eq.trans (up2_ne _ _ (by omega)) (Eq.trans (up2_ne _ _ (by omega)) (by first | assumption | exact up2_same _ _ _ _)))) | exact (Eq.trans (up2_ne _ _ (by omega)) (Eq.trans (up2_ne _ _ (by omega)) (Eq.trans (up2_ne _ _ (by omega)) (Eq.trans (up2_ne _ _ (by omega)) (by first | assumption | exact up2_same _ _ _ _))))) | rfl) ?_
                refine r_istore 5 (ls2 := [_, _, _, _, _, _]) dX9_set_61 (by decide) (Nat.le_of_ble_eq_true rfl) rfl ?_
                refine r_aload 4 dX9_set_63 rfl ?_
                refine r_iload_n 3 dX9_set_65 rfl rfl ?_
                refine r_putI dX9_set_66 fl_RX9_103 rfl rfl rfl (by assumption) ?_
                refine r_goto 85 dX9_set_69 (by decide) ?_
                refine r_iload 5 dX9_set_85 rfl ?_
                refine r_iret dX9_set_87 rfl (Nat.le_of_ble_eq_true rfl) (Nat.le_of_ble_eq_true rfl) ?_
                refine ⟨rfl, rfl, rfl, hC.st hok hk (hSt.se hl ⟨?_, e2.keep ?_ ?_, e3.keep ?_ ?_, ?_, ?_, ?_⟩ ?_ (fun q hq => up2_row _ _ (by omega))) (ou _ _), frm _ _⟩ <;> first | (rw [up2_row _ _ (by omega)]; done) | exact up2_same _ _ _ _ | (rw [up2_ne _ _ (Or.inr (by omega))]; first | assumption | done)
            · omega
          · cases h14
        · cases h4
      · obtain ⟨v, v1, v2, rfl⟩ := inB_ex (by omega) hn (by omega)
        have e : sp_set σ (nI k) (nI 2) (nI v) = (nI (stA σ k).1.2.2.2.2.2, upA σ k (((stA σ k).1.1, (stA σ k).1.2.1, (stA σ k).1.2.2.1, (stA σ k).1.2.2.2.1, (stA σ k).1.2.2.2.2.1, v), (stA σ k).2)) := by unfold sp_set; rw [if_neg (by rw [hb]; decide), if_neg (by rw [hg]; decide), if_neg (by decide), if_neg (by decide), hkk, sk_nI (by omega)]
        rw [e]
        refine r_iload_n 1 dX9_set_0 rfl rfl ?_
        refine r_callSp [_] dX9_set_1 ok_RX9_63 isX9_isStation rfl rfl (Nat.le_of_ble_eq_true rfl) (by refine ⟨?_, ?_, ?_, ?_⟩ <;> exact Nat.le_of_ble_eq_true rfl) (c_isSt _) ?_
        rw [hb]
        refine r_ifB_ne 9 dX9_set_4 (by decide) (fun h4 => ?_) (fun h4 => ?_)
        · refine r_iload_n 2 dX9_set_9 rfl rfl ?_
          refine r_iload_n 3 dX9_set_10 rfl rfl ?_
          refine r_callSp [_, _] dX9_set_11 ok_RX9_96 isX9_isSetting rfl rfl (Nat.le_of_ble_eq_true rfl) (by refine ⟨?_, ?_, ?_, ?_⟩ <;> exact Nat.le_of_ble_eq_true rfl) (c_isSetting _ _) ?_
          rw [hg]
          refine r_ifB_ne 20 dX9_set_14 (by decide) (fun h14 => ?_) (fun h14 => ?_)
          · refine r_aload_n 0 dX9_set_20 rfl rfl ?_
            refine r_getR dX9_set_21 fl_RX9_19 rfl (by assumption) (by assumption) ?_
            refine r_getR dX9_set_24 fl_RX9_71 rfl (by assumption) (by assumption) ?_
            refine r_iload_n 1 dX9_set_27 rfl rfl ?_
            refine r_aald dX9_set_28 (by assumption) (by decide) (by intro _; rfl) (by omega) (by omega) (by assumption) ?_
            refine r_astore 4 (ls2 := [_, _, _, _, _]) dX9_set_29 (by decide) (Nat.le_of_ble_eq_true rfl) rfl ?_
            refine r_iload_n 2 dX9_set_31 rfl rfl ?_
            refine r_ifN_ne 51 dX9_set_32 (by decide) (by omega) (fun h32 => ?_) (fun h32 => ?_)
            · refine r_iload_n 2 dX9_set_51 rfl rfl ?_
              refine r_iconst (v := nI 1) dX9_set_52 (by decide) ?_
              refine r_icmpN_ne 72 dX9_set_53 (by decide) (by omega) (by omega) (fun h53 => ?_) (fun h53 => ?_)
              · refine r_aload 4 dX9_set_72 rfl ?_
                refine r_getV dX9_set_74 fl_RX9_106 rfl (by assumption) (by first | assumption | exact up2_same _ _ _ _ | exact (Eq.trans (up2_ne _ _ (by omega)) (by first | assumption | exact up2_same _ _ _ _)) | exact (Eq.trans (up2_ne _ _ (by omega)) (Eq.trans (up2_ne _ _ (by omega)) (by first | assumption | exact up2_same _ _ _ _))) | exact (Eq.trans (up2_ne _ _ (by omega)) (Eq.trans (up2_ne _ _ (by omega)) (Eq.trans (up2_ne _ _ (by omega)) (by first | assumption | exact up2_same _ _ _ _)))) | exact (Eq.trans (up2_ne _ _ (by omega)) (Eq.trans (up2_ne _ _ (by omega)) (Eq.trans (up2_ne _ _ (by omega)) (Eq.trans (up2_ne _ _ (by omega)) (by first | assumption | exact up2_same _ _ _ _))))) | rfl) ?_
                refine r_istore 5 (ls2 := [_, _, _, _, _, _]) dX9_set_77 (by decide) (Nat.le_of_ble_eq_true rfl) rfl ?_
                refine r_aload 4 dX9_set_79 rfl ?_
                refine r_iload_n 3 dX9_set_81 rfl rfl ?_
                refine r_putI dX9_set_82 fl_RX9_106 rfl rfl rfl (by assumption) ?_
                refine r_iload 5 dX9_set_85 rfl ?_
                refine r_iret dX9_set_87 rfl (Nat.le_of_ble_eq_true rfl) (Nat.le_of_ble_eq_true rfl) ?_
                refine ⟨rfl, rfl, rfl, hC.st hok hk (hSt.se hl ⟨?_, e2.keep ?_ ?_, e3.keep ?_ ?_, ?_, ?_, ?_⟩ ?_ (fun q hq => up2_row _ _ (by omega))) (ou _ _), frm _ _⟩ <;> first | (rw [up2_row _ _ (by omega)]; done) | exact up2_same _ _ _ _ | (rw [up2_ne _ _ (Or.inr (by omega))]; first | assumption | done)
              · omega
            · omega
          · cases h14
        · cases h4
theorem k_forget {σ : Al} {N : Nat} (hC : CR z sh mi mr x σ) (hok : okA σ N) (s w : Int32) : Mm mX9_forget 1 [.ref x, .int s, .int w] z sh mi mr (PC z sh mi mr x (sp_forget σ s w)) := by
  obtain ⟨hLL, c2, c3, c4, c5, c6⟩ := id hC
  obtain ⟨l0, ⟨l1, l2⟩, ⟨l3, l4⟩, ⟨l5, l6⟩, ⟨l7, l8⟩, ⟨l9, l10⟩, ⟨l11, l12⟩⟩ := id hLL
  have pd0 := l2.1
  have pd1 := c2.1
  have h40 := hok.1.1
  have hnt := okNt_len hok.2.1.1
  obtain ⟨n0, n1, n2, n3, n4, n5⟩ := id l4
  refine Mv.of pnX9_forget (Nat.le_of_ble_eq_true rfl) rfl ?_
  cases hb : stB s with
  | false =>
    refine r_iload_n 1 dX9_forget_0 rfl rfl ?_
    refine r_callSp [_] dX9_forget_1 ok_RX9_63 isX9_isStation rfl rfl (Nat.le_of_ble_eq_true rfl) (by refine ⟨?_, ?_, ?_, ?_⟩ <;> exact Nat.le_of_ble_eq_true rfl) (c_isSt _) ?_
    rw [hb]
    refine r_ifB_ne 9 dX9_forget_4 (by decide) (fun h4 => ?_) (fun h4 => ?_)
    · cases h4
    · refine r_iconst (v := -1) dX9_forget_7 (by decide) ?_
      refine r_iret dX9_forget_8 rfl (Nat.le_of_ble_eq_true rfl) (Nat.le_of_ble_eq_true rfl) ?_
      refine ⟨rfl, rfl, ?_⟩
      have e : sp_forget σ s w = (-1, σ) := by unfold sp_forget; rw [if_pos hb]
      rw [e]
      exact PC.same hC
  | true =>
    obtain ⟨k, hk, rfl⟩ := st_ex hb
    have hkk : sk (nI k) = k := sk_nI (by omega)
    obtain ⟨s1, s2⟩ := n5 k hk
    obtain ⟨t0, ⟨t1, t2⟩, ⟨t3, t4⟩, ⟨t5, t6⟩, ⟨t7, t8⟩, ⟨t9, t10⟩, ⟨t11, t12⟩, ⟨t13, t14⟩, ⟨t15, t16⟩⟩ := id s2
    have hSt := (c3.2 k hk).2
    have hOk := hok.2.1.1.1 k hk
    obtain ⟨e1, e2, e3, e4, e5, e6⟩ := id hSt.1
    have hl := hnt k hk
    have v0 := t2.1
    have v1' := t4.1
    have f2 := e2.1
    have f3 := e3.1
    by_cases hin : inB w (nI 1) (nI 2) = true
    · obtain ⟨j, j1, j2, rfl⟩ := inB_ex (by omega) hin (by omega)
      rcases (show j = 1 ∨ j = 2 by omega) with rfl | rfl
      · have e : sp_forget σ (nI k) (nI 1) = (nI (stA σ k).1.2.1.length, upA σ k (((stA σ k).1.1, [], (stA σ k).1.2.2), (stA σ k).2)) := by unfold sp_forget; rw [if_neg (by rw [hb]; decide), if_neg (by rw [hin]; decide), if_pos rfl, hkk]
        rw [e]
        refine r_iload_n 1 dX9_forget_0 rfl rfl ?_
        refine r_callSp [_] dX9_forget_1 ok_RX9_63 isX9_isStation rfl rfl (Nat.le_of_ble_eq_true rfl) (by refine ⟨?_, ?_, ?_, ?_⟩ <;> exact Nat.le_of_ble_eq_true rfl) (c_isSt _) ?_
        rw [hb]
        refine r_ifB_ne 9 dX9_forget_4 (by decide) (fun h4 => ?_) (fun h4 => ?_)
        · refine r_iload_n 2 dX9_forget_9 rfl rfl ?_
          refine r_iconst (v := nI 1) dX9_forget_10 (by decide) ?_
          refine r_icmpN_lt 19 dX9_forget_11 (by decide) (by omega) (by omega) (fun h11 => ?_) (fun h11 => ?_)
          · omega
          · refine r_iload_n 2 dX9_forget_14 rfl rfl ?_
            refine r_iconst (v := nI 2) dX9_forget_15 (by decide) ?_
            refine r_icmpN_le 22 dX9_forget_16 (by decide) (by omega) (by omega) (fun h16 => ?_) (fun h16 => ?_)
            · refine r_aload_n 0 dX9_forget_22 rfl rfl ?_
              refine r_getR dX9_forget_23 fl_RX9_19 rfl (by assumption) (by assumption) ?_
              refine r_getR dX9_forget_26 fl_RX9_71 rfl (by assumption) (by assumption) ?_
              refine r_iload_n 1 dX9_forget_29 rfl rfl ?_
              refine r_aald dX9_forget_30 (by assumption) (by decide) (by intro _; rfl) (by omega) (by omega) (by assumption) ?_
              refine r_astore_n 3 (ls2 := [_, _, _, _]) dX9_forget_31 rfl (by decide) (Nat.le_of_ble_eq_true rfl) rfl ?_
              refine r_iload_n 2 dX9_forget_32 rfl rfl ?_
              refine r_iconst (v := nI 1) dX9_forget_33 (by decide) ?_
              refine r_icmpN_ne 44 dX9_forget_34 (by decide) (by omega) (by omega) (fun h34 => ?_) (fun h34 => ?_)
              · omega
              · refine r_aload_n 3 dX9_forget_37 rfl rfl ?_
                refine r_getR dX9_forget_38 fl_RX9_84 rfl (by assumption) (by assumption) ?_
                refine r_goto 48 dX9_forget_41 (by decide) ?_
                refine r_astore 4 (ls2 := [_, _, _, _, _]) dX9_forget_48 (by decide) (Nat.le_of_ble_eq_true rfl) rfl ?_
                refine r_aload 4 dX9_forget_50 rfl ?_
                refine r_getV dX9_forget_52 fl_RX9_91 rfl (by assumption) (by first | assumption | exact up2_same _ _ _ _ | exact (Eq.trans (up2_ne _ _ (by omega)) (by first | assumption | exact up2_same _ _ _ _)) | exact (Eq.trans (up2_ne _ _ (by omega)) (Eq.trans (up2_ne _ _ (by omega)) (by first | assumption | exact up2_same _ _ _ _))) | exact (Eq.trans (up2_ne _ _ (by omega)) (Eq.trans (up2_ne _ _ (by omega)) (Eq.trans (up2_ne _ _ (by omega)) (by first | assumption | exact up2_same _ _ _ _)))) | exact (Eq.trans (up2_ne _ _ (by omega)) (Eq.trans (up2_ne _ _ (by omega)) (Eq.trans (up2_ne _ _ (by omega)) (Eq.trans (up2_ne _ _ (by omega)) (by first | assumption | exact up2_same _ _ _ _))))) | rfl) ?_
                refine r_istore 5 (ls2 := [_, _, _, _, _, _]) dX9_forget_55 (by decide) (Nat.le_of_ble_eq_true rfl) rfl ?_
                refine r_aload 4 dX9_forget_57 rfl ?_
                refine r_callVw [] dX9_forget_59 ok_RX9_95 ivX2_clear (by assumption) ⟨_, _, rfl⟩ rfl rfl (Nat.le_of_ble_eq_true rfl) (by refine ⟨?_, ?_, ?_, ?_⟩ <;> exact Nat.le_of_ble_eq_true rfl) (c_nmClear t2) ?_
                intro m hm
                refine r_iload 5 dX9_forget_62 rfl ?_
                refine r_iret dX9_forget_64 rfl (Nat.le_of_ble_eq_true rfl) (Nat.le_of_ble_eq_true rfl) ?_
                subst hm
                refine ⟨rfl, rfl, rfl, hC.st hok hk (hSt.se hl ⟨?_, ⟨up2_same _ _ _ _, fun i y hy => by simp at hy⟩, e3.keep (up2_row _ _ (by omega)) (up2_row _ _ (by omega)), ?_, ?_, ?_⟩ ?_ (fun q hq => up2_row _ _ (by omega))) (fun q hq => up2_row _ _ (by omega)), fun q q1 q2 => ⟨up2_row _ _ (by omega), rfl⟩⟩ <;> (rw [up2_row _ _ (by omega)]; first | assumption | done)
            · omega
        · cases h4
      · have e : sp_forget σ (nI k) (nI 2) = (nI (stA σ k).1.2.2.1.length, upA σ k (((stA σ k).1.1, (stA σ k).1.2.1, [], (stA σ k).1.2.2.2), (stA σ k).2)) := by unfold sp_forget; rw [if_neg (by rw [hb]; decide), if_neg (by rw [hin]; decide), if_neg (by decide), hkk]
        rw [e]
        refine r_iload_n 1 dX9_forget_0 rfl rfl ?_
        refine r_callSp [_] dX9_forget_1 ok_RX9_63 isX9_isStation rfl rfl (Nat.le_of_ble_eq_true rfl) (by refine ⟨?_, ?_, ?_, ?_⟩ <;> exact Nat.le_of_ble_eq_true rfl) (c_isSt _) ?_
        rw [hb]
        refine r_ifB_ne 9 dX9_forget_4 (by decide) (fun h4 => ?_) (fun h4 => ?_)
        · refine r_iload_n 2 dX9_forget_9 rfl rfl ?_
          refine r_iconst (v := nI 1) dX9_forget_10 (by decide) ?_
          refine r_icmpN_lt 19 dX9_forget_11 (by decide) (by omega) (by omega) (fun h11 => ?_) (fun h11 => ?_)
          · omega
          · refine r_iload_n 2 dX9_forget_14 rfl rfl ?_
            refine r_iconst (v := nI 2) dX9_forget_15 (by decide) ?_
            refine r_icmpN_le 22 dX9_forget_16 (by decide) (by omega) (by omega) (fun h16 => ?_) (fun h16 => ?_)
            · refine r_aload_n 0 dX9_forget_22 rfl rfl ?_
              refine r_getR dX9_forget_23 fl_RX9_19 rfl (by assumption) (by assumption) ?_
              refine r_getR dX9_forget_26 fl_RX9_71 rfl (by assumption) (by assumption) ?_
              refine r_iload_n 1 dX9_forget_29 rfl rfl ?_
              refine r_aald dX9_forget_30 (by assumption) (by decide) (by intro _; rfl) (by omega) (by omega) (by assumption) ?_
              refine r_astore_n 3 (ls2 := [_, _, _, _]) dX9_forget_31 rfl (by decide) (Nat.le_of_ble_eq_true rfl) rfl ?_
              refine r_iload_n 2 dX9_forget_32 rfl rfl ?_
              refine r_iconst (v := nI 1) dX9_forget_33 (by decide) ?_
              refine r_icmpN_ne 44 dX9_forget_34 (by decide) (by omega) (by omega) (fun h34 => ?_) (fun h34 => ?_)
              · refine r_aload_n 3 dX9_forget_44 rfl rfl ?_
                refine r_getR dX9_forget_45 fl_RX9_88 rfl (by assumption) (by assumption) ?_
                refine r_astore 4 (ls2 := [_, _, _, _, _]) dX9_forget_48 (by decide) (Nat.le_of_ble_eq_true rfl) rfl ?_
                refine r_aload 4 dX9_forget_50 rfl ?_
                refine r_getV dX9_forget_52 fl_RX9_91 rfl (by assumption) (by first | assumption | exact up2_same _ _ _ _ | exact (Eq.trans (up2_ne _ _ (by omega)) (by first | assumption | exact up2_same _ _ _ _)) | exact (Eq.trans (up2_ne _ _ (by omega)) (Eq.trans (up2_ne _ _ (by omega)) (by first | assumption | exact up2_same _ _ _ _))) | exact (Eq.trans (up2_ne _ _ (by omega)) (Eq.trans (up2_ne _ _ (by omega)) (Eq.trans (up2_ne _ _ (by omega)) (by first | assumption | exact up2_same _ _ _ _)))) | exact (Eq.trans (up2_ne _ _ (by omega)) (Eq.trans (up2_ne _ _ (by omega)) (Eq.trans (up2_ne _ _ (by omega)) (Eq.trans (up2_ne _ _ (by omega)) (by first | assumption | exact up2_same _ _ _ _))))) | rfl) ?_
                refine r_istore 5 (ls2 := [_, _, _, _, _, _]) dX9_forget_55 (by decide) (Nat.le_of_ble_eq_true rfl) rfl ?_
                refine r_aload 4 dX9_forget_57 rfl ?_
                refine r_callVw [] dX9_forget_59 ok_RX9_95 ivX2_clear (by assumption) ⟨_, _, rfl⟩ rfl rfl (Nat.le_of_ble_eq_true rfl) (by refine ⟨?_, ?_, ?_, ?_⟩ <;> exact Nat.le_of_ble_eq_true rfl) (c_nmClear t4) ?_
                intro m hm
                refine r_iload 5 dX9_forget_62 rfl ?_
                refine r_iret dX9_forget_64 rfl (Nat.le_of_ble_eq_true rfl) (Nat.le_of_ble_eq_true rfl) ?_
                subst hm
                refine ⟨rfl, rfl, rfl, hC.st hok hk (hSt.se hl ⟨?_, e2.keep (up2_row _ _ (by omega)) (up2_row _ _ (by omega)), ⟨up2_same _ _ _ _, fun i y hy => by simp at hy⟩, ?_, ?_, ?_⟩ ?_ (fun q hq => up2_row _ _ (by omega))) (fun q hq => up2_row _ _ (by omega)), fun q q1 q2 => ⟨up2_row _ _ (by omega), rfl⟩⟩ <;> (rw [up2_row _ _ (by omega)]; first | assumption | done)
              · omega
            · omega
        · cases h4
    · have e : sp_forget σ (nI k) w = (-2, σ) := by unfold sp_forget; rw [if_neg (by rw [hb]; decide), if_pos (by simpa using hin)]
      rw [e]
      refine r_iload_n 1 dX9_forget_0 rfl rfl ?_
      refine r_callSp [_] dX9_forget_1 ok_RX9_63 isX9_isStation rfl rfl (Nat.le_of_ble_eq_true rfl) (by refine ⟨?_, ?_, ?_, ?_⟩ <;> exact Nat.le_of_ble_eq_true rfl) (c_isSt _) ?_
      rw [hb]
      refine r_ifB_ne 9 dX9_forget_4 (by decide) (fun h4 => ?_) (fun h4 => ?_)
      · refine r_iload_n 2 dX9_forget_9 rfl rfl ?_
        refine r_iconst (v := nI 1) dX9_forget_10 (by decide) ?_
        refine r_icmp_lt 19 dX9_forget_11 (by decide) (fun h11 => ?_) (fun h11 => ?_)
        · refine r_bipush (v := -2) dX9_forget_19 (by decide) ?_
          refine r_iret dX9_forget_21 rfl (Nat.le_of_ble_eq_true rfl) (Nat.le_of_ble_eq_true rfl) ?_
          exact ⟨rfl, rfl, PC.same hC⟩
        · refine r_iload_n 2 dX9_forget_14 rfl rfl ?_
          refine r_iconst (v := nI 2) dX9_forget_15 (by decide) ?_
          refine r_icmp_le 22 dX9_forget_16 (by decide) (fun h16 => ?_) (fun h16 => ?_)
          · exact absurd (inB_ok h11 h16) hin
          · refine r_bipush (v := -2) dX9_forget_19 (by decide) ?_
            refine r_iret dX9_forget_21 rfl (Nat.le_of_ble_eq_true rfl) (Nat.le_of_ble_eq_true rfl) ?_
            exact ⟨rfl, rfl, PC.same hC⟩
      · cases h4
theorem k_near {σ : Al} {N : Nat} (hC : CR z sh mi mr x σ) (hok : okA σ N) (a b v : Int32) : Mm mX9_near 2 [.ref x, .int a, .int b, .int v] z sh mi mr (PC z sh mi mr x (sp_near σ a b v)) := by
  obtain ⟨hLL, c2, c3, c4, c5, c6⟩ := id hC
  obtain ⟨l0, ⟨l1, l2⟩, ⟨l3, l4⟩, ⟨l5, l6⟩, ⟨l7, l8⟩, ⟨l9, l10⟩, ⟨l11, l12⟩⟩ := id hLL
  have pd0 := l2.1
  have pd1 := c2.1
  have h40 := hok.1.1
  have hnt := okNt_len hok.2.1.1
  obtain ⟨n0, n1, n2, n3, n4, n5⟩ := id l4
  have K14 : (stB a && stB b) = false → Wp yX9_near cX9_near 4 (some .int) (EM 2 z sh (PC z sh mi mr x (sp_near σ a b v))) 0 0 14 [.ref x, .int a, .int b, .int v] [] z sh mi mr := by
    intro h
    have e : sp_near σ a b v = (-1, σ) := by unfold sp_near; rw [if_pos h]
    rw [e]
    refine r_iconst (v := -1) dX9_near_14 (by decide) ?_
    refine r_iret dX9_near_15 rfl (Nat.le_of_ble_eq_true rfl) (Nat.le_of_ble_eq_true rfl) ?_
    exact ⟨rfl, rfl, PC.same hC⟩
  have K30 : ¬ (stB a && stB b) = false → (inB v (nI 0) (nI 1) = false ∨ a = b) → Wp yX9_near cX9_near 4 (some .int) (EM 2 z sh (PC z sh mi mr x (sp_near σ a b v))) 0 0 30 [.ref x, .int a, .int b, .int v] [] z sh mi mr := by
    intro h h2
    have e : sp_near σ a b v = (-2, σ) := by unfold sp_near; rw [if_neg h, if_pos h2]
    rw [e]
    refine r_bipush (v := -2) dX9_near_30 (by decide) ?_
    refine r_iret dX9_near_32 rfl (Nat.le_of_ble_eq_true rfl) (Nat.le_of_ble_eq_true rfl) ?_
    exact ⟨rfl, rfl, PC.same hC⟩
  have K33 : ¬ (stB a && stB b) = false → ¬ (inB v (nI 0) (nI 1) = false ∨ a = b) → Wp yX9_near cX9_near 4 (some .int) (EM 2 z sh (PC z sh mi mr x (sp_near σ a b v))) 0 0 33 [.ref x, .int a, .int b, .int v] [] z sh mi mr := by
    intro h h2
    have hab : stB a = true ∧ stB b = true := by cases h3 : stB a <;> cases h4 : stB b <;> simp [h3, h4] at h ⊢
    have hvi : inB v (nI 0) (nI 1) = true := by cases h3 : inB v (nI 0) (nI 1) <;> simp [h3] at h2 ⊢
    obtain ⟨i, hi, rfl⟩ := st_ex hab.1
    obtain ⟨j, hj, rfl⟩ := st_ex hab.2
    obtain ⟨u, u1, u2, rfl⟩ := inB_ex (by omega) hvi (by omega)
    have hij : i ≠ j := fun e => h2 (Or.inr (by rw [e]))
    have fin : ∀ v' : Bool, decide (nI u = nI 1) = v' → ∀ m, m = up2 (up2 mi (x + 3 + 2) i (nI (bs (upB (σ.2.1.2.1 i) j v')))) (x + 3 + 2) j (nI (bs (upB (σ.2.1.2.1 j) i v'))) → PC z sh mi mr x (sp_near σ (nI i) (nI j) (nI u)) (some (.int (nI (cn6 (upB (σ.2.1.2.1 i) j v'))))) m mr := by
      intro v' hv' m hm
      have e : sp_near σ (nI i) (nI j) (nI u) = (nI (cn6 (nrU σ.2.1.2.1 i j v' i)), (σ.1, (σ.2.1.1, nrU σ.2.1.2.1 i j v', σ.2.1.2.2), σ.2.2)) := by unfold sp_near; rw [if_neg h, if_neg h2, sk_nI (by omega), sk_nI (by omega), hv']
      rw [e]
      have hmx : ∀ q, q ≠ x + 3 + 2 → m q = mi q := fun q hq => by rw [hm, up2_row _ _ hq, up2_row _ _ hq]
      refine ⟨?_, hC.net hok MrOk.rf ⟨?_, fun s hs => ⟨?_, ?_⟩⟩ (fun q hq => ⟨hmx q (by omega), rfl⟩), fun q q1 q2 => ⟨hmx q (by omega), rfl⟩⟩
      · rw [cn6_eq (g := nrU σ.2.1.2.1 i j v' i) (fun q hq => ?_)]
        unfold upB nrU
        by_cases e' : q = j
        · rw [if_pos e', if_pos (by omega)]
        · rw [if_neg e', if_neg (by omega)]
      · rw [hmx _ (by omega)]; exact c3.1
      · show m (x + 3 + 2) s = nI (bs (nrU σ.2.1.2.1 i j v' s))
        rw [hm]
        by_cases ej : s = j
        · subst ej
          rw [up2_same]
          refine congrArg nI (bs_eq (fun q hq => ?_))
          unfold upB nrU
          by_cases e' : q = i
          · rw [if_pos e', if_pos (by omega)]
          · rw [if_neg e', if_neg (by omega)]
        · rw [up2_ne _ _ (Or.inr ej)]
          by_cases ei : s = i
          · subst ei
            rw [up2_same]
            refine congrArg nI (bs_eq (fun q hq => ?_))
            unfold upB nrU
            by_cases e' : q = j
            · rw [if_pos e', if_pos (by omega)]
            · rw [if_neg e', if_neg (by omega)]
          · rw [up2_ne _ _ (Or.inr ei), (c3.2 s hs).1]
            refine congrArg nI (bs_eq (fun q hq => ?_))
            unfold nrU
            rw [if_neg (by omega)]
      · exact (c3.2 s hs).2.keep (hnt s hs) (fun q q1 q2 => hmx q (by omega))
    refine r_aload_n 0 dX9_near_33 rfl rfl ?_
    refine r_getR dX9_near_34 fl_RX9_19 rfl (by assumption) (by assumption) ?_
    refine r_iload_n 1 dX9_near_37 rfl rfl ?_
    refine r_iload_n 2 dX9_near_38 rfl rfl ?_
    refine r_iload_n 3 dX9_near_39 rfl rfl ?_
    refine r_iconst (v := nI 1) dX9_near_40 (by decide) ?_
    refine r_icmpN_ne 48 dX9_near_41 (by decide) (by omega) (by omega) (fun h41 => ?_) (fun h41 => ?_)
    · refine r_iconst (v := nI 0) dX9_near_48 (by decide) ?_
      first | refine r_top (show nI 1 = b2 true from rfl) ?_ | refine r_top (show nI 0 = b2 false from rfl) ?_
      refine r_callVw [_, _, _] dX9_near_49 ok_RX9_109 ivX3_join (by assumption) ⟨_, _, rfl⟩ rfl rfl (Nat.le_of_ble_eq_true rfl) (by refine ⟨?_, ?_, ?_, ?_⟩ <;> exact Nat.le_of_ble_eq_true rfl) (c_join l4 c3 hi hj hij _) ?_
      intro m hm
      have hmi := congrFun (congrFun hm (x + 3 + 2)) i
      rw [up2_ne _ _ (Or.inr hij), up2_same] at hmi
      refine r_aload_n 0 dX9_near_52 rfl rfl ?_
      refine r_getR dX9_near_53 fl_RX9_19 rfl (by assumption) (by assumption) ?_
      refine r_getR dX9_near_56 fl_RX9_113 rfl (by assumption) (by assumption) ?_
      refine r_iload_n 1 dX9_near_59 rfl rfl ?_
      refine r_ialdV dX9_near_60 (by assumption) (by omega) (by omega) (by first | assumption | exact up2_same _ _ _ _ | exact (Eq.trans (up2_ne _ _ (by omega)) (by first | assumption | exact up2_same _ _ _ _)) | exact (Eq.trans (up2_ne _ _ (by omega)) (Eq.trans (up2_ne _ _ (by omega)) (by first | assumption | exact up2_same _ _ _ _))) | exact (Eq.trans (up2_ne _ _ (by omega)) (Eq.trans (up2_ne _ _ (by omega)) (Eq.trans (up2_ne _ _ (by omega)) (by first | assumption | exact up2_same _ _ _ _)))) | exact (Eq.trans (up2_ne _ _ (by omega)) (Eq.trans (up2_ne _ _ (by omega)) (Eq.trans (up2_ne _ _ (by omega)) (Eq.trans (up2_ne _ _ (by omega)) (by first | assumption | exact up2_same _ _ _ _))))) | rfl) ?_
      refine r_callSp [_] dX9_near_61 ok_RX9_117 isJ6_bitCount_0f7a4 rfl rfl (Nat.le_of_ble_eq_true rfl) (by refine ⟨?_, ?_, ?_, ?_⟩ <;> exact Nat.le_of_ble_eq_true rfl) (c_bitCount _) ?_
      refine r_iret dX9_near_64 rfl (Nat.le_of_ble_eq_true rfl) (Nat.le_of_ble_eq_true rfl) ?_
      refine ⟨rfl, rfl, fin _ ?_ m hm⟩
      first | (rw [decide_eq_true_iff]; rw [h41]) | (rw [decide_eq_false_iff_not, nI_eq (by omega) (by omega)]; exact h41)
    · refine r_iconst (v := nI 1) dX9_near_44 (by decide) ?_
      refine r_goto 49 dX9_near_45 (by decide) ?_
      first | refine r_top (show nI 1 = b2 true from rfl) ?_ | refine r_top (show nI 0 = b2 false from rfl) ?_
      refine r_callVw [_, _, _] dX9_near_49 ok_RX9_109 ivX3_join (by assumption) ⟨_, _, rfl⟩ rfl rfl (Nat.le_of_ble_eq_true rfl) (by refine ⟨?_, ?_, ?_, ?_⟩ <;> exact Nat.le_of_ble_eq_true rfl) (c_join l4 c3 hi hj hij _) ?_
      intro m hm
      have hmi := congrFun (congrFun hm (x + 3 + 2)) i
      rw [up2_ne _ _ (Or.inr hij), up2_same] at hmi
      refine r_aload_n 0 dX9_near_52 rfl rfl ?_
      refine r_getR dX9_near_53 fl_RX9_19 rfl (by assumption) (by assumption) ?_
      refine r_getR dX9_near_56 fl_RX9_113 rfl (by assumption) (by assumption) ?_
      refine r_iload_n 1 dX9_near_59 rfl rfl ?_
      refine r_ialdV dX9_near_60 (by assumption) (by omega) (by omega) (by first | assumption | exact up2_same _ _ _ _ | exact (Eq.trans (up2_ne _ _ (by omega)) (by first | assumption | exact up2_same _ _ _ _)) | exact (Eq.trans (up2_ne _ _ (by omega)) (Eq.trans (up2_ne _ _ (by omega)) (by first | assumption | exact up2_same _ _ _ _))) | exact (Eq.trans (up2_ne _ _ (by omega)) (Eq.trans (up2_ne _ _ (by omega)) (Eq.trans (up2_ne _ _ (by omega)) (by first | assumption | exact up2_same _ _ _ _)))) | exact (Eq.trans (up2_ne _ _ (by omega)) (Eq.trans (up2_ne _ _ (by omega)) (Eq.trans (up2_ne _ _ (by omega)) (Eq.trans (up2_ne _ _ (by omega)) (by first | assumption | exact up2_same _ _ _ _))))) | rfl) ?_
      refine r_callSp [_] dX9_near_61 ok_RX9_117 isJ6_bitCount_0f7a4 rfl rfl (Nat.le_of_ble_eq_true rfl) (by refine ⟨?_, ?_, ?_, ?_⟩ <;> exact Nat.le_of_ble_eq_true rfl) (c_bitCount _) ?_
      refine r_iret dX9_near_64 rfl (Nat.le_of_ble_eq_true rfl) (Nat.le_of_ble_eq_true rfl) ?_
      refine ⟨rfl, rfl, fin _ ?_ m hm⟩
      first | (rw [decide_eq_true_iff]; rw [h41]) | (rw [decide_eq_false_iff_not, nI_eq (by omega) (by omega)]; exact h41)
  refine Mv.of pnX9_near (Nat.le_of_ble_eq_true rfl) rfl ?_
  refine r_iload_n 1 dX9_near_0 rfl rfl ?_
  refine r_callSp [_] dX9_near_1 ok_RX9_63 isX9_isStation rfl rfl (Nat.le_of_ble_eq_true rfl) (by refine ⟨?_, ?_, ?_, ?_⟩ <;> exact Nat.le_of_ble_eq_true rfl) (c_isSt _) ?_
  refine r_ifB_eq 14 dX9_near_4 (by decide) (fun h4 => ?_) (fun h4 => ?_)
  · first | exact K14 (by rw [h4]; rfl) | exact K14 (by rw [h11, Bool.and_false])
  · refine r_iload_n 2 dX9_near_7 rfl rfl ?_
    refine r_callSp [_] dX9_near_8 ok_RX9_63 isX9_isStation rfl rfl (Nat.le_of_ble_eq_true rfl) (by refine ⟨?_, ?_, ?_, ?_⟩ <;> exact Nat.le_of_ble_eq_true rfl) (c_isSt _) ?_
    refine r_ifB_ne 16 dX9_near_11 (by decide) (fun h11 => ?_) (fun h11 => ?_)
    · refine r_iload_n 3 dX9_near_16 rfl rfl ?_
      refine r_if_lt 30 dX9_near_17 (by decide) (fun h17 => ?_) (fun h17 => ?_)
      · have hs : ¬ (stB a && stB b) = false := by rw [h4, h11]; decide
        rw [nI_zero] at h17
        first | exact K30 hs (Or.inl (inB_lo h17)) | exact K30 hs (Or.inl (inB_hi' h22)) | exact K30 hs (Or.inr h27)
      · refine r_iload_n 3 dX9_near_20 rfl rfl ?_
        refine r_iconst (v := nI 1) dX9_near_21 (by decide) ?_
        refine r_icmp_gt 30 dX9_near_22 (by decide) (fun h22 => ?_) (fun h22 => ?_)
        · have hs : ¬ (stB a && stB b) = false := by rw [h4, h11]; decide
          rw [nI_zero] at h17
          first | exact K30 hs (Or.inl (inB_lo h17)) | exact K30 hs (Or.inl (inB_hi' h22)) | exact K30 hs (Or.inr h27)
        · refine r_iload_n 1 dX9_near_25 rfl rfl ?_
          refine r_iload_n 2 dX9_near_26 rfl rfl ?_
          refine r_icmp_ne 33 dX9_near_27 (by decide) (fun h27 => ?_) (fun h27 => ?_)
          · have hs : ¬ (stB a && stB b) = false := by rw [h4, h11]; decide
            rw [nI_zero] at h17
            exact K33 hs (by rintro (e | e); (rw [inB_ok' h17 h22] at e; cases e); exact h27 e)
          · have hs : ¬ (stB a && stB b) = false := by rw [h4, h11]; decide
            rw [nI_zero] at h17
            first | exact K30 hs (Or.inl (inB_lo h17)) | exact K30 hs (Or.inl (inB_hi' h22)) | exact K30 hs (Or.inr h27)
    · first | exact K14 (by rw [h4]; rfl) | exact K14 (by rw [h11, Bool.and_false])
end CLS2
