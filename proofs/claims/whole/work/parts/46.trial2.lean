theorem latA_6 (f : Nat → Option Nat) : latA f = (List.foldl (fun m s => match f s with
  | some t => if m < nI t then nI t else m
  | none => m) (-6) [0, 1, 2, 3, 4, 5]) := rfl
theorem latA_eq {f g : Nat → Option Nat} (h : ∀ s, s < 6 → f s = g s) : latA f = latA g := by
  rw [latA_6, latA_6]
  simp only [List.foldl, h 0 (by omega), h 1 (by omega), h 2 (by omega), h 3 (by omega), h 4 (by omega), h 5 (by omega)]
theorem lat_step {P : Int32 → Prop} {f : Nat → Option Nat} : ∀ (l : List Nat) (m : Int32), P m → (∀ s ∈ l, ∀ t, f s = some t → P (nI t)) → P (l.foldl (fun m s => match f s with
  | some t => if m < nI t then nI t else m
  | none => m) m)
  | [], m, hm, _ => hm
  | s :: l, m, hm, h => by
    rw [List.foldl_cons]
    refine lat_step l _ ?_ (fun s' hs' => h s' (List.mem_cons_of_mem _ hs'))
    cases hf : f s with
    | none => exact hm
    | some t =>
      simp only
      split
      · exact h s List.mem_cons_self t hf
      · exact hm
theorem lat_ge {f : Nat → Option Nat} : ∀ (l : List Nat) (m : Int32), m ≤ l.foldl (fun m s => match f s with
  | some t => if m < nI t then nI t else m
  | none => m) m ∧ ∀ s ∈ l, ∀ t, f s = some t → nI t ≤ l.foldl (fun m s => match f s with
  | some t => if m < nI t then nI t else m
  | none => m) m
  | [], m => ⟨Int32.le_refl m, fun s hs => by cases hs⟩
  | s :: l, m => by
    rw [List.foldl_cons]
    obtain ⟨h1, h2⟩ := lat_ge (f := f) l (match f s with
      | some t => if m < nI t then nI t else m
      | none => m)
    have h3 : m ≤ (match f s with
      | some t => if m < nI t then nI t else m
      | none => m) ∧ ∀ t, f s = some t → nI t ≤ (match f s with
      | some t => if m < nI t then nI t else m
      | none => m) := by
      cases hf : f s with
      | none => exact ⟨Int32.le_refl m, fun t e => by cases e⟩
      | some t =>
        simp only
        split
        · rename_i hlt
          exact ⟨Int32.le_of_lt hlt, fun t' e => by cases e; exact Int32.le_refl _⟩
        · rename_i hlt
          exact ⟨Int32.le_refl m, fun t' e => by cases e; exact Int32.not_lt.mp hlt⟩
    refine ⟨Int32.le_trans h3.1 h1, fun s' hs' t e => ?_⟩
    rcases List.mem_cons.mp hs' with q | q
    · subst q; exact Int32.le_trans (h3.2 t e) h1
    · exact h2 s' q t e
theorem latA_new {f : Nat → Option Nat} {now : Nat} (hn : now < 2 ^ 30) (h : ∃ j, j < 6 ∧ f j = some now) (hall : ∀ j, j < 6 → ∀ t, f j = some t → t ≤ now) : latA f = nI now := by
  obtain ⟨j, hj, e⟩ := h
  have h1 : nI now ≤ latA f := (lat_ge (f := f) (List.range 6) (-6)).2 j (List.mem_range.mpr hj) now e
  have h2 : latA f ≤ nI now := by
    unfold latA
    refine lat_step (P := fun x => x ≤ nI now) (List.range 6) (-6) ?_ (fun s hs t et => ?_)
    · rw [Int32.le_iff_toInt_le, nI_toInt (by omega)]
      have : (-6 : Int32).toInt = -6 := by decide
      omega
    · exact (nI_leI (by have := hall s (List.mem_range.mp hs) t et; omega) (by omega)).mpr (hall s (List.mem_range.mp hs) t et)
  exact Int32.le_antisymm h2 h1
theorem bs_inj {f g : Nat → Bool} (h : bs f = bs g) {s : Nat} (hs : s < 6) : f s = g s := by
  have h1 := bs_bit f hs
  have h2 := bs_bit g hs
  rw [h] at h1
  have : bn (f s) = bn (g s) := h1.symm.trans h2
  revert this
  cases f s <;> cases g s <;> simp [bn]
section TRIAL
variable {z : Nat} {sh : SH} {mi : MI} {mr : MR} {a : Nat}
def LTr (sh : SH) (mr : MR) (a : Nat) : Prop := sh a = (7, 0) ∧ (mr a 0 = some (a + 1) ∧ LNt sh mr (a + 1)) ∧ (mr a 1 = some (a + 262) ∧ LPk sh mr (a + 262))
theorem LTr.mv {r : MR} (h : MrOk sh mr r) (hL : LTr sh mr a) : LTr sh r a := by
  obtain ⟨l0, ⟨l1, l2⟩, ⟨l3, l4⟩⟩ := hL
  have e := h a (by rw [l0]; decide)
  exact ⟨l0, ⟨by rw [e]; exact l1, l2.mv h⟩, ⟨by rw [e]; exact l3, l4.mv h⟩⟩
theorem c_prepare {b : Nat} (hL : LTr sh mr a) (hB : LNt sh mr b) (hab : b + 261 ≤ a + 1 ∨ a + 262 ≤ b) {n : Nt} (hN : NtC mi mr b n) (hok : ∀ s, s < 6 → okSt (n.1 s) n.2.2) (hR : ∀ s, s < 6 → KpR mr (a + 1 + 3 + 43 * s + 6)) : Mi mX7_prepare 5 [.ref a, .ref b] z sh mi mr (fun v m => v = none ∧ NtC m mr (a + 1) (triN n none) ∧ Oth mi m (a + 1) (a + 262)) := by
  obtain ⟨l0, ⟨l1, l2⟩, ⟨l3, l4⟩⟩ := id hL
  have n0 := l2.1
  refine Mv.of pnX7_prepare (Nat.le_of_ble_eq_true rfl) rfl ?_
  refine r_aload_n 0 dX7_prepare_0 rfl rfl ?_
  refine r_getR dX7_prepare_1 fl_RX7_12 rfl (by assumption) (by assumption) ?_
  refine r_aload_n 1 dX7_prepare_4 rfl rfl ?_
  refine r_callVw [_] dX7_prepare_5 ok_RX7_25 ivX3_beginLike (by assumption) ⟨_, _, rfl⟩ rfl rfl (Nat.le_of_ble_eq_true rfl) (by refine ⟨?_, ?_, ?_, ?_⟩ <;> exact Nat.le_of_ble_eq_true rfl) (c_ntBegin l2 hB (by omega) hN hok hR) ?_
  intro m ⟨g1, g2⟩
  refine r_vret dX7_prepare_8 rfl (Nat.le_of_ble_eq_true rfl) (Nat.le_of_ble_eq_true rfl) ?_
  exact ⟨rfl, rfl, rfl, rfl, g1, g2⟩
theorem NtC.keep {m m' : MI} {r : MR} {x : Nat} {n : Nt} (h : NtC m r x n) (hl : ∀ s, s < 6 → (n.1 s).2.2.1.length ≤ 12) (hx : ∀ y, x ≤ y → y < x + 261 → m' y = m y) : NtC m' r x n := ⟨by rw [hx x (by omega) (by omega)]; exact h.1, fun s hs => ⟨by rw [hx (x + 2) (by omega) (by omega)]; exact (h.2 s hs).1, (h.2 s hs).2.keep (hl s hs) (fun y y1 y2 => hx y (by omega) (by omega))⟩⟩
theorem c_spread (hL : LTr sh mr a) {n : Nt} {w : Option Nat} (hok : okNt n) (hN : NtC mi mr (a + 1) (triN n w)) {s h : Nat} {f : Nm} (hs : s < 6) (hf : okL 3 f) (h1 : 1 ≤ h) (h7 : h ≤ 7) : Mm mX7_spread 5 [.ref a, .int (nI s), .int (nI (en 32 f)), .int (nI h)] z sh mi mr (fun v m r => v = none ∧ m a 2 = nI (bs (fun j => ((tri n w s f h).2 j).isSome)) ∧ m a 3 = latA (tri n w s f h).2 ∧ NtC m r (a + 1) (tri n w s f h).1 ∧ MrOk sh mr r ∧ ∀ x, (x < a ∨ a + 264 ≤ x) → m x = mi x ∧ r x = mr x) := by
  obtain ⟨l0, ⟨l1, l2⟩, ⟨l3, l4⟩⟩ := id hL
  obtain ⟨c0, c1, c2, c3, c4, c5⟩ := id l2
  obtain ⟨d0, d1⟩ := c5 s hs
  have d2 := d1.1
  obtain ⟨p0, p1, p2⟩ := id l4
  obtain ⟨ok0, ts0, hl0, hpk⟩ := tri0_ok (w := w) hok hs hf h1 h7
  have hend := tri_end (w := w) hok hs hf h1 h7
  have hfl := okL_32 hf
  have H : ∀ (k i : Nat) (q : Nt × (Nat → Option Nat)) (m : MI) (r : MR) (ls : List Value), i + k ≤ 40 → keptA (triR k q).1 = 0 → triR k q = tri n w s f h → (∀ j, j < 6 → okSt (q.1.1 j) q.1.2.2) → (∀ j, j < 6 → HL (q.1.1 j)) → (∀ j, j < 6 → ((q.2 j).isSome = true ↔ (q.1.1 j).2.2.2.2.isSome = true)) → (∀ j, j < 6 → ∀ t, q.2 j = some t → t < q.1.2.2) → q.1.2.2 + k < 100 → NtC m r (a + 1) q.1 → m a 2 = nI (bs (fun j => (q.2 j).isSome)) → m a 3 = latA q.2 → MrOk sh mr r → (∀ x, (x < a ∨ a + 264 ≤ x) → m x = mi x ∧ r x = mr x) → Wp yX7_spread cX7_spread 7 none (EM 5 z sh (fun v m r => v = none ∧ m a 2 = nI (bs (fun j => ((tri n w s f h).2 j).isSome)) ∧ m a 3 = latA (tri n w s f h).2 ∧ NtC m r (a + 1) (tri n w s f h).1 ∧ MrOk sh mr r ∧ ∀ x, (x < a ∨ a + 264 ≤ x) → m x = mi x ∧ r x = mr x)) 0 0 83 ([.ref a, .int (nI s), .int (nI (en 32 f)), .int (nI h), .int (nI i)] ++ ls) [] z sh m r := by
    intro k
    induction k with
    | zero =>
      intro i q m r ls hi he hq ok hl hfa hft hnw hNt m2 m3 hr hO
      refine r_drop ?_
      have he : keptA q.1 = 0 := he
      have hq : q = tri n w s f h := hq
      obtain ⟨r0, ⟨r1, r2⟩, r3⟩ := hL.mv hr
      have r20 := r2.1
      have hkb := c_keptByAll (z := z) r2 hNt (fun s hs => (ok s hs).2.2.1.1)
      rw [he] at hkb
      refine r_iload 4 dX7_spread_83 rfl ?_
      refine r_ldc dX7_spread_85 ct_RX7_66 ?_
      refine r_top (show (100000 : Int32) = nI 100000 from rfl) ?_
      refine r_icmpN_ge 152 dX7_spread_87 (by decide) (by omega) (by omega) (fun h87 => ?_) (fun h87 => ?_)
      · first | omega | (refine r_vret dX7_spread_152 rfl (Nat.le_refl _) (Nat.le_refl _) ?_; rw [← hq]; exact ⟨rfl, rfl, rfl, m2, m3, hNt, hr, hO⟩)
      · refine r_aload_n 0 dX7_spread_90 rfl rfl ?_
        refine r_getR dX7_spread_91 fl_RX7_12 rfl (by assumption) (by assumption) ?_
        refine r_callVp [] dX7_spread_94 ok_RX7_67 ivX3_keptByAll (by assumption) ⟨_, _, rfl⟩ rfl rfl (Nat.le_of_ble_eq_true rfl) (by refine ⟨?_, ?_, ?_, ?_⟩ <;> exact Nat.le_of_ble_eq_true rfl) (hkb) ?_
        refine r_ifN_le 152 dX7_spread_97 (by decide) (by omega) (fun h97 => ?_) (fun h97 => ?_)
        · first | omega | (refine r_vret dX7_spread_152 rfl (Nat.le_refl _) (Nat.le_refl _) ?_; rw [← hq]; exact ⟨rfl, rfl, rfl, m2, m3, hNt, hr, hO⟩)
        · omega
    | succ k ih =>
      intro i q m r ls hi he hq ok hl hfa hft hnw hNt m2 m3 hr hO
      refine r_drop ?_
      obtain ⟨r0, ⟨r1, r2⟩, r3⟩ := hL.mv hr
      have r20 := r2.1
      have hkb := c_keptByAll (z := z) r2 hNt (fun s hs => (ok s hs).2.2.1.1)
      by_cases hk : keptA q.1 = 0
      · have hq2 : q = tri n w s f h := by rw [← hq]; unfold triR; rw [if_pos hk]
        rw [hk] at hkb
        refine r_iload 4 dX7_spread_83 rfl ?_
        refine r_ldc dX7_spread_85 ct_RX7_66 ?_
        refine r_top (show (100000 : Int32) = nI 100000 from rfl) ?_
        refine r_icmpN_ge 152 dX7_spread_87 (by decide) (by omega) (by omega) (fun h87 => ?_) (fun h87 => ?_)
        · first | omega | (refine r_vret dX7_spread_152 rfl (Nat.le_refl _) (Nat.le_refl _) ?_; rw [← hq2]; exact ⟨rfl, rfl, rfl, m2, m3, hNt, hr, hO⟩)
        · refine r_aload_n 0 dX7_spread_90 rfl rfl ?_
          refine r_getR dX7_spread_91 fl_RX7_12 rfl (by assumption) (by assumption) ?_
          refine r_callVp [] dX7_spread_94 ok_RX7_67 ivX3_keptByAll (by assumption) ⟨_, _, rfl⟩ rfl rfl (Nat.le_of_ble_eq_true rfl) (by refine ⟨?_, ?_, ?_, ?_⟩ <;> exact Nat.le_of_ble_eq_true rfl) (hkb) ?_
          refine r_ifN_le 152 dX7_spread_97 (by decide) (by omega) (fun h97 => ?_) (fun h97 => ?_)
          · first | omega | (refine r_vret dX7_spread_152 rfl (Nat.le_refl _) (Nat.le_refl _) ?_; rw [← hq2]; exact ⟨rfl, rfl, rfl, m2, m3, hNt, hr, hO⟩)
          · omega
      · have hkl : keptA q.1 ≤ 72 := by
          unfold keptA sum6
          have := (ok 0 (by omega)).2.2.1.1; have := (ok 1 (by omega)).2.2.1.1; have := (ok 2 (by omega)).2.2.1.1; have := (ok 3 (by omega)).2.2.1.1; have := (ok 4 (by omega)).2.2.1.1; have := (ok 5 (by omega)).2.2.1.1
          dsimp only; omega
        obtain ⟨fa, hfa'⟩ : ∃ fa : Nat → Option Nat, fa = fun s => match q.2 s with
          | some t => some t
          | none => if ((tck q.1).1 s).2.2.2.2.isSome = true then some q.1.2.2 else none := ⟨_, rfl⟩
        have htr : triR (k + 1) q = triR k (tck q.1, fa) := by
          rw [hfa']
          conv => lhs; unfold triR; rw [if_neg hk]
          rfl
        rw [htr] at he hq
        have hlast : ∀ j, j < 6 → (q.1.1 j).2.2.2.2.isSome = true → ((tck q.1).1 j).2.2.2.2.isSome = true := fun j hj e => by
          have h1 := (hl j hj).mpr e
          refine (HL_tckS (n := q.1) (s := j) (hl j hj)).mp ?_
          show 0 < (tckS q.1 j).2.1 1
          have key : ∀ st' : St, st'.2.1 1 = (q.1.1 j).2.1 1 ∨ 0 < st'.2.1 1 → 0 < st'.2.1 1 := fun st' e' => by rcases e' with e' | e' <;> omega
          refine key _ ?_
          unfold tckS
          split
          · left; unfold aftS; split
            · show bump _ 0 1 = _; exact bump_ne (show (1 : Nat) ≠ 0 by omega)
            · rfl
          · split
            · left; rfl
            · split
              · right; exact (HL_hears _ _ _).mpr (by unfold hears look; simp only; repeat (first | rfl | split))
              · left; rfl
            · left; show bump _ 7 1 = _; exact bump_ne (show (1 : Nat) ≠ 7 by omega)
        have hfaS : ∀ j, j < 6 → ((fa j).isSome = true ↔ ((tck q.1).1 j).2.2.2.2.isSome = true) := fun j hj => by
          rw [hfa']; simp only
          cases hqj : q.2 j with
          | some t =>
            have h1 : ((tck q.1).1 j).2.2.2.2.isSome = true := hlast j hj ((hfa j hj).mp (by rw [hqj]; rfl))
            simp [h1]
          | none => simp only; split <;> simp_all
        have hbs : bs (fun j => decide (0 < ((tck q.1).1 j).2.1 1)) = bs (fun j => (fa j).isSome) := bs_eq (fun j hj => by
          have h1 := HL_tckS (n := q.1) (s := j) (hl j hj)
          have h2 := hfaS j hj
          have h3 : (0 < ((tck q.1).1 j).2.1 1) ↔ (fa j).isSome = true := h1.trans h2.symm
          cases hb : (fa j).isSome with
          | true => rw [hb] at h3; simpa using h3
          | false => rw [hb] at h3; simpa using h3)
        have hfat : ∀ j, j < 6 → ∀ t, fa j = some t → t ≤ q.1.2.2 ∧ (q.2 j = none → t = q.1.2.2) := fun j hj t e => by
          rw [hfa'] at e; simp only at e
          cases hqj : q.2 j with
          | some t' => rw [hqj] at e; cases e; exact ⟨Nat.le_of_lt (hft j hj t hqj), fun e => by cases e⟩
          | none => rw [hqj] at e; simp only at e; split at e; (cases e; exact ⟨Nat.le_refl _, fun _ => rfl⟩); (cases e)
        have hfak : ∀ j t, q.2 j = some t → fa j = some t := fun j t e => by rw [hfa']; simp only; rw [e]
        have okt : ∀ j, j < 6 → okSt (tckS q.1 j) (q.1.2.2 + 1) := fun j hj => okSt_tckS ok hj
        have hnw2 := hNt.1
        have stepW : ∀ (m' : MI) (r' : MR) (ls' : List Value), NtC m' r' (a + 1) (tck q.1) → m' a 2 = nI (bs (fun j => (fa j).isSome)) → m' a 3 = latA fa → MrOk sh mr r' → (∀ x, (x < a ∨ a + 264 ≤ x) → m' x = mi x ∧ r' x = mr x) → Wp yX7_spread cX7_spread 7 none (EM 5 z sh (fun v m r => v = none ∧ m a 2 = nI (bs (fun j => ((tri n w s f h).2 j).isSome)) ∧ m a 3 = latA (tri n w s f h).2 ∧ NtC m r (a + 1) (tri n w s f h).1 ∧ MrOk sh mr r ∧ ∀ x, (x < a ∨ a + 264 ≤ x) → m x = mi x ∧ r x = mr x)) 0 0 83 ([.ref a, .int (nI s), .int (nI (en 32 f)), .int (nI h), .int (nI (i + 1))] ++ ls') [] z sh m' r' := by
          intro m' r' ls' g1 g2 g3 g4 g5
          exact ih (i + 1) (tck q.1, fa) m' r' ls' (by omega) he hq (fun j hj => okt j hj) (fun j hj => HL_tckS (hl j hj)) hfaS (fun j hj t e => by have := (hfat j hj t e).1; show t < q.1.2.2 + 1; omega) (by show q.1.2.2 + 1 + k < 100; omega) g1 g2 g3 g4 g5
        have hbl := bs_lt (fun j => (fa j).isSome)
        have hbl2 := bs_lt (fun j => (q.2 j).isSome)
        have K146 : ∀ (m4 : MI) (r4 : MR), NtC m4 r4 (a + 1) (tck q.1) → m4 a 2 = nI (bs (fun j => (q.2 j).isSome)) → m4 a 3 = latA q.2 → MrOk sh mr r4 → (∀ x, (x < a ∨ a + 264 ≤ x) → m4 x = mi x ∧ r4 x = mr x) → bs (fun j => (fa j).isSome) = bs (fun j => (q.2 j).isSome) → ∀ ls' : List Value, Wp yX7_spread cX7_spread 7 none (EM 5 z sh (fun v m r => v = none ∧ m a 2 = nI (bs (fun j => ((tri n w s f h).2 j).isSome)) ∧ m a 3 = latA (tri n w s f h).2 ∧ NtC m r (a + 1) (tri n w s f h).1 ∧ MrOk sh mr r ∧ ∀ x, (x < a ∨ a + 264 ≤ x) → m x = mi x ∧ r x = mr x)) 0 0 83 ([.ref a, .int (nI s), .int (nI (en 32 f)), .int (nI h), .int (nI (i + 1))] ++ ls') [] z sh m4 r4 := by
          intro m4 r4 g1 m42 m43 hr4 hO4 hb ls'
          refine stepW m4 r4 ls' g1 (by rw [m42, hb]) ?_ hr4 hO4
          rw [m43]
          refine latA_eq (fun j hj => ?_)
          have hbj := bs_inj hb hj
          cases hqj : q.2 j with
          | some t => rw [hfak j t hqj]
          | none =>
            rw [hqj] at hbj
            cases hfj : fa j with
            | none => rfl
            | some t => rw [hfj] at hbj; cases hbj
        have K134 : ∀ (m4 : MI) (r4 : MR), NtC m4 r4 (a + 1) (tck q.1) → MrOk sh mr r4 → (∀ x, (x < a ∨ a + 264 ≤ x) → m4 x = mi x ∧ r4 x = mr x) → bs (fun j => (fa j).isSome) ≠ bs (fun j => (q.2 j).isSome) → ∀ ls' : List Value, Wp yX7_spread cX7_spread 7 none (EM 5 z sh (fun v m r => v = none ∧ m a 2 = nI (bs (fun j => ((tri n w s f h).2 j).isSome)) ∧ m a 3 = latA (tri n w s f h).2 ∧ NtC m r (a + 1) (tri n w s f h).1 ∧ MrOk sh mr r ∧ ∀ x, (x < a ∨ a + 264 ≤ x) → m x = mi x ∧ r x = mr x)) 0 0 83 ([.ref a, .int (nI s), .int (nI (en 32 f)), .int (nI h), .int (nI (i + 1))] ++ ls') [] z sh (up2 (up2 m4 a 2 (nI (bs (fun j => (fa j).isSome)))) a 3 (nI q.1.2.2)) r4 := by
          intro m4 r4 g1 hr4 hO4 hb ls'
          have hex : ∃ j, j < 6 ∧ fa j = some q.1.2.2 := by
            refine Classical.byContradiction (fun hno => hb (bs_eq (fun j hj => ?_)))
            cases hqj : q.2 j with
            | some t => rw [hfak j t hqj]
            | none =>
              cases hfj : fa j with
              | none => rfl
              | some t => exact absurd ⟨j, hj, by rw [hfj, (hfat j hj t hfj).2 hqj]⟩ hno
          refine stepW _ r4 ls' (g1.keep (fun j hj => (okt j hj).2.2.1.1) (fun y y1 y2 => by rw [up2_row _ _ (by omega), up2_row _ _ (by omega)])) (by rw [up2_ne _ _ (Or.inr (by omega)), up2_same]) (by rw [up2_same]; exact (latA_new (by omega) hex (fun j hj t e => (hfat j hj t e).1)).symm) hr4 (fun x hx => ⟨by rw [up2_row _ _ (by omega), up2_row _ _ (by omega)]; exact (hO4 x hx).1, (hO4 x hx).2⟩)
        refine r_iload 4 dX7_spread_83 rfl ?_
        refine r_ldc dX7_spread_85 ct_RX7_66 ?_
        refine r_top (show (100000 : Int32) = nI 100000 from rfl) ?_
        refine r_icmpN_ge 152 dX7_spread_87 (by decide) (by omega) (by omega) (fun h87 => ?_) (fun h87 => ?_)
        · omega
        · refine r_aload_n 0 dX7_spread_90 rfl rfl ?_
          refine r_getR dX7_spread_91 fl_RX7_12 rfl (by assumption) (by assumption) ?_
          refine r_callVp [] dX7_spread_94 ok_RX7_67 ivX3_keptByAll (by assumption) ⟨_, _, rfl⟩ rfl rfl (Nat.le_of_ble_eq_true rfl) (by refine ⟨?_, ?_, ?_, ?_⟩ <;> exact Nat.le_of_ble_eq_true rfl) (hkb) ?_
          refine r_ifN_le 152 dX7_spread_97 (by decide) (by omega) (fun h97 => ?_) (fun h97 => ?_)
          · omega
          · refine r_aload_n 0 dX7_spread_100 rfl rfl ?_
            refine r_getR dX7_spread_101 fl_RX7_12 rfl (by assumption) (by assumption) ?_
            refine r_getV dX7_spread_104 fl_RX7_71 rfl (by assumption) (by first | assumption | exact up2_same _ _ _ _ | exact (Eq.trans (up2_ne _ _ (by omega)) (by first | assumption | exact up2_same _ _ _ _)) | exact (Eq.trans (up2_ne _ _ (by omega)) (Eq.trans (up2_ne _ _ (by omega)) (by first | assumption | exact up2_same _ _ _ _))) | exact (Eq.trans (up2_ne _ _ (by omega)) (Eq.trans (up2_ne _ _ (by omega)) (Eq.trans (up2_ne _ _ (by omega)) (by first | assumption | exact up2_same _ _ _ _)))) | exact (Eq.trans (up2_ne _ _ (by omega)) (Eq.trans (up2_ne _ _ (by omega)) (Eq.trans (up2_ne _ _ (by omega)) (Eq.trans (up2_ne _ _ (by omega)) (by first | assumption | exact up2_same _ _ _ _))))) | rfl) ?_
            refine r_istore 5 (ls2 := [_, _, _, _, _, _]) dX7_spread_107 (by decide) (Nat.le_of_ble_eq_true rfl) rfl ?_
            refine r_aload_n 0 dX7_spread_109 rfl rfl ?_
            refine r_getR dX7_spread_110 fl_RX7_12 rfl (by assumption) (by assumption) ?_
            refine r_callVmw [] dX7_spread_113 ok_RX7_74 ivX3_passTick (by assumption) ⟨_, _, rfl⟩ rfl rfl (Nat.le_of_ble_eq_true rfl) (by refine ⟨?_, ?_, ?_, ?_⟩ <;> exact Nat.le_of_ble_eq_true rfl) (c_passTick r2 hNt ok (fun j hj => (okt j hj).2.2.1.1) (by omega)) ?_
            intro m4 r4 ⟨g1, g2, g3⟩
            have hr4 := hr.tr g2
            obtain ⟨u0, ⟨u1, u2⟩, u3⟩ := hL.mv hr4
            have u20 := u2.1
            have m42 : m4 a 2 = nI (bs (fun j => (q.2 j).isSome)) := by rw [(g3 a (by omega)).1]; exact m2
            have m43 : m4 a 3 = latA q.2 := by rw [(g3 a (by omega)).1]; exact m3
            have hO4 : ∀ x, (x < a ∨ a + 264 ≤ x) → m4 x = mi x ∧ r4 x = mr x := fun x hx => ⟨(g3 x (by omega)).1.trans (hO x hx).1, (g3 x (by omega)).2.trans (hO x hx).2⟩
            refine r_aload_n 0 dX7_spread_116 rfl rfl ?_
            refine r_getR dX7_spread_117 fl_RX7_12 rfl (by assumption) (by assumption) ?_
            refine r_callVp [] dX7_spread_120 ok_RX7_77 ivX3_hearers (by assumption) ⟨_, _, rfl⟩ rfl rfl (Nat.le_of_ble_eq_true rfl) (by refine ⟨?_, ?_, ?_, ?_⟩ <;> exact Nat.le_of_ble_eq_true rfl) ((c_hearers u2 g1 (fun j hj => by have := (okt j hj).2.1 1 (by omega); show (tckS q.1 j).2.1 1 < _; omega)).of (congrArg nI hbs)) ?_
            refine r_istore 6 (ls2 := [_, _, _, _, _, _, _]) dX7_spread_123 (by decide) (Nat.le_of_ble_eq_true rfl) rfl ?_
            refine r_iload 6 dX7_spread_125 rfl ?_
            refine r_aload_n 0 dX7_spread_127 rfl rfl ?_
            refine r_getV dX7_spread_128 fl_RX7_29 rfl (by assumption) (by first | assumption | exact up2_same _ _ _ _ | exact (Eq.trans (up2_ne _ _ (by omega)) (by first | assumption | exact up2_same _ _ _ _)) | exact (Eq.trans (up2_ne _ _ (by omega)) (Eq.trans (up2_ne _ _ (by omega)) (by first | assumption | exact up2_same _ _ _ _))) | exact (Eq.trans (up2_ne _ _ (by omega)) (Eq.trans (up2_ne _ _ (by omega)) (Eq.trans (up2_ne _ _ (by omega)) (by first | assumption | exact up2_same _ _ _ _)))) | exact (Eq.trans (up2_ne _ _ (by omega)) (Eq.trans (up2_ne _ _ (by omega)) (Eq.trans (up2_ne _ _ (by omega)) (Eq.trans (up2_ne _ _ (by omega)) (by first | assumption | exact up2_same _ _ _ _))))) | rfl) ?_
            refine r_icmpN_eq 146 dX7_spread_131 (by decide) (by omega) (by omega) (fun h131 => ?_) (fun h131 => ?_)
            · refine r_iincN 4 (b := 1) (ls2 := [_, _, _, _, _, _, _]) dX7_spread_146 rfl (by decide) (by decide) rfl ?_
              refine r_goto 83 dX7_spread_149 (by decide) ?_
              first | exact K146 m4 r4 g1 m42 m43 hr4 hO4 h131 [_, _] | exact K134 m4 r4 g1 hr4 hO4 h131 [_, _]
            · refine r_aload_n 0 dX7_spread_134 rfl rfl ?_
              refine r_iload 6 dX7_spread_135 rfl ?_
              refine r_putI dX7_spread_137 fl_RX7_29 rfl rfl rfl (by assumption) ?_
              refine r_aload_n 0 dX7_spread_140 rfl rfl ?_
              refine r_iload 5 dX7_spread_141 rfl ?_
              refine r_putI dX7_spread_143 fl_RX7_33 rfl rfl rfl (by assumption) ?_
              refine r_iincN 4 (b := 1) (ls2 := [_, _, _, _, _, _, _]) dX7_spread_146 rfl (by decide) (by decide) rfl ?_
              refine r_goto 83 dX7_spread_149 (by decide) ?_
              first | exact K146 m4 r4 g1 m42 m43 hr4 hO4 h131 [_, _] | exact K134 m4 r4 g1 hr4 hO4 h131 [_, _]
  have K80 : ∀ (m : MI), NtC m mr (a + 1) (tri0 n w s f h) → m a 2 = nI 0 → m a 3 = -6 → (∀ x, (x < a ∨ a + 264 ≤ x) → m x = mi x) → Wp yX7_spread cX7_spread 7 none (EM 5 z sh (fun v m r => v = none ∧ m a 2 = nI (bs (fun j => ((tri n w s f h).2 j).isSome)) ∧ m a 3 = latA (tri n w s f h).2 ∧ NtC m r (a + 1) (tri n w s f h).1 ∧ MrOk sh mr r ∧ ∀ x, (x < a ∨ a + 264 ≤ x) → m x = mi x ∧ r x = mr x)) 0 0 80 [.ref a, .int (nI s), .int (nI (en 32 f)), .int (nI h)] [] z sh m mr := by
    intro m g1 g2 g3 g4
    refine r_iconst (v := nI 0) dX7_spread_80 (by decide) ?_
    refine r_istore 4 (ls2 := [_, _, _, _, _]) dX7_spread_81 (by decide) (Nat.le_of_ble_eq_true rfl) rfl ?_
    refine H 30 0 (tri0 n w s f h, fun _ => none) m mr [] (by omega) hend rfl ok0 hl0 (fun j hj => ?_) (fun j hj t e => by cases e) (by show 0 + 30 < 100; omega) g1 (by rw [g2]; rfl) (by rw [g3]; rfl) MrOk.rf (fun x hx => ⟨g4 x hx, rfl⟩)
    show _ ↔ (upS _ s _ j).2.2.2.2.isSome = true
    unfold upS
    split
    · show _ ↔ (none : Option (Pk × Nat)).isSome = true; simp
    · show _ ↔ (none : Option (Pk × Nat)).isSome = true; simp
  have hst := (hN.2 s hs).2
  obtain ⟨m1, hm1⟩ : ∃ m1, m1 = up2 (up2 mi a 2 (nI 0)) a 3 (-6) := ⟨_, rfl⟩
  have hm1x : ∀ x, x ≠ a → m1 x = mi x := fun x hx => by rw [hm1, up2_row _ _ hx, up2_row _ _ hx]
  have hcall : mi (a + 1 + 3 + 43 * s) 0 = nI (en 32 (n.1 s).1.1) := hst.1.1
  refine Mv.of pnX7_spread (Nat.le_of_ble_eq_true rfl) rfl ?_
  refine r_aload_n 0 dX7_spread_0 rfl rfl ?_
  refine r_iconst (v := nI 0) dX7_spread_1 (by decide) ?_
  refine r_putI dX7_spread_2 fl_RX7_29 rfl rfl rfl (by assumption) ?_
  refine r_aload_n 0 dX7_spread_5 rfl rfl ?_
  refine r_bipush (v := -6) dX7_spread_6 (by decide) ?_
  refine r_putI dX7_spread_8 fl_RX7_33 rfl rfl rfl (by assumption) ?_
  rw [← hm1]
  refine r_iload_n 1 dX7_spread_11 rfl rfl ?_
  refine r_callSNp [_] dX7_spread_12 ok_RX7_36 isX9_isStation rfl rfl (Nat.le_of_ble_eq_true rfl) (by refine ⟨?_, ?_, ?_, ?_⟩ <;> exact Nat.le_of_ble_eq_true rfl) (c_isSt _) ?_
  rw [st_no hs]
  refine r_ifB_ne 19 dX7_spread_15 (by decide) (fun h15 => ?_) (fun h15 => ?_)
  · refine r_aload_n 0 dX7_spread_19 rfl rfl ?_
    refine r_getR dX7_spread_20 fl_RX7_21 rfl (by assumption) (by assumption) ?_
    refine r_callVw [] dX7_spread_23 ok_RX7_40 ivX4_clear (by assumption) ⟨_, _, rfl⟩ rfl rfl (Nat.le_of_ble_eq_true rfl) (by refine ⟨?_, ?_, ?_, ?_⟩ <;> exact Nat.le_of_ble_eq_true rfl) (c_clear l4) ?_
    intro m2 hm2
    have hm2x : ∀ x, x ≠ a + 262 → m2 x = m1 x := fun x hx => by rw [hm2, up2_row _ _ hx, up2_row _ _ hx, up2_row _ _ hx]
    have hc2 : m2 (a + 1 + 3 + 43 * s) 0 = nI (en 32 (n.1 s).1.1) := by rw [hm2x _ (by omega), hm1x _ (by omega)]; exact hcall
    refine r_aload_n 0 dX7_spread_26 rfl rfl ?_
    refine r_getR dX7_spread_27 fl_RX7_21 rfl (by assumption) (by assumption) ?_
    refine r_aload_n 0 dX7_spread_30 rfl rfl ?_
    refine r_getR dX7_spread_31 fl_RX7_12 rfl (by assumption) (by assumption) ?_
    refine r_getR dX7_spread_34 fl_RX7_43 rfl (by assumption) (by assumption) ?_
    refine r_iload_n 1 dX7_spread_37 rfl rfl ?_
    refine r_aald dX7_spread_38 (by assumption) (by decide) (by intro _; rfl) (by omega) (by omega) (by assumption) ?_
    refine r_getV dX7_spread_39 fl_RX7_47 rfl (by assumption) (by first | assumption | exact up2_same _ _ _ _ | exact (Eq.trans (up2_ne _ _ (by omega)) (by first | assumption | exact up2_same _ _ _ _)) | exact (Eq.trans (up2_ne _ _ (by omega)) (Eq.trans (up2_ne _ _ (by omega)) (by first | assumption | exact up2_same _ _ _ _))) | exact (Eq.trans (up2_ne _ _ (by omega)) (Eq.trans (up2_ne _ _ (by omega)) (Eq.trans (up2_ne _ _ (by omega)) (by first | assumption | exact up2_same _ _ _ _)))) | exact (Eq.trans (up2_ne _ _ (by omega)) (Eq.trans (up2_ne _ _ (by omega)) (Eq.trans (up2_ne _ _ (by omega)) (Eq.trans (up2_ne _ _ (by omega)) (by first | assumption | exact up2_same _ _ _ _))))) | rfl) ?_
    refine r_putI dX7_spread_42 fl_RX7_52 rfl rfl rfl (by assumption) ?_
    obtain ⟨m3, hm3⟩ : ∃ m3, m3 = up2 m2 (a + 262) 2 (nI (en 32 (n.1 s).1.1)) := ⟨_, rfl⟩
    rw [← hm3]
    refine r_aload_n 0 dX7_spread_45 rfl rfl ?_
    refine r_getR dX7_spread_46 fl_RX7_21 rfl (by assumption) (by assumption) ?_
    refine r_iconst (v := nI 1) dX7_spread_49 (by decide) ?_
    refine r_putI dX7_spread_50 fl_RX7_55 rfl rfl rfl (by assumption) ?_
    obtain ⟨m4, hm4⟩ : ∃ m4, m4 = up2 m3 (a + 262) 3 (nI 1) := ⟨_, rfl⟩
    rw [← hm4]
    have hm41 : m4 (a + 262) 1 = nI 0 := by rw [hm4, hm3, up2_ne _ _ (Or.inr (by omega)), up2_ne _ _ (Or.inr (by omega)), hm2, up2_ne _ _ (Or.inr (by omega)), up2_ne _ _ (Or.inr (by omega)), up2_same]
    refine r_aload_n 0 dX7_spread_53 rfl rfl ?_
    refine r_getR dX7_spread_54 fl_RX7_21 rfl (by assumption) (by assumption) ?_
    refine r_iload_n 2 dX7_spread_57 rfl rfl ?_
    refine r_iload_n 3 dX7_spread_58 rfl rfl ?_
    refine r_iconst (v := nI 0) dX7_spread_59 (by decide) ?_
    refine r_top (show nI 0 = b2 false from rfl) ?_
    refine r_callVw [_, _, _] dX7_spread_60 ok_RX7_58 ivX4_addWord (by assumption) ⟨_, _, rfl⟩ rfl rfl (Nat.le_of_ble_eq_true rfl) (by refine ⟨?_, ?_, ?_, ?_⟩ <;> exact Nat.le_of_ble_eq_true rfl) (c_addWord l4 hm41 (by omega) hfl h7) ?_
    intro m5 hm5
    have hm5x : ∀ x, x ≠ a + 262 → x ≠ a + 263 → m5 x = m1 x := fun x hx hx2 => by rw [hm5, up2_row _ _ hx, up2_row _ _ hx2, hm4, hm3, up2_row _ _ hx, up2_row _ _ hx]; exact hm2x x hx
    have hPk : PkC m5 (a + 262) ((n.1 s).1.1, [1], [(f, h, false)]) := ⟨by rw [hm5, up2_same]; rfl, by rw [hm5, up2_ne _ _ (Or.inr (by omega)), up2_row _ _ (by omega), hm4, up2_ne _ _ (Or.inr (by omega)), hm3, up2_same], by rw [hm5, up2_ne _ _ (Or.inr (by omega)), up2_row _ _ (by omega), hm4, up2_same]; rfl, fun i x hx => by
      cases i with
      | zero => cases hx; rw [hm5, up2_row _ _ (by omega), up2_same]; rfl
      | succ i => cases hx⟩
    have hN5 : NtC m5 mr (a + 1) (triN n w) := hN.keep (fun j hj => Nat.zero_le _) (fun y y1 y2 => by rw [hm5x y (by omega) (by omega), hm1x y (by omega)])
    refine r_aload_n 0 dX7_spread_63 rfl rfl ?_
    refine r_getR dX7_spread_64 fl_RX7_12 rfl (by assumption) (by assumption) ?_
    refine r_getR dX7_spread_67 fl_RX7_43 rfl (by assumption) (by assumption) ?_
    refine r_iload_n 1 dX7_spread_70 rfl rfl ?_
    refine r_aald dX7_spread_71 (by assumption) (by decide) (by intro _; rfl) (by omega) (by omega) (by assumption) ?_
    refine r_aload_n 0 dX7_spread_72 rfl rfl ?_
    refine r_getR dX7_spread_73 fl_RX7_21 rfl (by assumption) (by assumption) ?_
    refine r_iconst (v := nI 0) dX7_spread_76 (by decide) ?_
    refine r_callVw [_, _] dX7_spread_77 ok_RX7_62 ivX6_originate (by assumption) ⟨_, _, rfl⟩ rfl rfl (Nat.le_of_ble_eq_true rfl) (by refine ⟨?_, ?_, ?_, ?_⟩ <;> exact Nat.le_of_ble_eq_true rfl) (c_orig d1 l4 (by omega) (hN5.2 s hs).2 (now := 0) ⟨(hok.1 s hs).1, fun _ _ => Nat.le_refl 0, ⟨Nat.zero_le _, fun q hq => (by cases hq)⟩, ⟨Nat.zero_le _, fun q hq => (by cases hq), List.Pairwise.nil⟩, fun p t e => (by cases e)⟩ (by show 0 < 12; omega) (by omega) hPk hpk) ?_
    intro m6 ⟨g1, g2⟩
    refine K80 m6 ⟨?_, fun j hj => ⟨?_, ?_⟩⟩ ?_ ?_ (fun x hx => ?_)
    · rw [g2 (a + 1) (by omega)]; exact hN5.1
    · rw [g2 (a + 1 + 2) (by omega)]; exact (hN5.2 j hj).1
    · show StC m6 mr _ (upS _ s _ j)
      unfold upS
      by_cases e : j = s
      · rw [if_pos e, e]; exact g1
      · rw [if_neg e]; exact (hN5.2 j hj).2.keep (Nat.zero_le _) (fun y y1 y2 => g2 y (by omega))
    · rw [g2 a (by omega), hm5x a (by omega) (by omega), hm1, up2_ne _ _ (Or.inr (by omega)), up2_same]
    · rw [g2 a (by omega), hm5x a (by omega) (by omega), hm1, up2_same]
    · rw [g2 x (by omega), hm5x x (by omega) (by omega), hm1x x (by omega)]
  · cases h15
end TRIAL
