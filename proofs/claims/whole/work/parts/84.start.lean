theorem CR.grow {z z' : Nat} {sh sh' : SH} {mi mi' : MI} {mr mr' : MR} {x : Nat} (h : CR z sh mi mr x al0) (hz : x + 533 ≤ z) (hB : Bel (x + 533) sh mi mr sh' mi' mr') : CR z' sh' mi' mr' x al0 := by
  obtain ⟨h1, h2, h3, h4, h5, h6⟩ := h
  have g : ∀ q, q < x + 533 → sh' q = sh q ∧ mi' q = mi q ∧ mr' q = mr q := fun q hq => hB q hq
  have hn : ∀ k, k < 2 → mr (x + 528) k = none := fun k hk => h5 k hk
  refine ⟨h1.loc (fun q q1 q2 => (g q q2).1) (fun q q1 q2 _ => (g q q2).2.2), h2.keep (by rw [(g (x + 1) (by omega)).2.1]) (g (x + 1 + 1) (by omega)).2.1, h3.keep2 nt0_len (fun q q1 q2 => ⟨(g q (by omega)).2.1, (g q (by omega)).2.2⟩), fun s hs => (h4 s hs).keep (g _ (by omega)).2.2, fun k hk => ?_, fun y0 y1 e0 e1 => ?_⟩
  · show mr' (x + 528) k = none
    rw [(g (x + 528) (by omega)).2.2]; exact hn k hk
  · rw [(g (x + 528) (by omega)).2.2, hn 0 (by omega)] at e0; cases e0
section LAW2
variable {b L : Nat} {xs : Nat → Int32}
theorem law_w (hL2 : L ≤ 2048) (z : Nat) (sh : SH) (mi : MI) (mr : MR) : Wp yL_law cL_law 4 (some .boolean) (ELaw b L xs) 0 0 0 [.ref b] [] z sh mi mr := by
  refine r_new dL_law_0 ckX9 cl_RL_7 in_RX9 ini_RX9 (by decide) ⟨(Nat.le_of_ble_eq_true rfl), (Nat.le_of_ble_eq_true rfl)⟩ ?_
  refine r_dup dL_law_3 rfl ?_
  refine r_callI [] dL_law_4 ok_RL_9 iiX9_init rfl rfl (Nat.le_of_ble_eq_true rfl) (by refine ⟨?_, ?_, ?_, ?_⟩ <;> exact Nat.le_of_ble_eq_true rfl) (i_pw (up1_same _ _ _)) ?_
  intro w z1 sh1 mi1 mr1 ⟨hw, hz, hC, hB⟩
  subst hw
  obtain rfl : z1 = z + 533 := hz
  refine r_astore_n 1 (ls2 := [_, _]) dL_law_7 rfl (by decide) (Nat.le_of_ble_eq_true rfl) rfl ?_
  refine r_new dL_law_8 ckX10 cl_RL_10 in_RX10 ini_RX10 (by decide) ⟨(Nat.le_of_ble_eq_true rfl), (Nat.le_of_ble_eq_true rfl)⟩ ?_
  refine r_dup dL_law_11 rfl ?_
  refine r_callI [] dL_law_12 ok_RL_12 iiX10_init rfl rfl (Nat.le_of_ble_eq_true rfl) (by refine ⟨?_, ?_, ?_, ?_⟩ <;> exact Nat.le_of_ble_eq_true rfl) (i_md (up1_same _ _ _) (up1_same _ _ _)) ?_
  intro w z2 sh2 mi2 mr2 ⟨hw, hz, hM, hR, hB2⟩
  subst hw
  obtain rfl : z2 = z + 533 + 11 := hz
  have hB3 := hB2.new
  have hC2 : CR (z + 533 + 11) sh2 mi2 mr2 z al0 := CR.grow hC (by omega) hB3
  refine r_astore_n 2 (ls2 := [_, _, _]) dL_law_15 rfl (by decide) (Nat.le_of_ble_eq_true rfl) rfl ?_
  refine r_iconst (v := nI 0) dL_law_16 (by decide) ?_
  refine r_istore_n 3 (ls2 := [_, _, _, _]) dL_law_17 rfl (by decide) (Nat.le_of_ble_eq_true rfl) rfl ?_
  exact law_loop hL2 513 0 0 _ _ _ _ _ _ al0 rfl ⟨hC2, hM, hR, ok_al0, by omega⟩ (Nat.le_refl _) (Nat.le_of_ble_eq_true rfl) (Nat.le_of_ble_eq_true rfl)
end LAW2
/-- YOUR PART: from the entry, for every script of at most 2048 ints, the law comes to its end with true ('hflags': the launch's flags, for a law that throws: no stack traces) -/
theorem whole_start {p : Program} {e : Env} {s : State} {m : MethodId} {below : List Frame} {meth : Method} {c : Code} (l : Launch) (hflags : l.flags = flags0) {b L : Nat} {xs : Nat → Int32} (hL : L ≤ 2048) (C0 : lw_At p s m meth c b L xs) : W p l e room_1 s m #[Value.ref b] below meth c s.heap [] 0 0 (lw_Z below #[Value.ref b] s) (entryFrame m ([Value.ref b] : List Value).toArray 4) := by
  obtain ⟨hx, hb, hr, hml, hown, hts, hX, hbl, hlocks, hgv⟩ := id C0
  obtain ⟨D, AC, hK⟩ := kk_lw hts
  rw [lg_entry_eq]
  have hcx : Cx yL_law cL_law 4 (some .boolean) p s m #[Value.ref b] meth c D AC s.heap.size := ⟨hx, hb, hml, hr, hlocks, hown, fun w h => hts w (tb_lw h), hK, Nat.le_refl _, fun h => absurd h (by decide)⟩
  exact law_w (xs := xs) hL s.heap.size (fun _ => (16, 0)) (fun _ _ => 0) (fun _ _ => none) p l e s m #[Value.ref b] below meth c D AC s.heap.size hcx ⟨rfl, hX, hbl, rfl⟩ s.heap [] _ ⟨Nat.le_refl _, rfl, fun a ha => absurd ha (by show ¬ 16 < 16; omega), fun k q hq => by simp [wl] at hq⟩ va_S.rf (LV.entry (Nat.le_of_ble_eq_true rfl) rfl)
