def bs (f : Nat → Bool) : Nat := sum6 (fun q => bn (f q) * 2 ^ q)
def cn6 (f : Nat → Bool) : Nat := sum6 (fun q => bn (f q))
theorem bs_eq {f g : Nat → Bool} (h : ∀ q, q < 6 → f q = g q) : bs f = bs g := by
  unfold bs sum6; dsimp only; rw [h 0 (by omega), h 1 (by omega), h 2 (by omega), h 3 (by omega), h 4 (by omega), h 5 (by omega)]
theorem cn6_eq {f g : Nat → Bool} (h : ∀ q, q < 6 → f q = g q) : cn6 f = cn6 g := by
  unfold cn6 sum6; dsimp only; rw [h 0 (by omega), h 1 (by omega), h 2 (by omega), h 3 (by omega), h 4 (by omega), h 5 (by omega)]
def bq (b0 b1 b2 b3 b4 b5 : Bool) : Nat := bn b0 * 2 ^ 0 + bn b1 * 2 ^ 1 + bn b2 * 2 ^ 2 + bn b3 * 2 ^ 3 + bn b4 * 2 ^ 4 + bn b5 * 2 ^ 5
theorem bs_bq (f : Nat → Bool) : bs f = bq (f 0) (f 1) (f 2) (f 3) (f 4) (f 5) := rfl
theorem bq_lt : ∀ b0 b1 b2 b3 b4 b5, bq b0 b1 b2 b3 b4 b5 < 64 := by decide +kernel
theorem bs_lt (f : Nat → Bool) : bs f < 64 := by rw [bs_bq]; exact bq_lt _ _ _ _ _ _
theorem bq_bit : ∀ b0 b1 b2 b3 b4 b5, bq b0 b1 b2 b3 b4 b5 / 2 ^ 0 % 2 = bn b0 ∧ bq b0 b1 b2 b3 b4 b5 / 2 ^ 1 % 2 = bn b1 ∧ bq b0 b1 b2 b3 b4 b5 / 2 ^ 2 % 2 = bn b2 ∧ bq b0 b1 b2 b3 b4 b5 / 2 ^ 3 % 2 = bn b3 ∧ bq b0 b1 b2 b3 b4 b5 / 2 ^ 4 % 2 = bn b4 ∧ bq b0 b1 b2 b3 b4 b5 / 2 ^ 5 % 2 = bn b5 := by decide +kernel
theorem lt6 {s : Nat} (h : s < 6) : s = 0 ∨ s = 1 ∨ s = 2 ∨ s = 3 ∨ s = 4 ∨ s = 5 := by omega
theorem bs_bit (f : Nat → Bool) {s : Nat} (h : s < 6) : bs f / 2 ^ s % 2 = bn (f s) := by
  rw [bs_bq]
  obtain ⟨h0, h1, h2, h3, h4, h5⟩ := bq_bit (f 0) (f 1) (f 2) (f 3) (f 4) (f 5)
  rcases lt6 h with rfl | rfl | rfl | rfl | rfl | rfl <;> assumption
def upB (f : Nat → Bool) (s : Nat) (v : Bool) : Nat → Bool := fun q => if q = s then v else f q
theorem bq_or : ∀ b0 b1 b2 b3 b4 b5, bq b0 b1 b2 b3 b4 b5 ||| 1 * 2 ^ 0 = bq true b1 b2 b3 b4 b5 ∧ bq b0 b1 b2 b3 b4 b5 ||| 1 * 2 ^ 1 = bq b0 true b2 b3 b4 b5 ∧ bq b0 b1 b2 b3 b4 b5 ||| 1 * 2 ^ 2 = bq b0 b1 true b3 b4 b5 ∧ bq b0 b1 b2 b3 b4 b5 ||| 1 * 2 ^ 3 = bq b0 b1 b2 true b4 b5 ∧ bq b0 b1 b2 b3 b4 b5 ||| 1 * 2 ^ 4 = bq b0 b1 b2 b3 true b5 ∧ bq b0 b1 b2 b3 b4 b5 ||| 1 * 2 ^ 5 = bq b0 b1 b2 b3 b4 true := by decide +kernel
theorem bs_or (f : Nat → Bool) {s : Nat} (h : s < 6) : bs f ||| 1 * 2 ^ s = bs (upB f s true) := by
  rw [bs_bq, bs_bq]
  obtain ⟨h0, h1, h2, h3, h4, h5⟩ := bq_or (f 0) (f 1) (f 2) (f 3) (f 4) (f 5)
  rcases lt6 h with rfl | rfl | rfl | rfl | rfl | rfl <;> assumption
theorem bq_clr : ∀ b0 b1 b2 b3 b4 b5, nI (bq b0 b1 b2 b3 b4 b5) &&& (nI (1 * 2 ^ 0) ^^^ (-1)) = nI (bq false b1 b2 b3 b4 b5) ∧ nI (bq b0 b1 b2 b3 b4 b5) &&& (nI (1 * 2 ^ 1) ^^^ (-1)) = nI (bq b0 false b2 b3 b4 b5) ∧ nI (bq b0 b1 b2 b3 b4 b5) &&& (nI (1 * 2 ^ 2) ^^^ (-1)) = nI (bq b0 b1 false b3 b4 b5) ∧ nI (bq b0 b1 b2 b3 b4 b5) &&& (nI (1 * 2 ^ 3) ^^^ (-1)) = nI (bq b0 b1 b2 false b4 b5) ∧ nI (bq b0 b1 b2 b3 b4 b5) &&& (nI (1 * 2 ^ 4) ^^^ (-1)) = nI (bq b0 b1 b2 b3 false b5) ∧ nI (bq b0 b1 b2 b3 b4 b5) &&& (nI (1 * 2 ^ 5) ^^^ (-1)) = nI (bq b0 b1 b2 b3 b4 false) := by decide +kernel
theorem bs_clr (f : Nat → Bool) {s : Nat} (h : s < 6) : nI (bs f) &&& (nI (1 * 2 ^ s) ^^^ (-1)) = nI (bs (upB f s false)) := by
  rw [bs_bq, bs_bq]
  obtain ⟨h0, h1, h2, h3, h4, h5⟩ := bq_clr (f 0) (f 1) (f 2) (f 3) (f 4) (f 5)
  rcases lt6 h with rfl | rfl | rfl | rfl | rfl | rfl <;> assumption
theorem bs_and (f g : Nat → Bool) : bs f &&& bs g = bs (fun q => f q && g q) := by
  apply Nat.eq_of_testBit_eq
  intro i
  rw [Nat.testBit_and]
  have key : ∀ (h : Nat → Bool) (i : Nat), (bs h).testBit i = (decide (i < 6) && h i) := by
    intro h i
    by_cases hi : i < 6
    · rw [Nat.testBit_eq_decide_div_mod_eq, bs_bit h hi]
      cases h i <;> simp [bn, hi]
    · rw [Nat.testBit_lt_two_pow (Nat.lt_of_lt_of_le (bs_lt h) (by rw [show (64 : Nat) = 2 ^ 6 from rfl]; exact Nat.pow_le_pow_right (by omega) (by omega)))]
      simp [hi]
  rw [key, key, key]
  by_cases hi : i < 6 <;> simp [hi]
def fs6 (g : Nat → Bool) : Option Nat := (List.range 6).find? g
theorem fl6 (g : Nat → Bool) : (List.range 6).filter g = [0, 1, 2, 3, 4, 5].filter g := rfl
theorem fs6_0 {g : Nat → Bool} (h : cn6 g = 0) : fs6 g = none ∧ (List.range 6).filter g = [] := by
  have e : (List.range 6) = [0, 1, 2, 3, 4, 5] := rfl
  unfold cn6 sum6 bn at h
  unfold fs6
  rw [e]
  simp only [List.find?, List.filter]
  cases h0 : g 0 <;> cases h1 : g 1 <;> cases h2 : g 2 <;> cases h3 : g 3 <;> cases h4 : g 4 <;> cases h5 : g 5 <;> simp [h0, h1, h2, h3, h4, h5] at h ⊢
theorem fs6_1 {g : Nat → Bool} (h : cn6 g = 1) : ∃ q, q < 6 ∧ g q = true ∧ fs6 g = some q ∧ (List.range 6).filter g = [q] := by
  have e : (List.range 6) = [0, 1, 2, 3, 4, 5] := rfl
  unfold cn6 sum6 bn at h
  unfold fs6
  rw [e]
  simp only [List.find?, List.filter]
  cases h0 : g 0 <;> cases h1 : g 1 <;> cases h2 : g 2 <;> cases h3 : g 3 <;> cases h4 : g 4 <;> cases h5 : g 5 <;> simp [h0, h1, h2, h3, h4, h5] at h ⊢ <;> assumption
theorem fs6_2 {g : Nat → Bool} (h : 1 < cn6 g) : ∃ x y t, (List.range 6).filter g = x :: y :: t := by
  have e : (List.range 6) = [0, 1, 2, 3, 4, 5] := rfl
  unfold cn6 sum6 bn at h
  rw [e]
  simp only [List.filter]
  cases h0 : g 0 <;> cases h1 : g 1 <;> cases h2 : g 2 <;> cases h3 : g 3 <;> cases h4 : g 4 <;> cases h5 : g 5 <;> simp [h0, h1, h2, h3, h4, h5] at h ⊢
theorem fs6_lt {g : Nat → Bool} {q : Nat} (h : fs6 g = some q) : q < 6 := by
  have := List.mem_of_find?_eq_some h
  exact List.mem_range.mp this
section NET
variable {z : Nat} {sh : SH} {mi : MI} {mr : MR} {a : Nat}
theorem c_isIn {v s : Nat} (hv : v < 64) (hs : s < 6) : Mp mX9_isIn 0 [.int (nI v), .int (nI s)] z sh mi mr (b2 (decide (v / 2 ^ s % 2 = 1))) := by
  have e1 : v / 2 ^ s &&& 1 = v / 2 ^ s % 2 := and_mod _ 1
  have e2 : v / 2 ^ s ≤ v := Nat.div_le_self _ _
  refine Mv.of pnX9_isIn (Nat.le_of_ble_eq_true rfl) rfl ?_
  refine r_iload_n 0 dX9_isIn_0 rfl rfl ?_
  refine r_iload_n 1 dX9_isIn_1 rfl rfl ?_
  refine r_ishrN dX9_isIn_2 (by omega) (by omega) ?_
  refine r_iconst (v := nI 1) dX9_isIn_3 (by decide) ?_
  refine r_iandN dX9_isIn_4 ?_
  rw [e1]
  refine r_ifN_eq 12 dX9_isIn_5 (by decide) (by omega) (fun h5 => ?_) (fun h5 => ?_)
  · refine r_iconst (v := nI 0) dX9_isIn_12 (by decide) ?_
    refine r_zret dX9_isIn_13 rfl (by first | exact b2_nar _ | decide) (Nat.le_of_ble_eq_true rfl) (Nat.le_of_ble_eq_true rfl) ?_
    refine ⟨rfl, rfl, rfl, ?_, rfl⟩
    first | (rw [show decide (v / 2 ^ s % 2 = 1) = false by simp; omega]; rfl) | (rw [show decide (v / 2 ^ s % 2 = 1) = true by simp; omega]; rfl)
  · refine r_iconst (v := nI 1) dX9_isIn_8 (by decide) ?_
    refine r_goto 13 dX9_isIn_9 (by decide) ?_
    refine r_zret dX9_isIn_13 rfl (by first | exact b2_nar _ | decide) (Nat.le_of_ble_eq_true rfl) (Nat.le_of_ble_eq_true rfl) ?_
    refine ⟨rfl, rfl, rfl, ?_, rfl⟩
    first | (rw [show decide (v / 2 ^ s % 2 = 1) = false by simp; omega]; rfl) | (rw [show decide (v / 2 ^ s % 2 = 1) = true by simp; omega]; rfl)
theorem isIn_bs (g : Nat → Bool) {s : Nat} (h : s < 6) : decide (bs g / 2 ^ s % 2 = 1) = g s := by
  rw [bs_bit g h]; cases g s <;> rfl
theorem c_isInB (g : Nat → Bool) {s : Nat} (hs : s < 6) : Mp mX9_isIn 0 [.int (nI (bs g)), .int (nI s)] z sh mi mr (b2 (g s)) := (c_isIn (bs_lt g) hs).of (by rw [isIn_bs g hs])
theorem c_bitCount (g : Nat → Bool) : Mp mJ6_bitCount_0f7a4 0 [.int (nI (bs g))] z sh mi mr (nI (cn6 g)) := by
  rw [show cn6 g = bn (g 0) + bn (g 1) + bn (g 2) + bn (g 3) + bn (g 4) + bn (g 5) from rfl, bs_bq]
  generalize g 0 = b0
  generalize g 1 = b1
  generalize g 2 = b2
  generalize g 3 = b3
  generalize g 4 = b4
  generalize g 5 = b5
  refine Mv.of pnJ6_bitCount_0f7a4 (Nat.le_of_ble_eq_true rfl) rfl ?_
  refine r_iload_n 0 dJ6_bitCount_0f7a4_0 rfl rfl ?_
  refine r_iload_n 0 dJ6_bitCount_0f7a4_1 rfl rfl ?_
  refine r_iconst (v := nI 1) dJ6_bitCount_0f7a4_2 (by decide) ?_
  refine r_iushr dJ6_bitCount_0f7a4_3 rfl ?_
  refine r_ldcw dJ6_bitCount_0f7a4_4 ct_RJ6_265 ?_
  refine r_iand dJ6_bitCount_0f7a4_7 ?_
  refine r_isub dJ6_bitCount_0f7a4_8 ?_
  refine r_istore_n 0 (ls2 := [_]) dJ6_bitCount_0f7a4_9 rfl (by decide) (Nat.le_of_ble_eq_true rfl) rfl ?_
  refine r_iload_n 0 dJ6_bitCount_0f7a4_10 rfl rfl ?_
  refine r_ldcw dJ6_bitCount_0f7a4_11 ct_RJ6_266 ?_
  refine r_iand dJ6_bitCount_0f7a4_14 ?_
  refine r_iload_n 0 dJ6_bitCount_0f7a4_15 rfl rfl ?_
  refine r_iconst (v := nI 2) dJ6_bitCount_0f7a4_16 (by decide) ?_
  refine r_iushr dJ6_bitCount_0f7a4_17 rfl ?_
  refine r_ldcw dJ6_bitCount_0f7a4_18 ct_RJ6_266 ?_
  refine r_iand dJ6_bitCount_0f7a4_21 ?_
  refine r_iadd dJ6_bitCount_0f7a4_22 ?_
  refine r_istore_n 0 (ls2 := [_]) dJ6_bitCount_0f7a4_23 rfl (by decide) (Nat.le_of_ble_eq_true rfl) rfl ?_
  refine r_iload_n 0 dJ6_bitCount_0f7a4_24 rfl rfl ?_
  refine r_iload_n 0 dJ6_bitCount_0f7a4_25 rfl rfl ?_
  refine r_iconst (v := nI 4) dJ6_bitCount_0f7a4_26 (by decide) ?_
  refine r_iushr dJ6_bitCount_0f7a4_27 rfl ?_
  refine r_iadd dJ6_bitCount_0f7a4_28 ?_
  refine r_ldcw dJ6_bitCount_0f7a4_29 ct_RJ6_267 ?_
  refine r_iand dJ6_bitCount_0f7a4_32 ?_
  refine r_istore_n 0 (ls2 := [_]) dJ6_bitCount_0f7a4_33 rfl (by decide) (Nat.le_of_ble_eq_true rfl) rfl ?_
  refine r_iload_n 0 dJ6_bitCount_0f7a4_34 rfl rfl ?_
  refine r_iload_n 0 dJ6_bitCount_0f7a4_35 rfl rfl ?_
  refine r_bipush (v := nI 8) dJ6_bitCount_0f7a4_36 (by decide) ?_
  refine r_iushr dJ6_bitCount_0f7a4_38 rfl ?_
  refine r_iadd dJ6_bitCount_0f7a4_39 ?_
  refine r_istore_n 0 (ls2 := [_]) dJ6_bitCount_0f7a4_40 rfl (by decide) (Nat.le_of_ble_eq_true rfl) rfl ?_
  refine r_iload_n 0 dJ6_bitCount_0f7a4_41 rfl rfl ?_
  refine r_iload_n 0 dJ6_bitCount_0f7a4_42 rfl rfl ?_
  refine r_bipush (v := nI 16) dJ6_bitCount_0f7a4_43 (by decide) ?_
  refine r_iushr dJ6_bitCount_0f7a4_45 rfl ?_
  refine r_iadd dJ6_bitCount_0f7a4_46 ?_
  refine r_istore_n 0 (ls2 := [_]) dJ6_bitCount_0f7a4_47 rfl (by decide) (Nat.le_of_ble_eq_true rfl) rfl ?_
  refine r_iload_n 0 dJ6_bitCount_0f7a4_48 rfl rfl ?_
  refine r_bipush (v := nI 63) dJ6_bitCount_0f7a4_49 (by decide) ?_
  refine r_iand dJ6_bitCount_0f7a4_51 ?_
  refine r_iret dJ6_bitCount_0f7a4_52 rfl (Nat.le_of_ble_eq_true rfl) (Nat.le_of_ble_eq_true rfl) ?_
  refine ⟨rfl, rfl, rfl, congrArg (fun x => some (Value.int x)) ?_, rfl⟩
  revert b0 b1 b2 b3 b4 b5
  clear g
  decide +kernel
theorem c_firstIn (g : Nat → Bool) : Mp mX3_firstIn 1 [.int (nI (bs g))] z sh mi mr (match fs6 g with | some q => nI q | none => -6) := by
  have hlt := bs_lt g
  have H : ∀ k i : Nat, i + k = 6 → (∀ j, j < i → g j = false) → Wp yX3_firstIn cX3_firstIn 2 (some .int) (EP 1 z sh mr mi (match fs6 g with | some q => nI q | none => -6)) 0 0 2 [.int (nI (bs g)), .int (nI i)] [] z sh mi mr := by
    intro k
    induction k with
    | zero =>
      intro i hi hb
      refine r_iload_n 1 dX3_firstIn_2 rfl rfl ?_
      refine r_bipush (v := nI 6) dX3_firstIn_3 (by decide) ?_
      refine r_icmpN_ge 24 dX3_firstIn_5 (by decide) (by omega) (by omega) (fun h5 => ?_) (fun h5 => ?_)
      · refine r_bipush (v := -6) dX3_firstIn_24 (by decide) ?_
        refine r_iret dX3_firstIn_26 rfl (Nat.le_of_ble_eq_true rfl) (Nat.le_of_ble_eq_true rfl) ?_
        refine ⟨rfl, rfl, rfl, ?_, rfl⟩
        rw [show fs6 g = none from fr_no (fun j hj => hb j (by omega))]
      · omega
    | succ k ih =>
      intro i hi hb
      refine r_iload_n 1 dX3_firstIn_2 rfl rfl ?_
      refine r_bipush (v := nI 6) dX3_firstIn_3 (by decide) ?_
      refine r_icmpN_ge 24 dX3_firstIn_5 (by decide) (by omega) (by omega) (fun h5 => ?_) (fun h5 => ?_)
      · omega
      · refine r_iload_n 0 dX3_firstIn_8 rfl rfl ?_
        refine r_iload_n 1 dX3_firstIn_9 rfl rfl ?_
        refine r_callSNp [_, _] dX3_firstIn_10 ok_RX3_42 isX9_isIn rfl rfl (Nat.le_of_ble_eq_true rfl) (by refine ⟨?_, ?_, ?_, ?_⟩ <;> exact Nat.le_of_ble_eq_true rfl) (c_isInB g (by omega)) ?_
        refine r_ifB_eq 18 dX3_firstIn_13 (by decide) (fun h13 => ?_) (fun h13 => ?_)
        · refine r_iincN 1 (b := 1) (ls2 := [_, _]) dX3_firstIn_18 rfl (by decide) (by decide) rfl ?_
          refine r_goto 2 dX3_firstIn_21 (by decide) ?_
          refine ih (i + 1) (by omega) (fun j hj => ?_)
          rcases Nat.lt_or_ge j i with q | q
          · exact hb j q
          · rw [show j = i by omega]; exact h13
        · refine r_iload_n 1 dX3_firstIn_16 rfl rfl ?_
          refine r_iret dX3_firstIn_17 rfl (Nat.le_of_ble_eq_true rfl) (Nat.le_of_ble_eq_true rfl) ?_
          refine ⟨rfl, rfl, rfl, ?_, rfl⟩
          rw [show fs6 g = some i from fr_at (by omega) h13 hb]
  refine Mv.of pnX3_firstIn (Nat.le_of_ble_eq_true rfl) rfl ?_
  refine r_iconst (v := nI 0) dX3_firstIn_0 (by decide) ?_
  refine r_istore_n 1 (ls2 := [_, _]) dX3_firstIn_1 rfl (by decide) (Nat.le_of_ble_eq_true rfl) rfl ?_
  exact H 6 0 rfl (fun j hj => by omega)
end NET
