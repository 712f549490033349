theorem nI_or (a b : Nat) : nI a ||| nI b = nI (a ||| b) := by
  apply Int32.toBitVec.inj
  show (BitVec.ofNat 32 a) ||| (BitVec.ofNat 32 b) = BitVec.ofNat 32 (a ||| b)
  rw [BitVec.ofNat_or]
theorem nI_and (a b : Nat) : nI a &&& nI b = nI (a &&& b) := by
  apply Int32.toBitVec.inj
  show (BitVec.ofNat 32 a) &&& (BitVec.ofNat 32 b) = BitVec.ofNat 32 (a &&& b)
  rw [BitVec.ofNat_and]
theorem nI_sm : ∀ n, n < 32 → ((nI n &&& 31).toBitVec.smod 32).toNat = n := by decide
theorem nI_shl {a k : Nat} (hk : k < 32) (h : a * 2 ^ k < 2 ^ 32) : nI a <<< (nI k &&& 31) = nI (a * 2 ^ k) := pk_shlN _ k (nI_sm k hk) h
theorem nI_shr {a k : Nat} (hk : k < 32) (h : a < 2 ^ 31) : nI a >>> (nI k &&& 31) = nI (a / 2 ^ k) := pk_shrN h _ k (nI_sm k hk)
section RULES6
variable {y : MethodName} {cc : ByteArray} {nL : Nat} {ret : Option FieldType} {E : ET} {kc ks pc : Nat} {ls st : List Value} {z : Nat} {sh : SH} {mi : MI} {mr : MR}
theorem r_iandN {a b : Nat} (d : decode cc pc = .ok (.iand, 1)) (k : Wp y cc nL ret E kc ks (pc + 1) ls (.int (nI (a &&& b)) :: st) z sh mi mr) : Wp y cc nL ret E kc ks pc ls (.int (nI b) :: .int (nI a) :: st) z sh mi mr := r_iand d (r_top (nI_and a b) k)
theorem r_iorN {a b : Nat} (d : decode cc pc = .ok (.ior, 1)) (k : Wp y cc nL ret E kc ks (pc + 1) ls (.int (nI (a ||| b)) :: st) z sh mi mr) : Wp y cc nL ret E kc ks pc ls (.int (nI b) :: .int (nI a) :: st) z sh mi mr := r_ior d (r_top (nI_or a b) k)
theorem r_ishlN {a b : Nat} (d : decode cc pc = .ok (.ishl, 1)) (hb : b < 32) (h : a * 2 ^ b < 2 ^ 32) (k : Wp y cc nL ret E kc ks (pc + 1) ls (.int (nI (a * 2 ^ b)) :: st) z sh mi mr) : Wp y cc nL ret E kc ks pc ls (.int (nI b) :: .int (nI a) :: st) z sh mi mr := r_ishl d (r_top (nI_shl hb h) k)
theorem r_ishrN {a b : Nat} (d : decode cc pc = .ok (.ishr, 1)) (hb : b < 32) (h : a < 2 ^ 31) (k : Wp y cc nL ret E kc ks (pc + 1) ls (.int (nI (a / 2 ^ b)) :: st) z sh mi mr) : Wp y cc nL ret E kc ks pc ls (.int (nI b) :: .int (nI a) :: st) z sh mi mr := r_ishr d (r_top (nI_shr hb h) k)
end RULES6
theorem or_low {a k b : Nat} (h : b < 2 ^ k) : a * 2 ^ k ||| b = a * 2 ^ k + b := by
  rw [← Nat.shiftLeft_eq, ← Nat.shiftLeft_add_eq_or_of_lt h]
theorem and_mod (a k : Nat) : a &&& (2 ^ k - 1) = a % 2 ^ k := Nat.and_two_pow_sub_one_eq_mod a k
theorem nI_m16 {a : Nat} (h : a < 2 ^ 31) : nI a &&& (-16) = nI (a / 16 * 16) := by
  apply Int32.toBitVec.inj
  show (BitVec.ofNat 32 a) &&& (-16 : Int32).toBitVec = BitVec.ofNat 32 (a / 16 * 16)
  apply BitVec.eq_of_getLsbD_eq
  intro i hi
  rw [BitVec.getLsbD_and, BitVec.getLsbD_ofNat, BitVec.getLsbD_ofNat]
  have e : ((-16 : Int32).toBitVec).getLsbD i = decide (4 ≤ i) := by
    have : ∀ j : Fin 32, ((-16 : Int32).toBitVec).getLsbD j.val = decide (4 ≤ j.val) := by decide
    exact this ⟨i, hi⟩
  rw [e, show a / 16 * 16 = (a >>> 4) <<< 4 by rw [Nat.shiftRight_eq_div_pow, Nat.shiftLeft_eq], Nat.testBit_shiftLeft, Nat.testBit_shiftRight]
  by_cases h4 : 4 ≤ i
  · simp [h4, show 4 + (i - 4) = i by omega, hi]
  · simp [h4]
theorem nI_m15 {a : Nat} (h : a < 2 ^ 31) : nI a &&& (-15) = nI (a / 16 * 16 + a % 2) := by
  apply Int32.toBitVec.inj
  show (BitVec.ofNat 32 a) &&& (-15 : Int32).toBitVec = BitVec.ofNat 32 (a / 16 * 16 + a % 2)
  apply BitVec.eq_of_getLsbD_eq
  intro i hi
  rw [BitVec.getLsbD_and, BitVec.getLsbD_ofNat, BitVec.getLsbD_ofNat]
  have e : ((-15 : Int32).toBitVec).getLsbD i = (decide (4 ≤ i) || decide (i = 0)) := by
    have : ∀ j : Fin 32, ((-15 : Int32).toBitVec).getLsbD j.val = (decide (4 ≤ j.val) || decide (j.val = 0)) := by decide
    exact this ⟨i, hi⟩
  have e2 : a / 16 * 16 + a % 2 = (a >>> 4) <<< 4 ||| a % 2 := by
    rw [Nat.shiftRight_eq_div_pow, ← Nat.shiftLeft_add_eq_or_of_lt (by omega : a % 2 < 2 ^ 4), Nat.shiftLeft_eq]
  rw [e, e2, Nat.testBit_or, Nat.testBit_shiftLeft, Nat.testBit_shiftRight, show a % 2 = a % 2 ^ 1 by rfl, Nat.testBit_mod_two_pow]
  by_cases h4 : 4 ≤ i
  · simp [h4, show 4 + (i - 4) = i by omega, hi, show ¬ i < 1 by omega]
  · by_cases h0 : i = 0
    · subst h0; simp
    · simp [h4, h0, show ¬ i < 1 by omega]
