def b2 (c : Bool) : Int32 := if c = true then 1 else 0
theorem b2_nar (c : Bool) : narrow .boolean (.int (b2 c)) = .int (b2 c) := by cases c <;> decide
theorem b2_fit (c : Bool) : fits .boolean (.int (b2 c)) = true := by cases c <;> rfl
theorem b2_t : b2 true = 1 := rfl
theorem b2_f : b2 false = 0 := rfl
theorem nI_zero : (0 : Int32) = nI 0 := rfl
def Pm (z : Nat) (sh : SH) (mr : MR) (P : Option Value → MI → Prop) : PT := fun v z' sh' mi' mr' => z' = z ∧ sh' = sh ∧ mr' = mr ∧ P v mi'
/-- a method that makes nothing and writes ints alone -/
def Mi (M : MD) (d : Nat) (avs : List Value) (z : Nat) (sh : SH) (mi : MI) (mr : MR) (P : Option Value → MI → Prop) : Prop := Mv M d 0 0 avs z sh mi mr (Pm z sh mr P)
/-- a method that only reads, and answers an int -/
def Mp (M : MD) (d : Nat) (avs : List Value) (z : Nat) (sh : SH) (mi : MI) (mr : MR) (r : Int32) : Prop := Mi M d avs z sh mi mr (fun v mi' => v = some (.int r) ∧ mi' = mi)
section RULES5
variable {y : MethodName} {cc : ByteArray} {nL : Nat} {ret : Option FieldType} {E : ET} {kc ks pc : Nat} {ls st : List Value} {z : Nat} {sh : SH} {mi : MI} {mr : MR}
theorem r_ifN_eq {a : Nat} {off : Int} (tgt : Nat) (d : decode cc pc = .ok (.ifCond .eq off, 3)) (ht : (pc : Int) + off = (tgt : Int)) (ha : a < 2 ^ 31) (kt : a = 0 → Wp y cc nL ret E kc ks tgt ls st z sh mi mr) (kf : a ≠ 0 → Wp y cc nL ret E kc ks (pc + 3) ls st z sh mi mr) : Wp y cc nL ret E kc ks pc ls (.int (nI a) :: st) z sh mi mr := by
  refine r_if_eq tgt d ht (fun h => kt ?_) (fun h => kf (fun e => h (by rw [e]; rfl)))
  rw [nI_zero] at h
  exact (nI_eq ha (by omega)).mp h
theorem r_ifN_ne {a : Nat} {off : Int} (tgt : Nat) (d : decode cc pc = .ok (.ifCond .ne off, 3)) (ht : (pc : Int) + off = (tgt : Int)) (ha : a < 2 ^ 31) (kt : a ≠ 0 → Wp y cc nL ret E kc ks tgt ls st z sh mi mr) (kf : a = 0 → Wp y cc nL ret E kc ks (pc + 3) ls st z sh mi mr) : Wp y cc nL ret E kc ks pc ls (.int (nI a) :: st) z sh mi mr := by
  refine r_if_ne tgt d ht (fun h => kt (fun e => h (by rw [e]; rfl))) (fun h => kf ?_)
  rw [nI_zero] at h
  exact (nI_eq ha (by omega)).mp h
theorem r_ifN_le {a : Nat} {off : Int} (tgt : Nat) (d : decode cc pc = .ok (.ifCond .le off, 3)) (ht : (pc : Int) + off = (tgt : Int)) (ha : a < 2 ^ 31) (kt : a = 0 → Wp y cc nL ret E kc ks tgt ls st z sh mi mr) (kf : 0 < a → Wp y cc nL ret E kc ks (pc + 3) ls st z sh mi mr) : Wp y cc nL ret E kc ks pc ls (.int (nI a) :: st) z sh mi mr := by
  refine r_if_le tgt d ht (fun h => kt ?_) (fun h => kf ?_)
  · rw [nI_zero] at h
    have := (nI_leI ha (by omega)).mp h
    omega
  · rw [nI_zero] at h
    have : ¬ a ≤ 0 := fun e => h ((nI_leI ha (by omega)).mpr e)
    omega
theorem r_ifN_lt {a : Nat} {off : Int} (tgt : Nat) (d : decode cc pc = .ok (.ifCond .lt off, 3)) (ht : (pc : Int) + off = (tgt : Int)) (ha : a < 2 ^ 31) (kf : Wp y cc nL ret E kc ks (pc + 3) ls st z sh mi mr) : Wp y cc nL ret E kc ks pc ls (.int (nI a) :: st) z sh mi mr := r_if_lt tgt d ht (fun h => absurd h (nI_pos ha)) (fun _ => kf)
theorem r_ifN_ge {a : Nat} {off : Int} (tgt : Nat) (d : decode cc pc = .ok (.ifCond .ge off, 3)) (ht : (pc : Int) + off = (tgt : Int)) (ha : a < 2 ^ 31) (kt : Wp y cc nL ret E kc ks tgt ls st z sh mi mr) : Wp y cc nL ret E kc ks pc ls (.int (nI a) :: st) z sh mi mr := r_if_ge tgt d ht (fun _ => kt) (fun h => absurd (nI_pos' ha) h)
theorem r_ifB_eq {b : Bool} {off : Int} (tgt : Nat) (d : decode cc pc = .ok (.ifCond .eq off, 3)) (ht : (pc : Int) + off = (tgt : Int)) (kt : b = false → Wp y cc nL ret E kc ks tgt ls st z sh mi mr) (kf : b = true → Wp y cc nL ret E kc ks (pc + 3) ls st z sh mi mr) : Wp y cc nL ret E kc ks pc ls (.int (b2 b) :: st) z sh mi mr := by
  refine r_if_eq tgt d ht (fun h => kt ?_) (fun h => kf ?_) <;> cases b
  · rfl
  · exact absurd h (by decide)
  · exact absurd rfl h
  · rfl
theorem r_ifB_ne {b : Bool} {off : Int} (tgt : Nat) (d : decode cc pc = .ok (.ifCond .ne off, 3)) (ht : (pc : Int) + off = (tgt : Int)) (kt : b = true → Wp y cc nL ret E kc ks tgt ls st z sh mi mr) (kf : b = false → Wp y cc nL ret E kc ks (pc + 3) ls st z sh mi mr) : Wp y cc nL ret E kc ks pc ls (.int (b2 b) :: st) z sh mi mr := by
  refine r_if_ne tgt d ht (fun h => kt ?_) (fun h => kf ?_) <;> cases b
  · exact absurd rfl h
  · rfl
  · rfl
  · exact absurd h (by decide)
theorem r_callVi {M : MD} {idx b κ n nA d' : Nat} (As : List Value) {P : Option Value → MI → Prop} {st0 : List Value} (d : decode cc pc = .ok (.invokevirtual idx, 3)) (ok : okC y.cls idx M nA) (hi : Cond.instanceMethod M.1 ∈ tb ∧ Cond.selects M.1.cls M.1 M.1 ∈ tb) (hs : sh b = (κ, n)) (hκ : ∃ T N, vwCl[κ]? = some (M.1.cls, T, N)) (hst : st0 = As.reverse ++ .ref b :: st) (hn : As.length = nA) (hcat : (st.map fun v => v.category).sum ≤ 8) (hroom : roomOk E.1 kc ks d' 0 0 M.2.2.1)
    (hM : Mi M d' (.ref b :: As) z sh mi mr P) (k : ∀ v mi', P v mi' → Wp y cc nL ret E kc ks (pc + 3) ls (v.toList ++ st) z sh mi' mr) : Wp y cc nL ret E kc ks pc ls st0 z sh mi mr :=
  r_callV As d ok hi hs hκ hst hn hcat hroom hM (fun v z' sh' mi' mr' h => by obtain ⟨rfl, rfl, rfl, h⟩ := h; exact k v mi' h)
theorem r_callSi {M : MD} {idx nA d' : Nat} (As : List Value) {P : Option Value → MI → Prop} {st0 : List Value} (d : decode cc pc = .ok (.invokestatic idx, 3)) (ok : okC y.cls idx M nA) (hi : Cond.static M.1 ∈ tb) (hst : st0 = As.reverse ++ st) (hn : As.length = nA) (hcat : (st.map fun v => v.category).sum ≤ 8) (hroom : roomOk E.1 kc ks d' 0 0 M.2.2.1)
    (hM : Mi M d' As z sh mi mr P) (k : ∀ v mi', P v mi' → Wp y cc nL ret E kc ks (pc + 3) ls (v.toList ++ st) z sh mi' mr) : Wp y cc nL ret E kc ks pc ls st0 z sh mi mr :=
  r_callS As d ok hi hst hn hcat hroom hM (fun v z' sh' mi' mr' h => by obtain ⟨rfl, rfl, rfl, h⟩ := h; exact k v mi' h)
theorem r_callSNi {M : MD} {idx nA d' : Nat} (As : List Value) {P : Option Value → MI → Prop} {st0 : List Value} (d : decode cc pc = .ok (.invokestatic idx, 3)) (ok : okN y.cls idx M nA) (hi : Cond.static M.1 ∈ tb) (hst : st0 = As.reverse ++ st) (hn : As.length = nA) (hcat : (st.map fun v => v.category).sum ≤ 8) (hroom : roomOk E.1 kc ks d' 0 0 M.2.2.1)
    (hM : Mi M d' As z sh mi mr P) (k : ∀ v mi', P v mi' → Wp y cc nL ret E kc ks (pc + 3) ls (v.toList ++ st) z sh mi' mr) : Wp y cc nL ret E kc ks pc ls st0 z sh mi mr :=
  r_callSN As d ok hi hst hn hcat hroom hM (fun v z' sh' mi' mr' h => by obtain ⟨rfl, rfl, rfl, h⟩ := h; exact k v mi' h)
theorem r_callVp {M : MD} {idx b κ n nA d' : Nat} (As : List Value) {r : Int32} {st0 : List Value} (d : decode cc pc = .ok (.invokevirtual idx, 3)) (ok : okC y.cls idx M nA) (hi : Cond.instanceMethod M.1 ∈ tb ∧ Cond.selects M.1.cls M.1 M.1 ∈ tb) (hs : sh b = (κ, n)) (hκ : ∃ T N, vwCl[κ]? = some (M.1.cls, T, N)) (hst : st0 = As.reverse ++ .ref b :: st) (hn : As.length = nA) (hcat : (st.map fun v => v.category).sum ≤ 8) (hroom : roomOk E.1 kc ks d' 0 0 M.2.2.1)
    (hM : Mp M d' (.ref b :: As) z sh mi mr r) (k : Wp y cc nL ret E kc ks (pc + 3) ls (.int r :: st) z sh mi mr) : Wp y cc nL ret E kc ks pc ls st0 z sh mi mr :=
  r_callVi As d ok hi hs hκ hst hn hcat hroom hM (fun v mi' h => by obtain ⟨rfl, rfl⟩ := h; exact k)
theorem r_callSp {M : MD} {idx nA d' : Nat} (As : List Value) {r : Int32} {st0 : List Value} (d : decode cc pc = .ok (.invokestatic idx, 3)) (ok : okC y.cls idx M nA) (hi : Cond.static M.1 ∈ tb) (hst : st0 = As.reverse ++ st) (hn : As.length = nA) (hcat : (st.map fun v => v.category).sum ≤ 8) (hroom : roomOk E.1 kc ks d' 0 0 M.2.2.1)
    (hM : Mp M d' As z sh mi mr r) (k : Wp y cc nL ret E kc ks (pc + 3) ls (.int r :: st) z sh mi mr) : Wp y cc nL ret E kc ks pc ls st0 z sh mi mr :=
  r_callSi As d ok hi hst hn hcat hroom hM (fun v mi' h => by obtain ⟨rfl, rfl⟩ := h; exact k)
theorem r_callSNp {M : MD} {idx nA d' : Nat} (As : List Value) {r : Int32} {st0 : List Value} (d : decode cc pc = .ok (.invokestatic idx, 3)) (ok : okN y.cls idx M nA) (hi : Cond.static M.1 ∈ tb) (hst : st0 = As.reverse ++ st) (hn : As.length = nA) (hcat : (st.map fun v => v.category).sum ≤ 8) (hroom : roomOk E.1 kc ks d' 0 0 M.2.2.1)
    (hM : Mp M d' As z sh mi mr r) (k : Wp y cc nL ret E kc ks (pc + 3) ls (.int r :: st) z sh mi mr) : Wp y cc nL ret E kc ks pc ls st0 z sh mi mr :=
  r_callSNi As d ok hi hst hn hcat hroom hM (fun v mi' h => by obtain ⟨rfl, rfl⟩ := h; exact k)
theorem Mp.of {M : MD} {d : Nat} {avs : List Value} {r r' : Int32} (h : Mp M d avs z sh mi mr r) (e : r = r') : Mp M d avs z sh mi mr r' := e ▸ h
end RULES5
