def cpRow (mi : MI) (a0 a n : Nat) : MI := fun x => if x = a then (fun j => if j < n then mi a0 j else mi a j) else mi x
theorem r_acopy {y : MethodName} {cc : ByteArray} {nL : Nat} {ret : Option FieldType} {E : ET} {kc ks pc : Nat} {ls st : List Value} {z : Nat} {sh : SH} {mi : MI} {mr : MR} {idx a0 a n : Nat} (d : decode cc pc = .ok (.invokestatic idx, 3)) (g1 : Cond.methodLink y.cls idx arraycopyName ∈ tb) (g2 : Cond.native arraycopyName ∈ tb) (g3 : Cond.static arraycopyName ∈ tb) (g4 : Cond.initialized "java/lang/System" ∈ tb) (hs0 : sh a0 = (11, n)) (hs : sh a = (11, n)) (hn : n < 2 ^ 31) (hr : 1 ≤ E.1.frames ∧ (st.map fun v => v.category).sum + 18 ≤ E.1.locals) (kk : Wp y cc nL ret E kc ks (pc + 3) ls st z sh (cpRow mi a0 a n) mr) : Wp y cc nL ret E kc ks pc ls (.int (nI n) :: .int 0 :: .ref a :: .int 0 :: .ref a0 :: st) z sh mi mr := by
  intro p l e s m args below meth c D AC base C X0 H locs la hR hS hL
  have hts := C.2.2.2.2.2.2.1
  have hb := hR.lt hs (by omega)
  have hb0 := hR.lt hs0 (by omega)
  have he := wl_get (AC := AC) (sh := sh) (mi := mi) (mr := mr) hb
  rw [ce_int hs] at he
  have he0 := wl_get (AC := AC) (sh := sh) (mi := mi) (mr := mr) hb0
  rw [ce_int hs0] at he0
  intro T hT X
  have hc0 : H[a0]? = some (vp_cell (AC 0) (n, .inl (mi a0))) := hR.2.2.2 (a0 - base) _ he0
  have hc1 : H[a]? = some (vp_cell (AC 0) (n, .inl (mi a))) := hR.2.2.2 (a - base) _ he
  have hKA := va_K_at C.2.2.2.2.2.2.2.1.1 (k := 0) rfl
  obtain ⟨-, k0, hk0, cm0, hkk0⟩ := hKA.1 n (fun j => .int (mi a0 j))
  obtain ⟨-, k1, hk1, cm1, hkk1⟩ := hKA.1 n (fun j => .int (mi a j))
  have hcl : (nI n).toNatClampNeg = n := nI_clamp hn
  have hti : (nI n).toInt = (n : Int) := nI_toInt hn
  have hnf : nativeFrameWords "java/lang/System" "arraycopy" 5 = 7 := by decide
  have h0c : (0 : Int32).toNatClampNeg = 0 := rfl
  obtain ⟨vm', X', step⟩ := X.arraycopy C.1 C.2.2.2.2.2.1 (hts _ g1) (hts _ g2) (hts _ g3) (hts _ g4) (src := a0) (dst := a) (cs := vp_cell (AC 0) (n, .inl (mi a0))) (cd := vp_cell (AC 0) (n, .inl (mi a))) (srcPos := 0) (destPos := 0) (n := nI n) (by rw [hT]; exact hc0) (by rw [hT]; exact hc1)
    (fun _ h => by cases h) (fun _ h => by cases h) (fun h => by cases h) (fun h => by cases h) hk0 hk1 hkk0 hkk1 (by simp [refKind]) (by decide) (by decide) (nI_pos hn)
    (by rw [hti]; show ¬ (0 : Int) + _ > ((arrV (AC 0) n (fun j => .int (mi a0 j))).slots.size : Int); rw [arrV_size]; omega)
    (by rw [hti]; show ¬ (0 : Int) + _ > ((arrV (AC 0) n (fun j => .int (mi a j))).slots.size : Int); rw [arrV_size]; omega)
    (fun vm₁ _ i hi => by
      rw [hcl] at hi
      have e : (vp_cell (AC 0) (n, .inl (mi a0))).slots.getD ((0 : Int32).toNatClampNeg + i) .null = .int (mi a0 i) := by
        show (arrV (AC 0) n (fun j => .int (mi a0 j))).slots.getD _ _ = _
        rw [Array.getD_eq_getD_getElem?, h0c, Nat.zero_add, arrV_read _ _ hi]
        rfl
      refine ⟨?_, ?_⟩
      · rw [e]; rfl
      · rw [e]; exact trivial)
    (g := F0 m pc la (.int (nI n) :: .int 0 :: .ref a :: .int 0 :: .ref a0 :: st)) rfl (by rw [C.2.2.1]; exact hL.1) (rest := st) rfl (by rw [C.2.1]; exact d) hr.1 (by rw [hnf]; show 2 * 0 + _ + (7 + 11) ≤ _; omega)
  have e1 : copied (vp_cell (AC 0) (n, .inl (mi a0))) (vp_cell (AC 0) (n, .inl (mi a))) 0 0 (nI n) = vp_cell (AC 0) (n, .inl (va_cpy (mi a0) (mi a) 0 0 n)) := by
    have := va_copied (fun z => .int z) (AC 0) (AC 0) (n1 := n) (sp := 0) (dp := 0) (n := n) (n0 := n) (mi a0) (mi a) (by omega)
    unfold copied
    rw [hcl]
    exact this
  rw [e1] at X' step
  have hl : a < H.size := (Array.getElem?_eq_some_iff.mp hc1).1
  have hheap : ((T.setVm vm').setCell a (vp_cell (AC 0) (n, .inl (va_cpy (mi a0) (mi a) 0 0 n)))).heap = H.setIfInBounds a (vp_cell (AC 0) (n, .inl (va_cpy (mi a0) (mi a) 0 0 n))) := by rw [← hT]; rfl
  have oq : ∀ q : Nat, q ≠ a → (H.setIfInBounds a (vp_cell (AC 0) (n, .inl (va_cpy (mi a0) (mi a) 0 0 n))))[q]? = H[q]? := fun q hq => by simp [Array.getElem?_setIfInBounds, Ne.symm hq]
  have hP' := hR.2.2.2.set (e := .inl (AC 0, n, .inl (va_cpy (mi a0) (mi a) 0 0 n))) wl_D he (show (H.setIfInBounds a _)[a]? = some _ by simp [Array.getElem?_setIfInBounds, hl]) oq
  have e4 := wl_arrI (AC := AC) (mi := mi) (mr := mr) (f := va_cpy (mi a0) (mi a) 0 0 n) hs (by omega) hb
  simp only [Nat.sub_self] at e4
  rw [e4] at hP'
  have e5 : (fun x => if x = a then va_cpy (mi a0) (mi a) 0 0 n else mi x) = cpRow mi a0 a n := by
    funext x
    unfold cpRow
    by_cases hx : x = a
    · rw [if_pos hx, if_pos hx]
      funext j
      simp [va_cpy]
    · rw [if_neg hx, if_neg hx]
  rw [e5] at hP'
  obtain ⟨t, a1, b1⟩ := kk p l e s m args below meth c D AC base C X0 _ _ la (hR.put (by simp) hP') ⟨by simp; exact hS.1, fun q g1 g2 => by
      rw [oq q (fun e => g2 (by rw [e]; exact hb.1))]
      exact hS.2.1 q g1 g2, fun q hq => by
      rcases List.mem_append.mp hq with h | h
      · exact hS.2.2 q h
      · obtain ⟨z, -, hz⟩ := List.mem_map.mp h
        rw [← hz]
        exact hb.1⟩ hL _ hheap X'
  exact ⟨t, step t a1, b1⟩
