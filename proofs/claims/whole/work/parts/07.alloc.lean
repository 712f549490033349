def up1 {α : Type} (f : Nat → α) (a : Nat) (v : α) : Nat → α := fun x => if x = a then v else f x
theorem up1_same {α : Type} (f : Nat → α) (a : Nat) (v : α) : up1 f a v a = v := by simp [up1]
theorem up1_ne {α : Type} (f : Nat → α) {a x : Nat} (v : α) (h : x ≠ a) : up1 f a v x = f x := by simp [up1, h]
theorem ce_same {AC : Nat → ClassId} {sh sh' : SH} {mi mi' : MI} {mr mr' : MR} {x : Nat} (h0 : sh' x = sh x) (h1 : mi' x = mi x) (h2 : mr' x = mr x) : ce AC sh' mi' mr' x = ce AC sh mi mr x := by
  unfold ce fsl fvl; rw [h0, h1, h2]
theorem Rel.push {D : va_G} {AC : Nat → ClassId} {base z : Nat} {sh : SH} {mi : MI} {mr : MR} {H H1 : Heap} {q : Nat × Nat} {fi : Nat → Int32} {fr : Nat → Option Nat} (hR : Rel D AC base z sh mi mr H) (hz : H1.size = z + 1) (ho : ∀ x, x < z → H1[x]? = H[x]?) (hn : va_at D vwCl (z, ce AC (up1 sh z q) (up1 mi z fi) (up1 mr z fr) z) H1) : Rel D AC base (z + 1) (up1 sh z q) (up1 mi z fi) (up1 mr z fr) H1 := by
  refine ⟨Nat.le_succ_of_le hR.1, hz, fun a ha => ?_, fun k x hk => ?_⟩
  · by_cases h : a = z
    · subst h; exact ⟨hR.1, by omega⟩
    · rw [up1_ne _ _ h] at ha
      have := hR.2.2.1 a ha
      exact ⟨this.1, by omega⟩
  · unfold wl at hk
    rw [List.getElem?_map] at hk
    by_cases hl : k < z + 1 - base
    · rw [List.getElem?_range hl] at hk
      simp only [Option.map_some, Option.some.injEq] at hk
      subst hk
      by_cases h : base + k = z
      · show va_at D vwCl (base + k, ce AC _ _ _ (base + k)) H1
        rw [h]; exact hn
      · have hlt : base + k < z := by have := hR.1; omega
        have hold := hR.2.2.2 k (base + k, ce AC sh mi mr (base + k)) (by
          have := wl_get (AC := AC) (sh := sh) (mi := mi) (mr := mr) (base := base) (z := z) (a := base + k) ⟨by omega, hlt⟩
          rw [show base + k - base = k by omega] at this
          exact this)
        show va_at D vwCl (base + k, ce AC _ _ _ (base + k)) H1
        rw [ce_same (up1_ne _ _ h) (up1_ne _ _ h) (up1_ne _ _ h)]
        exact hold.kept (ho _ hlt)
    · rw [List.getElem?_eq_none (by simp; omega)] at hk
      cases hk
theorem va_S.grow {A : Nat → Prop} {H0 H H1 : Heap} {locs : List Loc} {z : Nat} (hS : va_S A H0 H locs) (h0 : H.size = z) (hz : H1.size = z + 1) (ho : ∀ x, x < z → H1[x]? = H[x]?) : va_S A H0 H1 locs := ⟨by have := hS.1; omega, fun q h1 h2 => by rw [ho q (by have := hS.1; omega)]; exact hS.2.1 q h1 h2, hS.2.2⟩
section RULES4
variable {y : MethodName} {cc : ByteArray} {nL : Nat} {ret : Option FieldType} {E : ET} {kc ks pc : Nat} {ls st : List Value} {z : Nat} {sh : SH} {mi : MI} {mr : MR}
theorem r_new {idx κ : Nat} {Cn : String} {T : u_T} {N : Nat} (d : decode cc pc = .ok (.new idx, 3)) (hc : CK κ Cn T N) (h1 : Cond.classLink y.cls idx Cn ∈ tb) (h2 : Cond.instantiable Cn N ∈ tb) (h3 : Cond.initialized Cn ∈ tb) (hdv : ∀ j, j < N → defaultValue (tyf κ j) = if isRt (tyf κ j) = true then .null else .int 0) (hr : kc + 1 ≤ E.1.cells ∧ ks + N ≤ E.1.slots) (k : Wp y cc nL ret E (kc + 1) (ks + N) (pc + 3) ls (.ref z :: st) (z + 1) (up1 sh z (κ, 0)) (up1 mi z (fun _ => 0)) (up1 mr z (fun _ => none))) : Wp y cc nL ret E kc ks pc ls st z sh mi mr := by
  intro p l e s m args below meth c D AC base C X H locs la hR hS hL
  have hts := C.2.2.2.2.2.2.1
  obtain ⟨c1, c2, c3, c4, c5, c6⟩ := hc
  have hKn := C.2.2.2.2.2.2.2.1.1.1 κ _ c1
  refine W.newcK C.1 C.2.1 C.2.2.2.2.2.1 (hts _ h1) (hts _ h2) (hts _ h3) rfl d hr.1 hr.2 hKn.2.1 hR.2.1 fun H1 kC hkC e1 z1 o1 => ?_
  refine k _ _ _ _ _ _ _ _ _ _ _ _ C X _ _ _ (hR.push z1 o1 ?_) (hS.grow hR.2.1 z1 o1) hL
  rw [ce_obj (κ := κ) (by rw [up1_same]) c6]
  refine ⟨_, c1, (u_born (tyf κ) hts c2 hKn hkC e1 c3).to fun j hj => ?_⟩
  show defaultValue (tyf κ j) = vp_V (fsl _ _ _ _) j
  unfold vp_V
  rw [List.getD_eq_getElem?_getD, fsl_get (c5 ▸ hj)]
  show defaultValue (tyf κ j) = fvl _ _ _ _ _
  unfold fvl
  rw [up1_same, up1_same]
  exact hdv j hj
theorem r_newarr {atype : ArrayType} {κ n : Nat} {ty : FieldType} (d : decode cc pc = .ok (.newarray atype, 2)) (hty : newarray.typeOf atype = ty) (hκ : (κ = 11 ∧ ty = .int) ∨ (κ = 12 ∧ ty = .boolean)) (h1 : Cond.arrayClass ty ∈ tb) (hn : n < 2 ^ 20) (hr : kc + 1 ≤ E.1.cells ∧ ks + n ≤ E.1.slots) (k : Wp y cc nL ret E (kc + 1) (ks + n) (pc + 2) ls (.ref z :: st) (z + 1) (up1 sh z (κ, n)) (up1 mi z (fun _ => 0)) (up1 mr z (fun _ => none))) : Wp y cc nL ret E kc ks pc ls (.int (nI n) :: st) z sh mi mr := by
  intro p l e s m args below meth c D AC base C X H locs la hR hS hL
  have hts := C.2.2.2.2.2.2.1
  subst hty
  have hcl : (nI n).toNatClampNeg = n := nI_clamp (by omega)
  refine va_newaK C.1 C.2.1 (hts _ h1) rfl d rfl (nI_pos (by omega)) hcl ?_ hr.1 hr.2 hR.2.1 fun H1 cA e1 z1 o1 hAr hNm => ?_
  · rcases hκ with ⟨-, h⟩ | ⟨-, h⟩ <;> rw [h] <;> simp [componentBytes] <;> omega
  refine k _ _ _ _ _ _ _ _ _ _ _ _ C X _ _ _ (hR.push z1 o1 ?_) (hS.grow hR.2.1 z1 o1) hL
  rcases hκ with ⟨hκ, h⟩ | ⟨hκ, h⟩
  · subst hκ
    rw [h] at e1 hNm
    have hA : cA = AC 0 := by
      have h2 : s.vm.findClass ("[" ++ FieldType.int.toString) = some (AC 0) := (va_K_at C.2.2.2.2.2.2.2.1.1 (k := 0) rfl).2
      exact Option.some.inj (hNm.symm.trans h2)
    rw [ce_int (n := n) (by rw [up1_same]), up1_same]
    show H1[z]? = some (vp_cell _ _)
    rw [e1, hA, vp_cell_i]; rfl
  · subst hκ
    rw [h] at e1 hNm
    have hA : cA = AC 1 := by
      have h2 : s.vm.findClass ("[" ++ FieldType.boolean.toString) = some (AC 1) := (va_K_at C.2.2.2.2.2.2.2.1.1 (k := 1) rfl).2
      exact Option.some.inj (hNm.symm.trans h2)
    rw [ce_bool (n := n) (by rw [up1_same]), up1_same]
    show H1[z]? = some (vp_cell _ _)
    rw [e1, hA, vp_cell_i]; rfl
theorem r_anew {idx κ n : Nat} {Cn : String} (d : decode cc pc = .ok (.anewarray idx, 3)) (hκ : 13 ≤ κ) (ht : ∀ AC : Nat → ClassId, (tyL AC)[κ - 11]? = some (AC (κ - 11), .object Cn)) (h1 : Cond.classLink y.cls idx Cn ∈ tb) (h2 : ∀ U, NW U → va_AO Cn U) (hn : n < 2 ^ 20) (hr : kc + 1 ≤ E.1.cells ∧ ks + n ≤ E.1.slots) (k : Wp y cc nL ret E (kc + 1) (ks + n) (pc + 3) ls (.ref z :: st) (z + 1) (up1 sh z (κ, n)) (up1 mi z (fun _ => 0)) (up1 mr z (fun _ => none))) : Wp y cc nL ret E kc ks pc ls (.int (nI n) :: st) z sh mi mr := by
  intro p l e s m args below meth c D AC base C X H locs la hR hS hL
  have hts := C.2.2.2.2.2.2.1
  have hcl : (nI n).toNatClampNeg = n := nI_clamp (by omega)
  refine W.anew C.1 C.2.1 C.2.2.2.2.2.1 (hts _ h1) (va_AO.use (h2 s C.2.2.2.2.2.2.2.1.2)) rfl d rfl (nI_pos (by omega)) (by rw [hcl]; omega) hr.1 (by rw [hcl]; exact hr.2) fun cA kA comp g1 g2 g3 g4 => ?_
  obtain ⟨kB, comp2, k1, k2, k3, k4⟩ := (va_K_at C.2.2.2.2.2.2.2.1.1 (ht AC)).2
  have hA : cA = AC (κ - 11) := Option.some.inj (g1.symm.trans k4)
  have hsz := hR.2.1
  rw [hcl]
  have z1 : (H.push { cls := cA, slots := Array.replicate n Value.null, vm := .none }).size = z + 1 := by simp [hsz]
  have o1 : ∀ x, x < z → (H.push { cls := cA, slots := Array.replicate n Value.null, vm := .none })[x]? = H[x]? := fun x hx => by rw [Array.getElem?_push, if_neg (by omega)]
  rw [hsz]
  refine k _ _ _ _ _ _ _ _ _ _ _ _ C X _ _ _ (hR.push z1 o1 ?_) (hS.grow hsz z1 o1) hL
  rw [ce_ref (κ := κ) (n := n) (by rw [up1_same]) hκ, up1_same]
  show (H.push _)[z]? = some (vp_cell _ _)
  rw [arrV_new, vp_cell_q, ← hA, ← hsz]
  simp [va_rf]
theorem r_ifnonnullR {x : Nat} {off : Int} (tgt : Nat) (d : decode cc pc = .ok (.ifnonnull off, 3)) (ht : (pc : Int) + off = (tgt : Int)) (k : Wp y cc nL ret E kc ks tgt ls st z sh mi mr) : Wp y cc nL ret E kc ks pc ls (.ref x :: st) z sh mi mr := by
  intro p l e s m args below meth c D AC base C X H locs la hR hS hL
  exact lv_ifnonnull C.1 C.2.1 d ht (k _ _ _ _ _ _ _ _ _ _ _ _ C X _ _ _ hR hS hL)
theorem r_ifnonnullN {off : Int} (d : decode cc pc = .ok (.ifnonnull off, 3)) (k : Wp y cc nL ret E kc ks (pc + 3) ls st z sh mi mr) : Wp y cc nL ret E kc ks pc ls (.null :: st) z sh mi mr := by
  intro p l e s m args below meth c D AC base C X H locs la hR hS hL
  exact lv_ifnonnullN C.1 C.2.1 d (k _ _ _ _ _ _ _ _ _ _ _ _ C X _ _ _ hR hS hL)
theorem r_ifnullR {x : Nat} {off : Int} (d : decode cc pc = .ok (.ifnull off, 3)) (k : Wp y cc nL ret E kc ks (pc + 3) ls st z sh mi mr) : Wp y cc nL ret E kc ks pc ls (.ref x :: st) z sh mi mr := by
  intro p l e s m args below meth c D AC base C X H locs la hR hS hL
  exact lv_ifnull C.1 C.2.1 d (k _ _ _ _ _ _ _ _ _ _ _ _ C X _ _ _ hR hS hL)
theorem r_ifnullN {off : Int} (tgt : Nat) (d : decode cc pc = .ok (.ifnull off, 3)) (ht : (pc : Int) + off = (tgt : Int)) (k : Wp y cc nL ret E kc ks tgt ls st z sh mi mr) : Wp y cc nL ret E kc ks pc ls (.null :: st) z sh mi mr := by
  intro p l e s m args below meth c D AC base C X H locs la hR hS hL
  exact lv_ifnullN C.1 C.2.1 d ht (k _ _ _ _ _ _ _ _ _ _ _ _ C X _ _ _ hR hS hL)
theorem r_tableIn {dflt lo hi : Int} {offs : Array Int} {len : Nat} {x : Int32} {off : Int} (tgt : Nat) (d : decode cc pc = .ok (.tableswitch dflt lo hi offs, len)) (h1 : ¬ x.toInt < lo) (h2 : ¬ hi < x.toInt) (ho : offs[(x.toInt - lo).toNat]? = some off) (ht : (pc : Int) + off = (tgt : Int)) (k : Wp y cc nL ret E kc ks tgt ls st z sh mi mr) : Wp y cc nL ret E kc ks pc ls (.int x :: st) z sh mi mr := by
  intro p l e s m args below meth c D AC base C X H locs la hR hS hL
  exact lv_tableIn C.1 C.2.1 d h1 h2 ho ht (k _ _ _ _ _ _ _ _ _ _ _ _ C X _ _ _ hR hS hL)
theorem r_tableOut {dflt lo hi : Int} {offs : Array Int} {len : Nat} {x : Int32} (tgt : Nat) (d : decode cc pc = .ok (.tableswitch dflt lo hi offs, len)) (h : x.toInt < lo ∨ hi < x.toInt) (ht : (pc : Int) + dflt = (tgt : Int)) (k : Wp y cc nL ret E kc ks tgt ls st z sh mi mr) : Wp y cc nL ret E kc ks pc ls (.int x :: st) z sh mi mr := by
  intro p l e s m args below meth c D AC base C X H locs la hR hS hL
  exact lv_tableOut C.1 C.2.1 d h ht (k _ _ _ _ _ _ _ _ _ _ _ _ C X _ _ _ hR hS hL)
end RULES4
