def FL (own : String) (idx κ k : Nat) (fin : Bool) : Prop := ∃ (C : String) (T : u_T) (N : Nat), CK κ C T N ∧ k < N ∧ Cond.fieldLink own idx C (T k).2.1 (T k).2.2.1 ∈ tb ∧ (T k).2.2.2 = fin ∧ (T k).1 = C
theorem wl_D {AC : Nat → ClassId} {base z : Nat} {sh : SH} {mi : MI} {mr : MR} : va_D (fun q => base ≤ q) (wl AC base z sh mi mr) := by
  have key : ∀ (i : Nat) (q : Nat × va_E), (wl AC base z sh mi mr)[i]? = some q → q.1 = base + i := by
    intro i q h
    unfold wl at h
    rw [List.getElem?_map] at h
    by_cases hl : i < z - base
    · rw [List.getElem?_range hl] at h
      simp only [Option.map_some, Option.some.injEq] at h
      rw [← h]
    · rw [List.getElem?_eq_none (by simp; omega)] at h
      cases h
  refine ⟨fun i j p q hp hq h => ?_, fun k q hk => ?_⟩
  · have h1 := key i p hp
    have h2 := key j q hq
    omega
  · have h1 := key k q hk
    show base ≤ q.1
    omega
theorem wl_putI {AC : Nat → ClassId} {base z : Nat} {sh : SH} {mi : MI} {mr : MR} {a κ n k : Nat} {x : Int32} (hs : sh a = (κ, n)) (hκ : κ < 11) (h : base ≤ a ∧ a < z) (ht : isRt (tyf κ k) = false) : (wl AC base z sh mi mr).set (a - base) (a, .inr (κ, (fsl mi mr a κ).set k (.int x))) = wl AC base z sh (up2 mi a k x) mr := by
  rw [← wl_set (mi := mi) (mr := mr) h (fun x hx => ce_kept (up2_row _ _ hx) rfl), ce_obj (by rw [hs]) hκ, ← fsl_set (mi := mi) (mr := mr) (k := k) (fun j hj => ⟨up2_ne _ _ (Or.inr hj), rfl⟩)]
  simp [fvl, ht, up2_same]
theorem wl_putR {AC : Nat → ClassId} {base z : Nat} {sh : SH} {mi : MI} {mr : MR} {a κ n k b : Nat} (hs : sh a = (κ, n)) (hκ : κ < 11) (h : base ≤ a ∧ a < z) (ht : isRt (tyf κ k) = true) : (wl AC base z sh mi mr).set (a - base) (a, .inr (κ, (fsl mi mr a κ).set k (.ref b))) = wl AC base z sh mi (up2 mr a k (some b)) := by
  rw [← wl_set (mi := mi) (mr := mr) h (fun x hx => ce_kept rfl (up2_row _ _ hx)), ce_obj (by rw [hs]) hκ, ← fsl_set (mi := mi) (mr := mr) (k := k) (fun j hj => ⟨rfl, up2_ne _ _ (Or.inr hj)⟩)]
  simp [fvl, ht, up2_same, va_rf]
theorem up2_upd (mi : MI) (a j : Nat) (x : Int32) : up2 mi a j x a = upd (mi a) j x := by
  funext q; simp [up2, upd]
theorem wl_arrI {AC : Nat → ClassId} {base z : Nat} {sh : SH} {mi : MI} {mr : MR} {a κ n : Nat} {f : Nat → Int32} (hs : sh a = (κ, n)) (hκ : 11 ≤ κ ∧ κ < 13) (h : base ≤ a ∧ a < z) : (wl AC base z sh mi mr).set (a - base) (a, .inl (AC (κ - 11), n, .inl f)) = wl AC base z sh (fun x => if x = a then f else mi x) mr := by
  rw [← wl_set (mi := mi) (mr := mr) (mi' := fun x => if x = a then f else mi x) (mr' := mr) h (fun x hx => ce_kept (by simp [hx]) rfl)]
  simp [ce, hs, show ¬ κ < 11 by omega, hκ.2]
theorem wl_arrR {AC : Nat → ClassId} {base z : Nat} {sh : SH} {mi : MI} {mr : MR} {a κ n : Nat} {f : Nat → Option Nat} (hs : sh a = (κ, n)) (hκ : 13 ≤ κ) (h : base ≤ a ∧ a < z) : (wl AC base z sh mi mr).set (a - base) (a, .inl (AC (κ - 11), n, .inr (.inr (.inr (.inr f))))) = wl AC base z sh mi (fun x => if x = a then f else mr x) := by
  rw [← wl_set (mi := mi) (mr := mr) (mi' := mi) (mr' := fun x => if x = a then f else mr x) h (fun x hx => ce_kept rfl (by simp [hx]))]
  simp [ce, hs, show ¬ κ < 11 by omega, show ¬ κ < 13 by omega]
theorem up2_if {α : Type} (f : Nat → Nat → α) (a j : Nat) (v : α) : (fun x => if x = a then (fun q => if q = j then v else f a q) else f x) = up2 f a j v := by
  funext x q
  by_cases hx : x = a
  · subst hx
    by_cases hq : q = j <;> simp [up2, hq]
  · simp [up2, hx]
section RULES2
variable {y : MethodName} {cc : ByteArray} {nL : Nat} {ret : Option FieldType} {E : ET} {kc ks pc : Nat} {ls st : List Value} {z : Nat} {sh : SH} {mi : MI} {mr : MR}
theorem r_getQ {a idx κ k n : Nat} {fin : Bool} (d : decode cc pc = .ok (.getfield idx, 3)) (f : FL y.cls idx κ k fin) (hs : sh a = (κ, n)) (kk : Wp y cc nL ret E kc ks (pc + 3) ls (fvl mi mr a κ k :: st) z sh mi mr) : Wp y cc nL ret E kc ks pc ls (.ref a :: st) z sh mi mr := by
  intro p l e s m args below meth c D AC base C X H locs la hR hS hL
  obtain ⟨C0, T, N, ⟨c1, c2, c3, c4, c5, c6⟩, f1, f2, f3, f4⟩ := f
  have hb := hR.2.2.1 a (by rw [hs]; show κ < 16; omega)
  have he := wl_get (AC := AC) (sh := sh) (mi := mi) (mr := mr) hb
  rw [ce_obj (by rw [hs]) c6] at he
  exact va_get C.1 C.2.1 C.2.2.2.2.2.2.1 c2 C.2.2.2.2.2.1 C.2.2.2.2.2.2.2.1.1 hR.2.2.2 (a - base) he c1 k f1 (C.2.2.2.2.2.2.1 _ f2) (by rw [f4]; exact fun _ h => h) (fsl_get (c5 ▸ f1)) d (kk _ _ _ _ _ _ _ _ _ _ _ _ C X _ _ _ hR hS hL)
theorem r_getV {a idx κ k n : Nat} {fin : Bool} {v : Int32} (d : decode cc pc = .ok (.getfield idx, 3)) (f : FL y.cls idx κ k fin) (ht : isRt (tyf κ k) = false) (hs : sh a = (κ, n)) (hv : mi a k = v) (kk : Wp y cc nL ret E kc ks (pc + 3) ls (.int v :: st) z sh mi mr) : Wp y cc nL ret E kc ks pc ls (.ref a :: st) z sh mi mr := by
  refine r_getQ d f hs ?_
  have e : fvl mi mr a κ k = .int v := by unfold fvl; rw [ht, hv]; rfl
  rw [e]; exact kk
theorem r_getR {a idx κ k n b : Nat} {fin : Bool} (d : decode cc pc = .ok (.getfield idx, 3)) (f : FL y.cls idx κ k fin) (ht : isRt (tyf κ k) = true) (hs : sh a = (κ, n)) (hv : mr a k = some b) (kk : Wp y cc nL ret E kc ks (pc + 3) ls (.ref b :: st) z sh mi mr) : Wp y cc nL ret E kc ks pc ls (.ref a :: st) z sh mi mr := by
  refine r_getQ d f hs ?_
  have e : fvl mi mr a κ k = .ref b := by unfold fvl; rw [ht, hv]; rfl
  rw [e]; exact kk
theorem Rel.put {D : va_G} {AC : Nat → ClassId} {base z : Nat} {sh : SH} {mi mi' : MI} {mr mr' : MR} {H H1 : Heap} (hR : Rel D AC base z sh mi mr H) (hz : H1.size = H.size) (hP : va_P D vwCl (wl AC base z sh mi' mr') H1) : Rel D AC base z sh mi' mr' H1 := ⟨hR.1, hz.trans hR.2.1, hR.2.2.1, hP⟩
theorem va_S_size {A : Nat → Prop} {H0 H : Heap} {locs : List Loc} (h : va_S A H0 H locs) : H0.size ≤ H.size := h.1
theorem wl_len {AC : Nat → ClassId} {base z : Nat} {sh : SH} {mi : MI} {mr : MR} : (wl AC base z sh mi mr).length = z - base := by simp [wl]
theorem Rel.lt {D : va_G} {AC : Nat → ClassId} {base z : Nat} {sh : SH} {mi : MI} {mr : MR} {H : Heap} (hR : Rel D AC base z sh mi mr H) {a κ n : Nat} (hs : sh a = (κ, n)) (hκ : κ < 16) : base ≤ a ∧ a < z := hR.2.2.1 a (by rw [hs]; exact hκ)
theorem r_putI {a idx κ k n : Nat} {x : Int32} (d : decode cc pc = .ok (.putfield idx, 3)) (f : FL y.cls idx κ k false) (ht : isRt (tyf κ k) = false) (hn : narrow (tyf κ k) (.int x) = .int x) (hfit : fits (tyf κ k) (.int x) = true) (hs : sh a = (κ, n)) (kk : Wp y cc nL ret E kc ks (pc + 3) ls st z sh (up2 mi a k x) mr) : Wp y cc nL ret E kc ks pc ls (.int x :: .ref a :: st) z sh mi mr := by
  intro p l e s m args below meth c D AC base C X H locs la hR hS hL
  obtain ⟨C0, T, N, ⟨c1, c2, c3, c4, c5, c6⟩, f1, f2, f3, f4⟩ := f
  have hb := hR.lt hs (by omega)
  have he := wl_get (AC := AC) (sh := sh) (mi := mi) (mr := mr) hb
  rw [ce_obj (by rw [hs]) c6] at he
  have hts := C.2.2.2.2.2.2.1
  have hK := C.2.2.2.2.2.2.2.1.1
  have hap := va_apart (own := y.cls) hts c2 (tyf κ) c3 c4 hK c1
  obtain ⟨r, h1, cell, q1, q2, q3, q4⟩ := hR.2.2.2 (a - base) _ he
  have hr : r = (C0, T, N) := Option.some.inj (h1.symm.trans c1)
  subst hr
  obtain ⟨hS1, hfc, kC, hkC, hkind⟩ := hK.1 κ _ c1
  obtain ⟨cf, kf, fi, fd, hi, hsl⟩ := hS1 k f1
  have hlay := hts _ (c2 _ (u_in_lay f1))
  unfold u_lay at hlay
  rw [if_neg (by rw [f3]; decide)] at hlay
  have hst := (u_facts hfc hkC (u_lays hts c2 f1) hi).1
  have h6 := u_store hfc hkC hkind hlay hi (c3 k f1) hn hfit
  refine W.putK C.1 C.2.1 (f := fd) ⟨C.2.2.2.2.2.1, hts _ f2, ⟨_, _, _, by rw [f4] at hi; exact hi⟩, hst⟩ (by rw [q2]; exact h6) q1 q3 (by rw [hsl]; exact k2_hasslot (q4 k f1)) rfl rfl d fun H' e1 e2 e3 => ?_
  rw [hsl] at e1 ⊢
  have hl : k < (fsl mi mr a κ).length := by simp [fsl]; omega
  have hP' := hR.2.2.2.set (H1 := H') (e := .inr (κ, (fsl mi mr a κ).set k (.int x))) wl_D he ⟨_, c1, t_OB.to (V := updV (vp_V (fsl mi mr a κ)) k (.int x)) ⟨_, e1, q2, q3, t_set q4 hap f1 (.int x)⟩ (fun j _ => vp_updV_set hl (.int x) j)⟩ e3
  rw [wl_putI hs c6 hb ht] at hP'
  exact kk _ _ _ _ _ _ _ _ _ _ _ _ C X _ _ _ (hR.put e2 hP') (hS.put e2 e3 hb.1) hL
theorem r_putRF {a idx κ k n b : Nat} (hy : y.name = "<init>") (d : decode cc pc = .ok (.putfield idx, 3)) (f : FL y.cls idx κ k true) (hd : ∃ T N, vwCl[κ]? = some (y.cls, T, N)) (ht : isRt (tyf κ k) = true) (hn : narrow (tyf κ k) (.ref b) = .ref b) (hfit : fits (tyf κ k) (.ref b) = true) (hs : sh a = (κ, n)) (kk : Wp y cc nL ret E kc ks (pc + 3) ls st z sh mi (up2 mr a k (some b))) : Wp y cc nL ret E kc ks pc ls (.ref b :: .ref a :: st) z sh mi mr := by
  intro p l e s m args below meth c D AC base C X H locs la hR hS hL
  obtain ⟨C0, T, N, ⟨c1, c2, c3, c4, c5, c6⟩, f1, f2, f3, f4⟩ := f
  obtain ⟨T', N', hd⟩ := hd
  have hdecl : C0 = y.cls := by have := c1.symm.trans hd; simp at this; exact this.1
  have hb := hR.lt hs (by omega)
  have he := wl_get (AC := AC) (sh := sh) (mi := mi) (mr := mr) hb
  rw [ce_obj (by rw [hs]) c6] at he
  have hts := C.2.2.2.2.2.2.1
  have hK := C.2.2.2.2.2.2.2.1.1
  have hap := va_apart (own := y.cls) hts c2 (tyf κ) c3 c4 hK c1
  obtain ⟨r, h1, cell, q1, q2, q3, q4⟩ := hR.2.2.2 (a - base) _ he
  have hr : r = (C0, T, N) := Option.some.inj (h1.symm.trans c1)
  subst hr
  obtain ⟨hS1, hfc, kC, hkC, hkind⟩ := hK.1 κ _ c1
  obtain ⟨cf, kf, fi, fd, hi, hsl⟩ := hS1 k f1
  have hlay := hts _ (c2 _ (u_in_lay f1))
  unfold u_lay at hlay
  rw [if_pos f3] at hlay
  have hst := (u_facts hfc hkC (u_lays hts c2 f1) hi).1
  have hcf : m.cls = cf := by
    obtain ⟨_, _, c', _, _, _, -, -, hf', -, -, -, hown2, -⟩ := Cond.laysFinal_spec hlay
    have e1 : c' = cf := by have := hi.symm.trans hf'; simp at this; exact this.1.symm
    rw [f4, hdecl] at hown2
    rw [← e1]; exact Option.some.inj (C.2.2.2.2.2.1.symm.trans hown2)
  have h6 := u_fits hfc hkC hkind (Or.inr hlay) hi (c3 k f1) hn hfit
  refine W.putFinK C.1 C.2.1 C.2.2.2.2.2.1 (hts _ f2) (by rw [f4] at hi; exact hi) hst hcf (C.2.2.2.2.2.2.2.2.2 hy) (by rw [q2]; exact h6) q1 q3 (by rw [hsl]; exact k2_hasslot (q4 k f1)) rfl rfl d fun H' e1 e2 e3 => ?_
  rw [hsl] at e1 ⊢
  have hl : k < (fsl mi mr a κ).length := by simp [fsl]; omega
  have hP' := hR.2.2.2.set (H1 := H') (e := .inr (κ, (fsl mi mr a κ).set k (.ref b))) wl_D he ⟨_, c1, t_OB.to (V := updV (vp_V (fsl mi mr a κ)) k (.ref b)) ⟨_, e1, q2, q3, t_set q4 hap f1 (.ref b)⟩ (fun j _ => vp_updV_set hl (.ref b) j)⟩ e3
  rw [wl_putR hs c6 hb ht] at hP'
  exact kk _ _ _ _ _ _ _ _ _ _ _ _ C X _ _ _ (hR.put e2 hP') (hS.put e2 e3 hb.1) hL
theorem va_K_at {D : va_G} {AC : Nat → ClassId} {s : State} (h : va_K D vwCl (tyL AC) s) {k : Nat} {q : ClassId × FieldType} (hq : (tyL AC)[k]? = some q) : ArrOfT s q.1 q.2 ∧ va_RA s q.1 q.2 := h.2 k q hq
theorem r_ialdV {a n j : Nat} {v : Int32} (d : decode cc pc = .ok (.iaload, 1)) (hs : sh a = (11, n)) (hj : j < n) (hn : n < 2 ^ 31) (hv : mi a j = v) (kk : Wp y cc nL ret E kc ks (pc + 1) ls (.int v :: st) z sh mi mr) : Wp y cc nL ret E kc ks pc ls (.int (nI j) :: .ref a :: st) z sh mi mr := by
  intro p l e s m args below meth c D AC base C X H locs la hR hS hL
  have he := wl_get (AC := AC) (sh := sh) (mi := mi) (mr := mr) (hR.lt hs (by omega))
  rw [ce_int hs] at he
  refine va_iald C.1 C.2.1 C.2.2.2.2.2.2.2.1.1 hR.2.2.2 (a - base) 0 he rfl (vp_in_nI hj hn) d ?_
  rw [nI_clamp (by omega), hv]
  exact kk _ _ _ _ _ _ _ _ _ _ _ _ C X _ _ _ hR hS hL
theorem r_baldV {a n j : Nat} {v : Int32} (d : decode cc pc = .ok (.baload, 1)) (hs : sh a = (12, n)) (hj : j < n) (hn : n < 2 ^ 31) (hv : mi a j = v) (kk : Wp y cc nL ret E kc ks (pc + 1) ls (.int v :: st) z sh mi mr) : Wp y cc nL ret E kc ks pc ls (.int (nI j) :: .ref a :: st) z sh mi mr := by
  intro p l e s m args below meth c D AC base C X H locs la hR hS hL
  have he := wl_get (AC := AC) (sh := sh) (mi := mi) (mr := mr) (hR.lt hs (by omega))
  rw [ce_bool hs] at he
  refine va_zald C.1 C.2.1 C.2.2.2.2.2.2.2.1.1 hR.2.2.2 (a - base) 1 he rfl (vp_in_nI hj hn) d ?_
  rw [nI_clamp (by omega), hv]
  exact kk _ _ _ _ _ _ _ _ _ _ _ _ C X _ _ _ hR hS hL
theorem r_aaldQ {a κ n j : Nat} {Cn : String} (d : decode cc pc = .ok (.aaload, 1)) (hs : sh a = (κ, n)) (hκ : 13 ≤ κ) (ht : ∀ AC : Nat → ClassId, (tyL AC)[κ - 11]? = some (AC (κ - 11), .object Cn)) (hj : j < n) (hn : n < 2 ^ 31) (kk : Wp y cc nL ret E kc ks (pc + 1) ls (va_rf (mr a j) :: st) z sh mi mr) : Wp y cc nL ret E kc ks pc ls (.int (nI j) :: .ref a :: st) z sh mi mr := by
  intro p l e s m args below meth c D AC base C X H locs la hR hS hL
  have h16 : κ < 16 := by
    have h1 := ht AC
    have h2 := (List.getElem?_eq_some_iff.mp h1).1
    simp at h2
    omega
  have he := wl_get (AC := AC) (sh := sh) (mi := mi) (mr := mr) (hR.lt hs h16)
  rw [ce_ref hs hκ] at he
  refine va_aldq C.1 C.2.1 C.2.2.2.2.2.2.2.1.1 hR.2.2.2 (a - base) (κ - 11) he (ht AC) (vp_in_nI hj hn) d ?_
  rw [nI_clamp (by omega)]
  exact kk _ _ _ _ _ _ _ _ _ _ _ _ C X _ _ _ hR hS hL
theorem r_aald {a κ n j b : Nat} {Cn : String} (d : decode cc pc = .ok (.aaload, 1)) (hs : sh a = (κ, n)) (hκ : 13 ≤ κ) (ht : ∀ AC : Nat → ClassId, (tyL AC)[κ - 11]? = some (AC (κ - 11), .object Cn)) (hj : j < n) (hn : n < 2 ^ 31) (hv : mr a j = some b) (kk : Wp y cc nL ret E kc ks (pc + 1) ls (.ref b :: st) z sh mi mr) : Wp y cc nL ret E kc ks pc ls (.int (nI j) :: .ref a :: st) z sh mi mr := by
  refine r_aaldQ d hs hκ ht hj hn ?_
  rw [hv]; exact kk
theorem r_iast {a n j : Nat} {x : Int32} (d : decode cc pc = .ok (.iastore, 1)) (hs : sh a = (11, n)) (hj : j < n) (hn : n < 2 ^ 31) (kk : Wp y cc nL ret E kc ks (pc + 1) ls st z sh (up2 mi a j x) mr) : Wp y cc nL ret E kc ks pc ls (.int x :: .int (nI j) :: .ref a :: st) z sh mi mr := by
  intro p l e s m args below meth c D AC base C X H locs la hR hS hL
  have hb := hR.lt hs (by omega)
  have he := wl_get (AC := AC) (sh := sh) (mi := mi) (mr := mr) hb
  rw [ce_int hs] at he
  have hc : H[a]? = some (arrV (AC 0) n (fun j => .int (mi a j))) := hR.2.2.2 (a - base) _ he
  refine W.iast C.1 C.2.1 hc ((va_K_at C.2.2.2.2.2.2.2.1.1 (k := 0) rfl).1 n (fun j => .int (mi a j))) (fun q => by cases q) (by rw [arrV_size]; exact vp_in_nI hj hn) rfl rfl d fun H1 e1 e2 e3 => ?_
  have hP' := hR.2.2.2.set (e := .inl (AC 0, n, .inl (upd (mi a) j x))) wl_D he (by
    show H1[a]? = some (vp_cell _ _)
    rw [e1, vp_cell_i, arrV_store, nI_clamp (by omega)]
    congr 2
    funext q
    by_cases hq : q = j
    · subst hq; simp [updV, upd]
    · simp [updV, upd, hq]) e3
  have e4 := wl_arrI (AC := AC) (mi := mi) (mr := mr) (f := upd (mi a) j x) hs (by omega) hb
  simp only [Nat.sub_self] at e4
  rw [e4] at hP'
  rw [show (fun x_1 => if x_1 = a then upd (mi a) j x else mi x_1) = up2 mi a j x from up2_if mi a j x] at hP'
  rw [nI_clamp (by omega)]
  exact kk _ _ _ _ _ _ _ _ _ _ _ _ C X _ _ _ (hR.put e2 hP') (hS.put e2 e3 hb.1) hL
theorem r_bast {a n j : Nat} {x : Int32} (d : decode cc pc = .ok (.bastore, 1)) (hx : narrow .boolean (.int x) = .int x) (hs : sh a = (12, n)) (hj : j < n) (hn : n < 2 ^ 31) (kk : Wp y cc nL ret E kc ks (pc + 1) ls st z sh (up2 mi a j x) mr) : Wp y cc nL ret E kc ks pc ls (.int x :: .int (nI j) :: .ref a :: st) z sh mi mr := by
  intro p l e s m args below meth c D AC base C X H locs la hR hS hL
  have hb := hR.lt hs (by omega)
  have he := wl_get (AC := AC) (sh := sh) (mi := mi) (mr := mr) hb
  rw [ce_bool hs] at he
  have hc : H[a]? = some (arrV (AC 1) n (fun j => .int (mi a j))) := hR.2.2.2 (a - base) _ he
  refine W.zast C.1 C.2.1 hc ((va_K_at C.2.2.2.2.2.2.2.1.1 (k := 1) rfl).1 n (fun j => .int (mi a j))) (fun q => by cases q) (by rw [arrV_size]; exact vp_in_nI hj hn) rfl rfl d fun H1 e1 e2 e3 => ?_
  have hP' := hR.2.2.2.set (e := .inl (AC 1, n, .inl (upd (mi a) j x))) wl_D he (by
    show H1[a]? = some (vp_cell _ _)
    rw [e1, vp_cell_i, arrV_store, nI_clamp (by omega), hx]
    congr 2
    funext q
    by_cases hq : q = j
    · subst hq; simp [updV, upd]
    · simp [updV, upd, hq]) e3
  have e4 := wl_arrI (AC := AC) (mi := mi) (mr := mr) (f := upd (mi a) j x) hs (by omega) hb
  rw [show (12 : Nat) - 11 = 1 from rfl] at e4
  rw [e4] at hP'
  rw [show (fun x_1 => if x_1 = a then upd (mi a) j x else mi x_1) = up2 mi a j x from up2_if mi a j x] at hP'
  rw [nI_clamp (by omega)]
  exact kk _ _ _ _ _ _ _ _ _ _ _ _ C X _ _ _ (hR.put e2 hP') (hS.put e2 e3 hb.1) hL
theorem r_aast {a κ n j b ci n2 : Nat} {r : vw_C} (d : decode cc pc = .ok (.aastore, 1)) (hs : sh a = (κ, n)) (hκ : 13 ≤ κ) (ht : ∀ AC : Nat → ClassId, (tyL AC)[κ - 11]? = some (AC (κ - 11), .object r.1)) (hv : sh b = (ci, n2)) (hc : vwCl[ci]? = some r) (hci : ci < 11) (hj : j < n) (hn : n < 2 ^ 31) (kk : Wp y cc nL ret E kc ks (pc + 1) ls st z sh mi (up2 mr a j (some b))) : Wp y cc nL ret E kc ks pc ls (.ref b :: .int (nI j) :: .ref a :: st) z sh mi mr := by
  intro p l e s m args below meth c D AC base C X H locs la hR hS hL
  have h16 : κ < 16 := by
    have h1 := ht AC
    have h2 := (List.getElem?_eq_some_iff.mp h1).1
    simp at h2
    omega
  have hb := hR.lt hs h16
  have hbv := hR.lt hv (by omega)
  have he := wl_get (AC := AC) (sh := sh) (mi := mi) (mr := mr) hb
  rw [ce_ref hs hκ] at he
  have hev := wl_get (AC := AC) (sh := sh) (mi := mi) (mr := mr) hbv
  rw [ce_obj (by rw [hv]) hci] at hev
  have hcl : H[a]? = some (arrV (AC (κ - 11)) n (fun j => va_rf (mr a j))) := hR.2.2.2 (a - base) _ he
  have hK := C.2.2.2.2.2.2.2.1.1
  obtain ⟨r', hr', cellV, g1, g2, g3, -⟩ := hR.2.2.2 (b - base) _ hev
  have hcls := (hK.1 ci r hc).2
  obtain ⟨kA, comp, k1, k2, k3, -⟩ := (va_K_at hK (ht AC)).2
  have hcomp : comp = D.1 ci := Option.some.inj (k3.symm.trans hcls.1)
  subst hcomp
  obtain ⟨kC, hkC, -⟩ := hcls.2
  have hin := vp_in_nI hj hn
  refine W.aast C.1 C.2.1 hcl (fun q h => by cases h) (fun h => by cases h) k1 k2 rfl hkC ⟨fun q => hin (Or.inl q), by rw [arrV_size, nI_clamp (by omega)]; exact hj⟩ g1 (fun q h => by rw [g3] at h; cases h) (by rw [g2]; exact hkC) (by rw [g2]; exact va_assign hcls) rfl rfl d fun H1 e1 e2 e3 => ?_
  have hP' := hR.2.2.2.set (e := .inl (AC (κ - 11), n, .inr (.inr (.inr (.inr (fun q => if q = j then some b else mr a q)))))) wl_D he (by
    show H1[a]? = some (vp_cell _ _)
    rw [e1, vp_cell_q, arrV_store, nI_clamp (by omega)]
    congr 2
    funext q
    by_cases hq : q = j
    · subst hq; simp [updV, va_rf]
    · simp [updV, hq]) e3
  rw [wl_arrR hs hκ hb, up2_if mr a j (some b)] at hP'
  rw [nI_clamp (by omega)]
  exact kk _ _ _ _ _ _ _ _ _ _ _ _ C X _ _ _ (hR.put e2 hP') (hS.put e2 e3 hb.1) hL
end RULES2
