abbrev PT : Type := Option Value → Nat → SH → MI → MR → Prop
def Qp (D : va_G) (AC : Nat → ClassId) (base : Nat) (Post : PT) : Array Value → State → Outcome → State → Prop := fun _ st oc t => ∃ (v : Option Value) (z' : Nat) (sh' : SH) (mi' : MI) (mr' : MR), oc = .returned v ∧ Post v z' sh' mi' mr' ∧ Rel D AC base z' sh' mi' mr' t.heap ∧ va_F (fun q => base ≤ q) st t
def rmD (d mc ms : Nat) : Room := { frames := d, cells := mc, slots := ms, locals := 37 * d }
def mE (d mc ms : Nat) (Post : PT) : ET := (rmD d mc ms, fun _ _ _ => True, fun below args s D AC base => MQ below (Qp D AC base Post) args s mc ms (fun q => base ≤ q))
/-- THE CONTRACT of a method, over the pure memory: with these arguments and this memory it returns, and Post holds of the answer and the new memory -/
def Mv (M : MD) (d mc ms : Nat) (avs : List Value) (z : Nat) (sh : SH) (mi : MI) (mr : MR) (Post : PT) : Prop :=
  ∀ (l : Launch) (D : va_G) (AC : Nat → ClassId) (base : Nat), Met l M.1 (.code M.1 M.2.1 M.2.2.1 M.2.2.2 :: tb) (rmD d mc ms) (va_Pc avs (fun U => Rel D AC base z sh mi mr U.heap ∧ KK D AC U)) (Qp D AC base Post) mc ms (fun q => base ≤ q)
def catOk (avs : List Value) : Bool := avs.all (fun v => v.category == 1)
theorem lg_sl_1 : ∀ (avs : List Value), catOk avs = true → lg_sl avs = avs.map Slot.val
  | [], _ => rfl
  | v :: t, h => by
    simp only [catOk, List.all_cons, Bool.and_eq_true, beq_iff_eq] at h
    have ih := lg_sl_1 t (by simpa [catOk] using h.2)
    unfold lg_sl at ih ⊢
    rw [List.flatMap_cons, ih, if_neg (by rw [h.1]; decide)]
    rfl
theorem LV.entry {avs : List Value} {nL : Nat} (hlen : avs.length ≤ nL) (hcat : catOk avs = true) : LV ((lg_sl avs ++ List.replicate (nL - (lg_sl avs).length) Slot.unset).toArray) nL avs := by
  have e := lg_sl_1 avs hcat
  have h := lv_entry avs (n := nL) (by rw [e]; simpa using hlen)
  refine ⟨h.1, h.2.1, fun k v hk => ⟨?_, ?_⟩⟩
  · have hl := (List.getElem?_eq_some_iff.mp hk).1
    rw [e, List.getElem?_toArray, List.getElem?_append_left (by simpa using hl), List.getElem?_map, hk]
    rfl
  · have := List.all_eq_true.mp hcat v (List.mem_of_getElem? hk)
    simpa using this
theorem Mv.of {y : MethodName} {cc : ByteArray} {nL : Nat} {ret : Option FieldType} {d mc ms : Nat} {avs : List Value} {z : Nat} {sh : SH} {mi : MI} {mr : MR} {Post : PT} (hy : plainName y.cls = true) (hlen : avs.length ≤ nL) (hcat : catOk avs = true) (k : Wp y cc nL ret (mE d mc ms Post) 0 0 0 avs [] z sh mi mr) : Mv (y, cc, nL, ret) d mc ms avs z sh mi mr Post := by
  intro l D AC base
  refine Met.ofW (cc := cc) (maxL := nL) (ret := ret) hy rfl ?_
  intro p e s m args below meth c s₁ B hml hv
  obtain ⟨rfl, hRel, hK⟩ := hv
  have hts := atoms_spec (ws := .code y cc nL ret :: tb) B.pre
  rw [lg_entry_eq]
  exact k p l e s m _ below meth c D AC base ⟨B.exec, B.bytes, hml, B.returns, B.notSynchronized, findClass_of_methodNamed B.named, fun w h => hts w (List.mem_cons_of_mem _ h), hK, by rw [hRel.2.1]; exact hRel.1, fun h => (name_of_methodNamed B.named B.method).1.trans h⟩ trivial s.heap [] _ hRel va_S.rf (LV.entry hlen hcat)
section RULES3
variable {y : MethodName} {cc : ByteArray} {nL : Nat} {ret : Option FieldType} {E : ET} {kc ks pc : Nat} {ls st : List Value} {z : Nat} {sh : SH} {mi : MI} {mr : MR}
theorem r_iret {d0 mc ms : Nat} {Post : PT} {v : Int32} (d : decode cc pc = .ok (.ireturn, 1)) (hr : ret = some .int) (h1 : kc ≤ mc) (h2 : ks ≤ ms) (hp : Post (some (.int v)) z sh mi mr) : Wp y cc nL ret (mE d0 mc ms Post) kc ks pc ls [.int v] z sh mi mr := by
  intro p l e s m args below meth c D AC base C X H locs la hR hS hL
  refine W.widen h1 h2 ?_
  exact W.iret C.1 C.2.1 (by rw [C.2.2.2.1, hr]) (fun t ht _ => ⟨_, z, sh, mi, mr, rfl, hp, by rw [ht]; exact hR, hS.F ht⟩) hS.2.2 d C.2.2.2.2.1
theorem r_zret {d0 mc ms : Nat} {Post : PT} {v : Int32} (d : decode cc pc = .ok (.ireturn, 1)) (hr : ret = some .boolean) (hn : narrow .boolean (.int v) = .int v) (h1 : kc ≤ mc) (h2 : ks ≤ ms) (hp : Post (some (.int v)) z sh mi mr) : Wp y cc nL ret (mE d0 mc ms Post) kc ks pc ls [.int v] z sh mi mr := by
  intro p l e s m args below meth c D AC base C X H locs la hR hS hL
  refine W.widen h1 h2 ?_
  exact W.zret C.1 C.2.1 (by rw [C.2.2.2.1, hr]) hn (fun t ht _ => ⟨_, z, sh, mi, mr, rfl, hp, by rw [ht]; exact hR, hS.F ht⟩) hS.2.2 d C.2.2.2.2.1
theorem r_vret {d0 mc ms : Nat} {Post : PT} (d : decode cc pc = .ok (.return_, 1)) (hr : ret = none) (h1 : kc ≤ mc) (h2 : ks ≤ ms) (hp : Post none z sh mi mr) : Wp y cc nL ret (mE d0 mc ms Post) kc ks pc ls [] z sh mi mr := by
  intro p l e s m args below meth c D AC base C X H locs la hR hS hL
  refine W.widen h1 h2 ?_
  exact W.vret C.1 C.2.1 (by rw [C.2.2.2.1, hr]) (fun t ht _ => ⟨_, z, sh, mi, mr, rfl, hp, by rw [ht]; exact hR, hS.F ht⟩) hS.2.2 d C.2.2.2.2.1
/-- behind a call -/
theorem run_on {p : Program} {l : Launch} {e : Env} {s : State} {m : MethodId} {args : Array Value} {below : List Frame} {meth : Method} {c : Code} {D : va_G} {AC : Nat → ClassId} {base : Nat} {H : Heap} {locs : List Loc} {la : Array Slot} {mc' ms' : Nat} {st0 : List Value} {Post' : PT} {a : Array Value} (C : Cx y cc nL ret p s m args meth c D AC base) (X : E.2.1 args s base) (hS : va_S (fun q => base ≤ q) s.heap H locs) (hL : LV la nL ls)
    (run : va_Run p l e E.1 s m args below meth c H locs kc ks mc' ms' (F0 m pc la st0) st (Qp D AC base Post' a) (fun q => base ≤ q))
    (k : ∀ v z' sh' mi' mr', Post' v z' sh' mi' mr' → Wp y cc nL ret E (kc + mc') (ks + ms') (pc + 3) ls (v.toList ++ st) z' sh' mi' mr') : W p l e E.1 s m args below meth c H locs kc ks (E.2.2 below args s D AC base) (F0 m pc la st0) := by
  intro T hT X0
  obtain ⟨v, st1, t, T', L, h0, X', hL', e1, e2, ⟨v2, z', sh', mi', mr', hv, hpost, hRel, hF⟩, go⟩ := run T hT X0
  cases hv
  obtain ⟨hz, hk⟩ := hF
  rw [h0] at hz hk
  obtain ⟨t2, a1, b1⟩ := k v z' sh' mi' mr' hpost p l e s m args below meth c D AC base C X T'.heap (locs ++ L) la (by rw [e1]; exact hRel) ⟨Nat.le_trans hS.1 (by rw [e1]; exact hz), fun q h1 h2 => by rw [e1, hk q (Nat.lt_of_lt_of_le h1 hS.1) h2]; exact hS.2.1 q h1 h2, fun q hq => by
    rcases List.mem_append.mp hq with h | h
    · exact hS.2.2 q h
    · exact hL' q h⟩ hL T' rfl X'
  exact ⟨t2, go t2 a1, b1⟩
/-- what a call needs of the tables: the link, the kind, the class, the code -/
def okC (own : String) (idx : Nat) (M : MD) (n : Nat) : Prop := Cond.methodLink own idx M.1 ∈ tb ∧ Cond.initialized M.1.cls ∈ tb ∧ Cond.code M.1 M.2.1 M.2.2.1 M.2.2.2 ∈ tb ∧ (M.1.cls ≠ "java/lang/invoke/MethodHandle" ∧ M.1.cls ≠ "java/lang/invoke/VarHandle" ∧ (parseMethodDescriptor M.1.desc).map (fun d => d.parameters.length) = some n)
def okN (own : String) (idx : Nat) (M : MD) (n : Nat) : Prop := (own, idx, M.1) ∈ nst ∧ Cond.initialized M.1.cls ∈ tb ∧ Cond.code M.1 M.2.1 M.2.2.1 M.2.2.2 ∈ tb ∧ (M.1.cls ≠ "java/lang/invoke/MethodHandle" ∧ M.1.cls ≠ "java/lang/invoke/VarHandle" ∧ (parseMethodDescriptor M.1.desc).map (fun d => d.parameters.length) = some n)
theorem code_in {M : MD} (h : Cond.code M.1 M.2.1 M.2.2.1 M.2.2.2 ∈ tb) : GoodIn tb (.code M.1 M.2.1 M.2.2.1 M.2.2.2 :: tb) := tb_in (fun w hw => (List.mem_cons.mp hw).elim (fun e => e ▸ h) id)
def roomOk (R : Room) (kc ks d' mc' ms' maxL : Nat) : Prop := d' + 1 ≤ R.frames ∧ 8 + (maxL + 11) + 37 * d' ≤ R.locals ∧ kc + mc' ≤ R.cells ∧ ks + ms' ≤ R.slots
theorem pc_blind {D : va_G} {AC : Nat → ClassId} {base : Nat} {avs : List Value} : FrameBlind (va_Pc avs (fun U => Rel D AC base z sh mi mr U.heap ∧ KK D AC U)) := fun a U g mk q => by
  obtain ⟨q0, q1, q2⟩ := q
  exact ⟨q0, q1, KK.same (s := U) (U := U.calling g mk a) rfl q2⟩
theorem r_callV {M : MD} {idx b κ n nA d' mc' ms' : Nat} (As : List Value) {Post' : PT} {st0 : List Value} (d : decode cc pc = .ok (.invokevirtual idx, 3)) (ok : okC y.cls idx M nA) (hi : Cond.instanceMethod M.1 ∈ tb ∧ Cond.selects M.1.cls M.1 M.1 ∈ tb) (hs : sh b = (κ, n)) (hκ : ∃ T N, vwCl[κ]? = some (M.1.cls, T, N)) (hst : st0 = As.reverse ++ .ref b :: st) (hn : As.length = nA) (hcat : (st.map fun v => v.category).sum ≤ 8) (hroom : roomOk E.1 kc ks d' mc' ms' M.2.2.1)
    (hM : Mv M d' mc' ms' (.ref b :: As) z sh mi mr Post') (k : ∀ v z' sh' mi' mr', Post' v z' sh' mi' mr' → Wp y cc nL ret E (kc + mc') (ks + ms') (pc + 3) ls (v.toList ++ st) z' sh' mi' mr') : Wp y cc nL ret E kc ks pc ls st0 z sh mi mr := by
  intro p l e s m args below meth c D AC base C X H locs la hR hS hL
  obtain ⟨o1, o2, o3, o4⟩ := ok
  obtain ⟨T, N, hκ⟩ := hκ
  have hts := C.2.2.2.2.2.2.1
  have hκ11 : κ < 11 := by have := (List.getElem?_eq_some_iff.mp hκ).1; simpa using this
  have he := wl_get (AC := AC) (sh := sh) (mi := mi) (mr := mr) (hR.lt hs (by omega))
  rw [ce_obj (by rw [hs]) hκ11] at he
  refine run_on C X hS hL (va_runV (As := As) (rest := st) ⟨C.1, C.2.1, C.2.2.1, C.2.2.2.2.2.1, hts⟩ (hM l D AC base) ⟨callB_of nA hts (code_in o3) rfl rfl rfl (hts _ o2) (hts _ o1) o4 ⟨hroom.1, hroom.2.1⟩, hts _ hi.1, hts _ hi.2⟩ ⟨pc_blind, va_recv C.2.2.2.2.2.2.2.1.1 hR.2.2.2 hκ he, fun U hU hW => ⟨rfl, by rw [hU]; exact hR, C.2.2.2.2.2.2.2.1.warm hW⟩⟩ rfl hn hL.1 hst (lv_room hcat) d hroom.2.2) k
theorem r_callS {M : MD} {idx nA d' mc' ms' : Nat} (As : List Value) {Post' : PT} {st0 : List Value} (d : decode cc pc = .ok (.invokestatic idx, 3)) (ok : okC y.cls idx M nA) (hi : Cond.static M.1 ∈ tb) (hst : st0 = As.reverse ++ st) (hn : As.length = nA) (hcat : (st.map fun v => v.category).sum ≤ 8) (hroom : roomOk E.1 kc ks d' mc' ms' M.2.2.1)
    (hM : Mv M d' mc' ms' As z sh mi mr Post') (k : ∀ v z' sh' mi' mr', Post' v z' sh' mi' mr' → Wp y cc nL ret E (kc + mc') (ks + ms') (pc + 3) ls (v.toList ++ st) z' sh' mi' mr') : Wp y cc nL ret E kc ks pc ls st0 z sh mi mr := by
  intro p l e s m args below meth c D AC base C X H locs la hR hS hL
  obtain ⟨o1, o2, o3, o4⟩ := ok
  have hts := C.2.2.2.2.2.2.1
  refine run_on C X hS hL (va_runS (As := As) (rest := st) ⟨C.1, C.2.1, C.2.2.1, C.2.2.2.2.2.1, hts⟩ (hM l D AC base) ⟨callB_of nA hts (code_in o3) rfl rfl rfl (hts _ o2) (hts _ o1) o4 ⟨hroom.1, hroom.2.1⟩, hts _ hi⟩ ⟨pc_blind, fun U hU hW => ⟨rfl, by rw [hU]; exact hR, C.2.2.2.2.2.2.2.1.warm hW⟩⟩ rfl hn hL.1 hst (lv_room hcat) d hroom.2.2) k
theorem r_callI {M : MD} {idx b nA d' mc' ms' : Nat} (As : List Value) {Post' : PT} {st0 : List Value} (d : decode cc pc = .ok (.invokespecial idx, 3)) (ok : okC y.cls idx M nA) (hi : Cond.instanceMethod M.1 ∈ tb ∧ M.1.name = "<init>" ∧ M.2.2.2 = none) (hst : st0 = As.reverse ++ .ref b :: st) (hn : As.length = nA) (hcat : (st.map fun v => v.category).sum ≤ 8) (hroom : roomOk E.1 kc ks d' mc' ms' M.2.2.1)
    (hM : Mv M d' mc' ms' (.ref b :: As) z sh mi mr Post') (k : ∀ v z' sh' mi' mr', Post' v z' sh' mi' mr' → Wp y cc nL ret E (kc + mc') (ks + ms') (pc + 3) ls (v.toList ++ st) z' sh' mi' mr') : Wp y cc nL ret E kc ks pc ls st0 z sh mi mr := by
  intro p l e s m args below meth c D AC base C X H locs la hR hS hL
  obtain ⟨o1, o2, o3, o4⟩ := ok
  have hts := C.2.2.2.2.2.2.1
  have hM' := hM l D AC base
  have hcode := code_in o3
  rw [hi.2.2] at hM' hcode
  refine run_on C X hS hL (va_runI (As := As) (rest := st) ⟨C.1, C.2.1, C.2.2.1, C.2.2.2.2.2.1, hts⟩ hM' ⟨callB_of nA hts hcode rfl rfl rfl (hts _ o2) (hts _ o1) o4 ⟨hroom.1, hroom.2.1⟩, hi.2.1, hts _ hi.1⟩ ⟨pc_blind, fun U hU hW => ⟨rfl, by rw [hU]; exact hR, C.2.2.2.2.2.2.2.1.warm hW⟩⟩ rfl hn hL.1 hst (lv_room hcat) d hroom.2.2) k
theorem r_callIN {M : MD} {idx b nA d' mc' ms' : Nat} (As : List Value) {Post' : PT} {st0 : List Value} (d : decode cc pc = .ok (.invokespecial idx, 3)) (ok : okN y.cls idx M nA) (hi : Cond.instanceMethod M.1 ∈ tb ∧ M.1.name = "<init>" ∧ M.2.2.2 = none) (hst : st0 = As.reverse ++ .ref b :: st) (hn : As.length = nA) (hcat : (st.map fun v => v.category).sum ≤ 8) (hroom : roomOk E.1 kc ks d' mc' ms' M.2.2.1)
    (hM : Mv M d' mc' ms' (.ref b :: As) z sh mi mr Post') (k : ∀ v z' sh' mi' mr', Post' v z' sh' mi' mr' → Wp y cc nL ret E (kc + mc') (ks + ms') (pc + 3) ls (v.toList ++ st) z' sh' mi' mr') : Wp y cc nL ret E kc ks pc ls st0 z sh mi mr := by
  intro p l e s m args below meth c D AC base C X H locs la hR hS hL
  obtain ⟨o1, o2, o3, o4⟩ := ok
  have hts := C.2.2.2.2.2.2.1
  have hM' := hM l D AC base
  have hcode := code_in o3
  rw [hi.2.2] at hM' hcode
  refine run_on C X hS hL (va_runIN (As := As) (rest := st) ⟨C.1, C.2.1, C.2.2.1, C.2.2.2.2.2.1, hts⟩ hM' ⟨va_cnB nA hts hcode rfl rfl rfl (C.2.2.2.2.2.2.2.1.2.1 _ o1) (hts _ o2) o4 ⟨hroom.1, hroom.2.1⟩, hi.2.1, hts _ hi.1⟩ ⟨pc_blind, fun U hU hW => ⟨rfl, by rw [hU]; exact hR, C.2.2.2.2.2.2.2.1.warm hW⟩⟩ rfl hn hL.1 hst (lv_room hcat) d hroom.2.2) k
theorem r_callSN {M : MD} {idx nA d' mc' ms' : Nat} (As : List Value) {Post' : PT} {st0 : List Value} (d : decode cc pc = .ok (.invokestatic idx, 3)) (ok : okN y.cls idx M nA) (hi : Cond.static M.1 ∈ tb) (hst : st0 = As.reverse ++ st) (hn : As.length = nA) (hcat : (st.map fun v => v.category).sum ≤ 8) (hroom : roomOk E.1 kc ks d' mc' ms' M.2.2.1)
    (hM : Mv M d' mc' ms' As z sh mi mr Post') (k : ∀ v z' sh' mi' mr', Post' v z' sh' mi' mr' → Wp y cc nL ret E (kc + mc') (ks + ms') (pc + 3) ls (v.toList ++ st) z' sh' mi' mr') : Wp y cc nL ret E kc ks pc ls st0 z sh mi mr := by
  intro p l e s m args below meth c D AC base C X H locs la hR hS hL
  obtain ⟨o1, o2, o3, o4⟩ := ok
  have hts := C.2.2.2.2.2.2.1
  refine run_on C X hS hL (va_runSN (As := As) (rest := st) ⟨C.1, C.2.1, C.2.2.1, C.2.2.2.2.2.1, hts⟩ (hM l D AC base) ⟨va_cnB nA hts (code_in o3) rfl rfl rfl (C.2.2.2.2.2.2.2.1.2.1 _ o1) (hts _ o2) o4 ⟨hroom.1, hroom.2.1⟩, hts _ hi, trivial⟩ ⟨pc_blind, fun U hU hW => ⟨rfl, by rw [hU]; exact hR, C.2.2.2.2.2.2.2.1.warm hW⟩⟩ rfl hn hL.1 hst (lv_room hcat) d hroom.2.2) k
theorem r_objInit {idx a : Nat} (d : decode cc pc = .ok (.invokespecial idx, 3)) (h1 : Cond.methodLink y.cls idx Lib.objectInit ∈ tb) (hr : 1 ≤ E.1.frames ∧ (st.map fun v => v.category).sum + 12 ≤ E.1.locals) (h2 : Cond.instanceMethod Lib.objectInit ∈ tb) (h3 : Cond.code Lib.objectInit ⟨#[0xb1]⟩ 1 none ∈ tb) (k : Wp y cc nL ret E kc ks (pc + 3) ls st z sh mi mr) : Wp y cc nL ret E kc ks pc ls (.ref a :: st) z sh mi mr := by
  intro p l e s m args below meth c D AC base C X H locs la hR hS hL
  have hts := C.2.2.2.2.2.2.1
  exact W.objInit C.1 C.2.1 C.2.2.2.2.2.1 (hts _ h1) (hts _ h2) (hts _ h3) rfl (hL.1.trans C.2.2.1.symm) rfl d hr.1 (by show 2 * 0 + _ + 12 ≤ _; omega) (k _ _ _ _ _ _ _ _ _ _ _ _ C X _ _ _ hR hS hL)
theorem r_min {idx : Nat} {x y0 : Int32} (d : decode cc pc = .ok (.invokestatic idx, 3)) (h1 : Cond.methodLink y.cls idx Lib.Math.min.name ∈ tb) (h2 : Cond.static Lib.Math.min.name ∈ tb) (h3 : Cond.initialized "java/lang/Math" ∈ tb) (h4 : Cond.code Lib.Math.min.name Lib.Math.min.code 2 (some .int) ∈ tb) (hr : 1 ≤ E.1.frames ∧ (st.map fun v => v.category).sum + 13 ≤ E.1.locals ∧ kc ≤ E.1.cells ∧ ks ≤ E.1.slots) (k : Wp y cc nL ret E kc ks (pc + 3) ls (.int (if y0 < x then y0 else x) :: st) z sh mi mr) : Wp y cc nL ret E kc ks pc ls (.int y0 :: .int x :: st) z sh mi mr := by
  intro p l e s m args below meth c D AC base C X H locs la hR hS hL
  have hts := C.2.2.2.2.2.2.1
  exact va_mmin C.1 C.2.1 (C.2.2.1.trans hL.1.symm) C.2.2.2.2.2.1 (hts _ h1) (hts _ h2) (hts _ h3) (hts _ h4) hr.1 hr.2.1 hr.2.2.1 hr.2.2.2 d (k _ _ _ _ _ _ _ _ _ _ _ _ C X _ _ _ hR hS hL)
end RULES3
