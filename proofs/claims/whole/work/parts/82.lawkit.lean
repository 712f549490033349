def R_law : String := "PathWordsLaw"
def lw_P (b : Addr) (xs : List Int32) (args : Array Value) (s : State) : Prop := args = #[.ref b] ∧ s.IntsAt b xs ∧ xs.length ≤ 2048 ∧ (Jvm.Cond.and given_1 narrow_1).before args s = true
def lw_Q (_ : Array Value) (s : State) (o : Outcome) (t : State) : Prop := o = .returned (some (.int 1)) ∧ Framed s o t [] 640613 7180410
def lw_Z (below : List Frame) (a : Array Value) (s : State) : State → Prop := fun t => ∃ o, t.status = .running ∧ Ended t below o ∧ lw_Q a s o t
/-- the law's own end, with 1 on the stack, nothing written that was there before, its room as the claim has it -/
theorem lw_ret {p : Program} {l : Launch} {e : Env} {s : State} {m : MethodId} {below : List Frame} {meth : Method} {c : Code} {b : Nat} (hx : p.tables.exec = Jvm.exec) (hb : c.code = code) (hr : meth.sig.returnType = ret) (hlocks : meth.locks = false) {pc : Nat} {H : Heap} {ls : Array Slot} (hdg : decode code pc = .ok (.ireturn, 1)) : W p l e room_1 s m #[Value.ref b] below meth c H [] 640613 7180410 (lw_Z below #[Value.ref b] s) (F0 m pc ls [.int 1]) := by
  intro T hT X
  obtain ⟨fs, hret, hrun, hended, hW, hframe⟩ := X.leave (v := some (.int 1)) (hlocks := hlocks) (fun h => by rw [hr] at h; cases h)
  have hmeth' : T.vm.method? m = some meth := X.method'
  refine ⟨T.setFrames fs, ?_, .returned (some (.int 1)), hrun, hended, rfl, ⟨_, rfl⟩, hW, hframe⟩
  jvm_step X.here [X.here.top, hx, hb, hdg, hmeth', hr, ret, narrow_b1]
  (try refine ⟨rfl, ?_⟩); (try refine ⟨rfl, ?_⟩)
  first | (intro acts; rw [hret _ acts rfl rfl rfl]) | rw [hret _ _ rfl rfl rfl]
  exact Steps.refl _
/-- what holds at the law's entry: the machine, the code, the tables' words (any of lw_tbl by 'hts w (by decide +kernel)'), the script of L ints xs at the cell b, what the Statement gives of the start (any of its parts by flat_of_before) -/
def lw_At (p : Program) (s : State) (m : MethodId) (meth : Method) (c : Code) (b L : Nat) (xs : Nat → Int32) : Prop :=
  p.tables.exec = Jvm.exec ∧ c.code = code ∧ meth.sig.returnType = ret ∧ c.maxLocals = 4 ∧ s.vm.findClass R_law = some m.cls ∧ (∀ w ∈ lw_tbl, w.before #[Value.ref b] s = true) ∧ va_X b L xs s s.heap ∧ b < s.heap.size ∧ meth.locks = false ∧ (Jvm.Cond.and given_1 narrow_1).before #[Value.ref b] s = true
theorem nst_ok : ∀ q ∈ nst, Cond.methodLinkNest q.1 q.2.1 q.2.2 RX9 ∈ lw_tbl := List.forall_mem_cons.mpr ⟨List.mem_of_getElem? (i := 65) (by decide +kernel), List.forall_mem_cons.mpr ⟨List.mem_of_getElem? (i := 96) (by decide +kernel), List.forall_mem_cons.mpr ⟨List.mem_of_getElem? (i := 117) (by decide +kernel), List.forall_mem_cons.mpr ⟨List.mem_of_getElem? (i := 158) (by decide +kernel), List.forall_mem_cons.mpr ⟨List.mem_of_getElem? (i := 177) (by decide +kernel), List.forall_mem_cons.mpr ⟨List.mem_of_getElem? (i := 251) (by decide +kernel), List.forall_mem_cons.mpr ⟨List.mem_of_getElem? (i := 258) (by decide +kernel), List.forall_mem_cons.mpr ⟨List.mem_of_getElem? (i := 277) (by decide +kernel), List.forall_mem_cons.mpr ⟨List.mem_of_getElem? (i := 280) (by decide +kernel), List.forall_mem_cons.mpr ⟨List.mem_of_getElem? (i := 359) (by decide +kernel), List.forall_mem_cons.mpr ⟨List.mem_of_getElem? (i := 408) (by decide +kernel), List.forall_mem_cons.mpr ⟨List.mem_of_getElem? (i := 471) (by decide +kernel), List.forall_mem_cons.mpr ⟨List.mem_of_getElem? (i := 629) (by decide +kernel), fun _ h => absurd h List.not_mem_nil⟩⟩⟩⟩⟩⟩⟩⟩⟩⟩⟩⟩⟩
theorem ao_3 : Cond.arrayOver (.object RX3) ∈ lw_tbl := List.mem_of_getElem? (i := 275) (by decide +kernel)
theorem ao_4 : Cond.arrayOver (.object RX4) ∈ lw_tbl := List.mem_of_getElem? (i := 115) (by decide +kernel)
theorem ao_6 : Cond.arrayOver (.object RX6) ∈ lw_tbl := List.mem_of_getElem? (i := 88) (by decide +kernel)
theorem tb_lw {w : Cond} (h : w ∈ tb) : w ∈ lw_tbl := (List.mem_filter.mp h).1
theorem kk_lw {s : State} {args : Array Value} (hts : ∀ w ∈ lw_tbl, w.before args s = true) : ∃ (D : va_G) (AC : Nat → ClassId), KK D AC s := by
  have ht : ∀ w ∈ tb, w.before args s = true := fun w h => hts w (tb_lw h)
  obtain ⟨c0, i0, k0⟩ := u_known (ws := tb) ht ckX0.2.1 (ht _ in_RX0)
  obtain ⟨c1, i1, k1⟩ := u_known (ws := tb) ht ckX1.2.1 (ht _ in_RX1)
  obtain ⟨c2, i2, k2⟩ := u_known (ws := tb) ht ckX2.2.1 (ht _ in_RX2)
  obtain ⟨c3, i3, k3⟩ := u_known (ws := tb) ht ckX3.2.1 (ht _ in_RX3)
  obtain ⟨c4, i4, k4⟩ := u_known (ws := tb) ht ckX4.2.1 (ht _ in_RX4)
  obtain ⟨c5, i5, k5⟩ := u_known (ws := tb) ht ckX5.2.1 (ht _ in_RX5)
  obtain ⟨c6, i6, k6⟩ := u_known (ws := tb) ht ckX6.2.1 (ht _ in_RX6)
  obtain ⟨c7, i7, k7⟩ := u_known (ws := tb) ht ckX7.2.1 (ht _ in_RX7)
  obtain ⟨c8, i8, k8⟩ := u_known (ws := tb) ht ckX8.2.1 (ht _ in_RX8)
  obtain ⟨c9, i9, k9⟩ := u_known (ws := tb) ht ckX9.2.1 (ht _ in_RX9)
  obtain ⟨c10, i10, k10⟩ := u_known (ws := tb) ht ckX10.2.1 (ht _ in_RX10)
  obtain ⟨a0, ka0, ca0, p0, q0, r0⟩ := Cond.arrayClass_spec (ht _ ac_int)
  obtain ⟨a1, ka1, ca1, p1, q1, r1⟩ := Cond.arrayClass_spec (ht _ ac_boolean)
  obtain ⟨m2, a2, ka2, p2, -, q2, r2, s2⟩ := Cond.arrayOver_spec (hts _ ao_3)
  obtain ⟨m3, a3, ka3, p3, -, q3, r3, s3⟩ := Cond.arrayOver_spec (hts _ ao_4)
  obtain ⟨m4, a4, ka4, p4, -, q4, r4, s4⟩ := Cond.arrayOver_spec (hts _ ao_6)
  refine ⟨(fun k => if k = 0 then c0 else if k = 1 then c1 else if k = 2 then c2 else if k = 3 then c3 else if k = 4 then c4 else if k = 5 then c5 else if k = 6 then c6 else if k = 7 then c7 else if k = 8 then c8 else if k = 9 then c9 else c10, fun k => if k = 0 then i0 else if k = 1 then i1 else if k = 2 then i2 else if k = 3 then i3 else if k = 4 then i4 else if k = 5 then i5 else if k = 6 then i6 else if k = 7 then i7 else if k = 8 then i8 else if k = 9 then i9 else i10), fun k => if k = 0 then a0 else if k = 1 then a1 else if k = 2 then a2 else if k = 3 then a3 else a4, ⟨fun k q hq => ?_, fun k q hq => ?_⟩, fun q hq => va_Nw.of rfl (hts _ (nst_ok q hq)), va_AO.of (hts _ ao_3), va_AO.of (hts _ ao_4), va_AO.of (hts _ ao_6)⟩
  · match k, hq with
    | 0, hq => cases hq; exact k0
    | 1, hq => cases hq; exact k1
    | 2, hq => cases hq; exact k2
    | 3, hq => cases hq; exact k3
    | 4, hq => cases hq; exact k4
    | 5, hq => cases hq; exact k5
    | 6, hq => cases hq; exact k6
    | 7, hq => cases hq; exact k7
    | 8, hq => cases hq; exact k8
    | 9, hq => cases hq; exact k9
    | 10, hq => cases hq; exact k10
    | k + 11, hq => simp [vwCl] at hq
  · match k, hq with
    | 0, hq => cases hq; exact ⟨fun n z => ⟨fun k h => (by cases h), ka0, q0, ca0, r0⟩, p0⟩
    | 1, hq => cases hq; exact ⟨fun n z => ⟨fun k h => (by cases h), ka1, q1, ca1, r1⟩, p1⟩
    | 2, hq => cases hq; exact ⟨fun n z => ⟨fun k h => (by cases h), ka2, q2, m2, r2⟩, ka2, m2, q2, r2, p2, s2⟩
    | 3, hq => cases hq; exact ⟨fun n z => ⟨fun k h => (by cases h), ka3, q3, m3, r3⟩, ka3, m3, q3, r3, p3, s3⟩
    | 4, hq => cases hq; exact ⟨fun n z => ⟨fun k h => (by cases h), ka4, q4, m4, r4⟩, ka4, m4, q4, r4, p4, s4⟩
    | k + 5, hq => simp [tyL] at hq
def ELaw (b L : Nat) (xs : Nat → Int32) : ET := (room_1, fun args s base => args = #[.ref b] ∧ va_X b L xs s s.heap ∧ b < s.heap.size ∧ base = s.heap.size, fun below args s _ _ _ => lw_Z below args s)
section RLAW
variable {y : MethodName} {cc : ByteArray} {nL : Nat} {ret0 : Option FieldType} {kc ks pc : Nat} {ls st : List Value} {z : Nat} {sh : SH} {mi : MI} {mr : MR} {b L : Nat} {xs : Nat → Int32}
theorem r_sld {i : Nat} (d : decode cc pc = .ok (.iaload, 1)) (hi : i < L) (hL : L ≤ 2048) (k : Wp y cc nL ret0 (ELaw b L xs) kc ks (pc + 1) ls (.int (xs i) :: st) z sh mi mr) : Wp y cc nL ret0 (ELaw b L xs) kc ks pc ls (.int (nI i) :: .ref b :: st) z sh mi mr := by
  intro p l e s m args below meth c D AC base C X H locs la hR hS hLV
  obtain ⟨x1, x2, x3, x4⟩ := id X
  refine va_sld C.1 C.2.1 x2 x3 (by omega) hS (vp_in_nI hi (by omega)) d ?_
  rw [nI_clamp (by omega)]
  exact k _ _ _ _ _ _ _ _ _ _ _ _ C X _ _ _ hR hS hLV
theorem r_slen (d : decode cc pc = .ok (.arraylength, 1)) (k : Wp y cc nL ret0 (ELaw b L xs) kc ks (pc + 1) ls (.int (nI L) :: st) z sh mi mr) : Wp y cc nL ret0 (ELaw b L xs) kc ks pc ls (.ref b :: st) z sh mi mr := by
  intro p l e s m args below meth c D AC base C X H locs la hR hS hLV
  obtain ⟨x1, x2, x3, x4⟩ := id X
  exact va_slen C.1 C.2.1 x2 x3 (by omega) hS d (k _ _ _ _ _ _ _ _ _ _ _ _ C X _ _ _ hR hS hLV)
theorem r_lret (d : decode code pc = .ok (.ireturn, 1)) (h1 : kc ≤ 640613) (h2 : ks ≤ 7180410) : Wp y code nL ret (ELaw b L xs) kc ks pc ls [.int 1] z sh mi mr := by
  intro p l e s m args below meth c D AC base C X H locs la hR hS hLV
  obtain ⟨x1, x2, x3, x4⟩ := id X
  subst x1
  refine W.widen h1 h2 (va_forget (fun q hq => ?_) ?_)
  · have := hS.2.2 q hq
    rw [← x4]; exact this
  · exact lw_ret C.1 C.2.1 C.2.2.2.1 C.2.2.2.2.1 d
end RLAW
theorem and31 (x : Int32) : ∃ c, c < 32 ∧ x &&& nI 31 = nI c := by
  refine ⟨(x &&& nI 31).toBitVec.toNat, ?_, ?_⟩
  · have e : (x &&& nI 31).toBitVec = x.toBitVec &&& (nI 31).toBitVec := rfl
    rw [e, BitVec.toNat_and]
    have h : x.toBitVec.toNat &&& (nI 31).toBitVec.toNat ≤ (nI 31).toBitVec.toNat := Nat.and_le_right
    have h31 : (nI 31).toBitVec.toNat = 31 := by decide
    omega
  · apply Int32.toBitVec.inj
    show _ = BitVec.ofNat 32 _
    simp
section LSTEP
variable {z : Nat} {sh : SH} {mi : MI} {mr : MR} {x : Nat}
def Inv (z : Nat) (sh : SH) (mi : MI) (mr : MR) (x N : Nat) (σ : Al) : Prop := CR z sh mi mr x σ ∧ LM sh mr (x + 533) ∧ RR mi (x + 533) σ ∧ okA σ N ∧ x + 544 ≤ z
theorem LM.rows {sh' : SH} {mr' : MR} {o : Nat} (h : LM sh mr o) (hs : ∀ q, o ≤ q → q < o + 11 → sh' q = sh q) (hr : mr' o = mr o) : LM sh' mr' o := by
  unfold LM at *
  rw [hr, hs o (by omega) (by omega), hs (o + 1) (by omega) (by omega), hs (o + 2) (by omega) (by omega), hs (o + 3) (by omega) (by omega), hs (o + 4) (by omega) (by omega), hs (o + 5) (by omega) (by omega), hs (o + 6) (by omega) (by omega), hs (o + 7) (by omega) (by omega), hs (o + 8) (by omega) (by omega), hs (o + 9) (by omega) (by omega), hs (o + 10) (by omega) (by omega)]
  exact h
theorem RR.rows {m : MI} {o : Nat} {σ : Al} (h : RR mi o σ) (hx : ∀ q, o ≤ q → q < o + 11 → m q = mi q) : RR m o σ := h.pad (h.1.keep (by rw [hx o (by omega) (by omega)]) (hx _ (by omega) (by omega))) (hx _ (by omega) (by omega)) (hx _ (by omega) (by omega)) (hx _ (by omega) (by omega))
theorem CR.rows {m : MI} {σ : Al} {N : Nat} (h : CR z sh mi mr x σ) (hok : okA σ N) (hx : Oth mi m (x + 533) (x + 533 + 11)) : CR z sh m mr x σ := h.keep hok MrOk.rf (fun q hq => Or.inl ⟨hx q (by omega), rfl⟩) (by rw [hx _ (by omega)])
/-- behind both calls -/
theorem Inv.both {m m' : MI} {r : MR} {N N' : Nat} {σ : Al} {p : Int32 × Al} {v : Option Value} (h : Inv z sh mi mr x N σ) (hC : CR z sh m r x p.2) (hr : ∀ q, x + 533 ≤ q → q < x + 544 → m q = mi q ∧ r q = mr q) (hM : PM m (x + 533) p v m') (hok : okA p.2 N') : Inv z sh m' r x N' p.2 := ⟨hC.rows hok hM.2.2, h.2.1.rows (fun _ _ _ => rfl) (hr _ (by omega) (by omega)).2, hM.2.1, hok, h.2.2.2.2⟩
end LSTEP
