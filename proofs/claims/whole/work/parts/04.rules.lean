/-! THE PURE MEMORY: sh: the kind and length of each cell (0..10 an object of class k, 11 int[], 12 boolean[], 13 Net[], 14 Packet[], 15 Station[], 16 nothing), mi: its ints, mr: its references -/
abbrev SH : Type := Nat → Nat × Nat
abbrev MI : Type := Nat → Nat → Int32
abbrev MR : Type := Nat → Nat → Option Nat
abbrev MD : Type := MethodName × ByteArray × Nat × Option FieldType
def nfl (k : Nat) : Nat := match k with
  | 0 => 3
  | 1 => 4
  | 2 => 2
  | 3 => 3
  | 4 => 4
  | 5 => 3
  | 6 => 13
  | 7 => 4
  | 8 => 2
  | 9 => 6
  | 10 => 16
  | _ => 0
def tyf (k : Nat) : Nat → FieldType := match k with
  | 0 => tyX0
  | 1 => tyX1
  | 2 => tyX2
  | 3 => tyX3
  | 4 => tyX4
  | 5 => tyX5
  | 6 => tyX6
  | 7 => tyX7
  | 8 => tyX8
  | 9 => tyX9
  | _ => tyX10
def isRt (t : FieldType) : Bool := match t with
  | .object _ => true
  | .array _ => true
  | _ => false
def fvl (mi : MI) (mr : MR) (a κ k : Nat) : Value := if isRt (tyf κ k) = true then va_rf (mr a k) else .int (mi a k)
def fsl (mi : MI) (mr : MR) (a κ : Nat) : List Value := (List.range (nfl κ)).map (fvl mi mr a κ)
def ce (AC : Nat → ClassId) (sh : SH) (mi : MI) (mr : MR) (a : Nat) : va_E :=
  if (sh a).1 < 11 then .inr ((sh a).1, fsl mi mr a (sh a).1)
  else if (sh a).1 < 13 then .inl (AC ((sh a).1 - 11), (sh a).2, .inl (mi a))
  else .inl (AC ((sh a).1 - 11), (sh a).2, .inr (.inr (.inr (.inr (mr a)))))
abbrev tyL (AC : Nat → ClassId) : List (ClassId × FieldType) := [(AC 0, .int), (AC 1, .boolean), (AC 2, .object RX3), (AC 3, .object RX4), (AC 4, .object RX6)]
def wl (AC : Nat → ClassId) (base z : Nat) (sh : SH) (mi : MI) (mr : MR) : va_W := (List.range (z - base)).map (fun j => (base + j, ce AC sh mi mr (base + j)))
def Rel (D : va_G) (AC : Nat → ClassId) (base z : Nat) (sh : SH) (mi : MI) (mr : MR) (H : Heap) : Prop := base ≤ z ∧ H.size = z ∧ (∀ a, (sh a).1 < 16 → base ≤ a ∧ a < z) ∧ va_P D vwCl (wl AC base z sh mi mr) H
def up2 {α : Type} (f : Nat → Nat → α) (a k : Nat) (v : α) : Nat → Nat → α := fun x j => if x = a ∧ j = k then v else f x j
theorem up2_same {α : Type} (f : Nat → Nat → α) (a k : Nat) (v : α) : up2 f a k v a k = v := by simp [up2]
theorem up2_row {α : Type} (f : Nat → Nat → α) {a k : Nat} (v : α) {x : Nat} (h : x ≠ a) : up2 f a k v x = f x := by funext j; simp [up2, h]
theorem up2_ne {α : Type} (f : Nat → Nat → α) {a k : Nat} (v : α) {x j : Nat} (h : x ≠ a ∨ j ≠ k) : up2 f a k v x j = f x j := by
  unfold up2
  rw [if_neg]
  rintro ⟨h1, h2⟩
  rcases h with h | h
  · exact h h1
  · exact h h2
theorem wl_get {AC : Nat → ClassId} {base z : Nat} {sh : SH} {mi : MI} {mr : MR} {a : Nat} (h : base ≤ a ∧ a < z) : (wl AC base z sh mi mr)[a - base]? = some (a, ce AC sh mi mr a) := by
  unfold wl
  rw [List.getElem?_map, List.getElem?_range (by omega)]
  have e : base + (a - base) = a := by omega
  simp [e]
theorem wl_set {AC : Nat → ClassId} {base z : Nat} {sh : SH} {mi mi' : MI} {mr mr' : MR} {a : Nat} (h : base ≤ a ∧ a < z) (hx : ∀ x, x ≠ a → ce AC sh mi' mr' x = ce AC sh mi mr x) : (wl AC base z sh mi mr).set (a - base) (a, ce AC sh mi' mr' a) = wl AC base z sh mi' mr' := by
  apply List.ext_getElem?
  intro j
  rw [List.getElem?_set]
  by_cases hj : a - base = j
  · subst hj
    rw [if_pos rfl, wl_get h]
    rw [if_pos (by simp [wl]; omega)]
  · rw [if_neg hj]
    unfold wl
    rw [List.getElem?_map, List.getElem?_map]
    by_cases hl : j < z - base
    · rw [List.getElem?_range hl]
      simp only [Option.map_some]
      rw [hx (base + j) (by omega)]
    · rw [List.getElem?_eq_none (by simp; omega)]
      rfl
theorem ce_obj {AC : Nat → ClassId} {sh : SH} {mi : MI} {mr : MR} {a κ : Nat} (h : (sh a).1 = κ) (hκ : κ < 11) : ce AC sh mi mr a = .inr (κ, fsl mi mr a κ) := by
  unfold ce; rw [h, if_pos hκ]
theorem ce_int {AC : Nat → ClassId} {sh : SH} {mi : MI} {mr : MR} {a n : Nat} (h : sh a = (11, n)) : ce AC sh mi mr a = .inl (AC 0, n, .inl (mi a)) := by
  unfold ce; rw [h]; rfl
theorem ce_bool {AC : Nat → ClassId} {sh : SH} {mi : MI} {mr : MR} {a n : Nat} (h : sh a = (12, n)) : ce AC sh mi mr a = .inl (AC 1, n, .inl (mi a)) := by
  unfold ce; rw [h]; rfl
theorem ce_ref {AC : Nat → ClassId} {sh : SH} {mi : MI} {mr : MR} {a κ n : Nat} (h : sh a = (κ, n)) (hκ : 13 ≤ κ) : ce AC sh mi mr a = .inl (AC (κ - 11), n, .inr (.inr (.inr (.inr (mr a))))) := by
  unfold ce; rw [h, if_neg (by simp; omega), if_neg (by simp; omega)]
theorem ce_kept {AC : Nat → ClassId} {sh : SH} {mi mi' : MI} {mr mr' : MR} {x : Nat} (h1 : mi' x = mi x) (h2 : mr' x = mr x) : ce AC sh mi' mr' x = ce AC sh mi mr x := by
  unfold ce fsl fvl; rw [h1, h2]
theorem fsl_get {mi : MI} {mr : MR} {a κ k : Nat} (h : k < nfl κ) : (fsl mi mr a κ)[k]? = some (fvl mi mr a κ k) := by
  unfold fsl
  rw [List.getElem?_map, List.getElem?_range h]; rfl
theorem fsl_set {mi mi' : MI} {mr mr' : MR} {a κ k : Nat} (hx : ∀ j, j ≠ k → mi' a j = mi a j ∧ mr' a j = mr a j) : (fsl mi mr a κ).set k (fvl mi' mr' a κ k) = fsl mi' mr' a κ := by
  apply List.ext_getElem?
  intro j
  rw [List.getElem?_set]
  by_cases hj : k = j
  · subst hj
    rw [if_pos rfl]
    by_cases hl : k < nfl κ
    · rw [if_pos (by simp [fsl]; omega), fsl_get hl]
    · rw [if_neg (by simp [fsl]; omega), List.getElem?_eq_none (by simp [fsl]; omega)]
  · rw [if_neg hj]
    by_cases hl : j < nfl κ
    · rw [fsl_get hl, fsl_get hl]
      unfold fvl
      rw [(hx j (fun e => hj e.symm)).1, (hx j (fun e => hj e.symm)).2]
    · rw [List.getElem?_eq_none (by simp [fsl]; omega), List.getElem?_eq_none (by simp [fsl]; omega)]

/-- the words of the tables that a call keeps -/
def tb : List Cond := lw_tbl.filter goodWord
theorem tb_in {ws : List Cond} (h : ∀ w ∈ ws, w ∈ tb) : GoodIn tb ws := fun w hw => ⟨h w hw, good_of_word (List.mem_filter.mp (h w hw)).2⟩
def nst : List (String × Nat × MethodName) := [(RX9, 9, yX5_init), (RX6, 11, yX2_init), (RX0, 21, yX4_init), (RX6, 44, yX1_init), (RX6, 51, yX4_init), (RX9, 25, yX7_init), (RX7, 20, yX4_init), (RX9, 36, yX4_init), (RX9, 43, yX8_init), (RX5, 52, yX9_isHops), (RX3, 35, yX9_isStation), (RX3, 42, yX9_isIn), (RX7, 36, yX9_isStation)]
def NW (U : State) : Prop := (∀ q ∈ nst, va_Nw (.methodLinkNest q.1 q.2.1 q.2.2 RX9) U) ∧ va_AO RX3 U ∧ va_AO RX4 U ∧ va_AO RX6 U
def KK (D : va_G) (AC : Nat → ClassId) (U : State) : Prop := va_K D vwCl (tyL AC) U ∧ NW U
theorem KK.warm {D : va_G} {AC : Nat → ClassId} {s U : State} (hW : s.WarmedH U.vm) (h : KK D AC s) : KK D AC U := ⟨va_K.moved hW.alike h.1, fun q hq => va_Nw.warmM hW (h.2.1 q hq), h.2.2.1.moved hW.alike, h.2.2.2.1.moved hW.alike, h.2.2.2.2.moved hW.alike⟩
theorem KK.same {D : va_G} {AC : Nat → ClassId} {s U : State} (hW : s.vm = U.vm) (h : KK D AC s) : KK D AC U := ⟨va_K.moved (hW ▸ Vm.Alike.refl s.vm) h.1, fun q hq => va_Nw.same rfl hW (h.2.1 q hq), h.2.2.1.moved (hW ▸ Vm.Alike.refl s.vm), h.2.2.2.1.moved (hW ▸ Vm.Alike.refl s.vm), h.2.2.2.2.moved (hW ▸ Vm.Alike.refl s.vm)⟩
/-- the context of a walk: the machine, the code, the tables' words, the classes -/
def Cx (y : MethodName) (cc : ByteArray) (nL : Nat) (ret : Option FieldType) (p : Program) (s : State) (m : MethodId) (args : Array Value) (meth : Method) (c : Code) (D : va_G) (AC : Nat → ClassId) (base : Nat) : Prop :=
  p.tables.exec = Jvm.exec ∧ c.code = cc ∧ c.maxLocals = nL ∧ meth.sig.returnType = ret ∧ meth.locks = false ∧ s.vm.findClass y.cls = some m.cls ∧ (∀ w ∈ tb, w.before args s = true) ∧ KK D AC s ∧ base ≤ s.heap.size ∧ (y.name = "<init>" → meth.name = "<init>")
def LV (la : Array Slot) (nL : Nat) (ls : List Value) : Prop := la.size = nL ∧ lv_wf la ∧ ∀ (k : Nat) (v : Value), ls[k]? = some v → la[k]? = some (.val v) ∧ v.category = 1
abbrev ET : Type := Room × (Array Value → State → Nat → Prop) × (List Frame → Array Value → State → va_G → (Nat → ClassId) → Nat → State → Prop)
def Wp (y : MethodName) (cc : ByteArray) (nL : Nat) (ret : Option FieldType) (E : ET) (kc ks pc : Nat) (ls st : List Value) (z : Nat) (sh : SH) (mi : MI) (mr : MR) : Prop :=
  ∀ (p : Program) (l : Launch) (e : Env) (s : State) (m : MethodId) (args : Array Value) (below : List Frame) (meth : Method) (c : Code) (D : va_G) (AC : Nat → ClassId) (base : Nat), Cx y cc nL ret p s m args meth c D AC base → E.2.1 args s base →
    ∀ (H : Heap) (locs : List Loc) (la : Array Slot), Rel D AC base z sh mi mr H → va_S (fun q => base ≤ q) s.heap H locs → LV la nL ls → W p l e E.1 s m args below meth c H locs kc ks (E.2.2 below args s D AC base) (F0 m pc la st)
def setL : List Value → Nat → Value → List Value
  | [], _, v => [v]
  | _ :: t, 0, v => v :: t
  | x :: t, n + 1, v => x :: setL t n v
theorem setL_get : ∀ (ls : List Value) (i : Nat) (v : Value), i ≤ ls.length → ∀ (k : Nat) (u : Value), (setL ls i v)[k]? = some u → (k = i ∧ u = v) ∨ (k ≠ i ∧ ls[k]? = some u)
  | [], i, v, hi, k, u, h => by
    have hi0 : i = 0 := by simpa using hi
    subst hi0
    cases k with
    | zero => simp [setL] at h; exact Or.inl ⟨rfl, h.symm⟩
    | succ k => simp [setL] at h
  | x :: t, 0, v, hi, k, u, h => by
    cases k with
    | zero => simp [setL] at h; exact Or.inl ⟨rfl, h.symm⟩
    | succ k => simp [setL] at h; exact Or.inr ⟨by omega, by simpa using h⟩
  | x :: t, n + 1, v, hi, k, u, h => by
    cases k with
    | zero => simp [setL] at h; exact Or.inr ⟨by omega, by simpa using h⟩
    | succ k =>
      simp only [setL, List.getElem?_cons_succ] at h
      rcases setL_get t n v (by simpa using hi) k u h with ⟨h1, h2⟩ | ⟨h1, h2⟩
      · exact Or.inl ⟨by omega, h2⟩
      · exact Or.inr ⟨by omega, by simpa using h2⟩
def lvE (ls : List Value) : List (Nat × Value) := (List.range ls.length).filterMap (fun k => (ls[k]?).map (fun v => (k, v)))
theorem LV.has {la : Array Slot} {nL : Nat} {ls : List Value} (h : LV la nL ls) : lv_has la nL (lvE ls) := by
  refine ⟨h.1, h.2.1, fun q hq => ?_⟩
  obtain ⟨k, -, hk⟩ := List.mem_filterMap.mp hq
  cases hv : ls[k]? with
  | none => rw [hv] at hk; cases hk
  | some v => rw [hv] at hk; cases hk; exact (h.2.2 k v hv).1
theorem LV.store {la la' : Array Slot} {nL : Nat} {ls : List Value} {i : Nat} {v : Value} (h : LV la nL ls) (hi : i ≤ ls.length) (hc : v.category = 1) (h' : lv_has la' nL ((i, v) :: (lvE ls).filter (fun q => !(q.1 == i) && !(q.1 + 1 == i && q.2.category == 2)))) : LV la' nL (setL ls i v) := by
  refine ⟨h'.1, h'.2.1, fun k u hk => ?_⟩
  rcases setL_get ls i v hi k u hk with ⟨rfl, rfl⟩ | ⟨h1, h2⟩
  · exact ⟨h'.2.2 (k, u) List.mem_cons_self, hc⟩
  · have hcu := (h.2.2 k u h2).2
    refine ⟨h'.2.2 (k, u) (List.mem_cons_of_mem _ (List.mem_filter.mpr ⟨List.mem_filterMap.mpr ⟨k, List.mem_range.mpr (List.getElem?_eq_some_iff.mp h2).1, by rw [h2]; rfl⟩, ?_⟩)), hcu⟩
    simp [h1, hcu]
theorem LV.sub {la : Array Slot} {nL : Nat} {ls ls' : List Value} (h : LV la nL (ls ++ ls')) : LV la nL ls :=
  ⟨h.1, h.2.1, fun k v hk => h.2.2 k v (by rw [List.getElem?_append_left (List.getElem?_eq_some_iff.mp hk).1]; exact hk)⟩
section RULES
variable {y : MethodName} {cc : ByteArray} {nL : Nat} {ret : Option FieldType} {E : ET} {kc ks pc : Nat} {ls st : List Value} {z : Nat} {sh : SH} {mi : MI} {mr : MR}
theorem r_drop {ls' : List Value} (k : Wp y cc nL ret E kc ks pc ls st z sh mi mr) : Wp y cc nL ret E kc ks pc (ls ++ ls') st z sh mi mr := by
  intro p l e s m args below meth c D AC base C X H locs la hR hS hL
  exact k _ _ _ _ _ _ _ _ _ _ _ _ C X _ _ _ hR hS hL.sub
theorem r_top {x x' : Int32} (h : x = x') (k : Wp y cc nL ret E kc ks pc ls (.int x' :: st) z sh mi mr) : Wp y cc nL ret E kc ks pc ls (.int x :: st) z sh mi mr := by rw [h]; exact k
theorem r_mem {mi' : MI} (h : mi = mi') (k : Wp y cc nL ret E kc ks pc ls st z sh mi' mr) : Wp y cc nL ret E kc ks pc ls st z sh mi mr := by rw [h]; exact k
def CK (κ : Nat) (C : String) (T : u_T) (N : Nat) : Prop := vwCl[κ]? = some (C, T, N) ∧ (∀ w ∈ u_ws C T N, w ∈ tb) ∧ (∀ k, k < N → parseFieldDescriptor (T k).2.2.1 = some (tyf κ k)) ∧ (∀ a, a < N → ∀ b, b < N → a ≠ b → (T a).2.1 ≠ (T b).2.1) ∧ N = nfl κ ∧ κ < 11
theorem r_iconst {n : Int} {v : Int32} (d : decode cc pc = .ok (.iconst n, 1)) (hv : Int32.ofInt n = v) (k : Wp y cc nL ret E kc ks (pc + 1) ls (.int v :: st) z sh mi mr) : Wp y cc nL ret E kc ks pc ls st z sh mi mr := by
  intro p l e s m args below meth c D AC base C X H locs la hR hS hL
  exact lv_iconst C.1 C.2.1 d hv (k _ _ _ _ _ _ _ _ _ _ _ _ C X _ _ _ hR hS hL)
theorem r_bipush {n : Int} {v : Int32} (d : decode cc pc = .ok (.bipush n, 2)) (hv : (Int8.ofInt n).toInt32 = v) (k : Wp y cc nL ret E kc ks (pc + 2) ls (.int v :: st) z sh mi mr) : Wp y cc nL ret E kc ks pc ls st z sh mi mr := by
  intro p l e s m args below meth c D AC base C X H locs la hR hS hL
  exact lv_bipush C.1 C.2.1 d hv (k _ _ _ _ _ _ _ _ _ _ _ _ C X _ _ _ hR hS hL)
theorem r_sipush {n : Int} {v : Int32} (d : decode cc pc = .ok (.sipush n, 3)) (hv : (Int16.ofInt n).toInt32 = v) (k : Wp y cc nL ret E kc ks (pc + 3) ls (.int v :: st) z sh mi mr) : Wp y cc nL ret E kc ks pc ls st z sh mi mr := by
  intro p l e s m args below meth c D AC base C X H locs la hR hS hL
  exact lv_sipush C.1 C.2.1 d hv (k _ _ _ _ _ _ _ _ _ _ _ _ C X _ _ _ hR hS hL)
theorem r_ldc {n : Nat} {v : Int32} (d : decode cc pc = .ok (.ldc n, 2)) (hv : Cond.constant y.cls n v ∈ tb) (k : Wp y cc nL ret E kc ks (pc + 2) ls (.int v :: st) z sh mi mr) : Wp y cc nL ret E kc ks pc ls st z sh mi mr := by
  intro p l e s m args below meth c D AC base C X H locs la hR hS hL
  exact lv_ldc C.1 C.2.1 C.2.2.2.2.2.1 (C.2.2.2.2.2.2.1 _ hv) d (k _ _ _ _ _ _ _ _ _ _ _ _ C X _ _ _ hR hS hL)
theorem r_ldcw {n : Nat} {v : Int32} (d : decode cc pc = .ok (.ldc_w n, 3)) (hv : Cond.constant y.cls n v ∈ tb) (k : Wp y cc nL ret E kc ks (pc + 3) ls (.int v :: st) z sh mi mr) : Wp y cc nL ret E kc ks pc ls st z sh mi mr := by
  intro p l e s m args below meth c D AC base C X H locs la hR hS hL
  exact lv_ldcw C.1 C.2.1 C.2.2.2.2.2.1 (C.2.2.2.2.2.2.1 _ hv) d (k _ _ _ _ _ _ _ _ _ _ _ _ C X _ _ _ hR hS hL)
theorem r_iload_n {q : Fin 4} (i : Nat) {x : Int32} (d : decode cc pc = .ok (.iload_n q, 1)) (hi : (q : Nat) = i) (hl : ls[i]? = some (.int x)) (k : Wp y cc nL ret E kc ks (pc + 1) ls (.int x :: st) z sh mi mr) : Wp y cc nL ret E kc ks pc ls st z sh mi mr := by
  intro p l e s m args below meth c D AC base C X H locs la hR hS hL
  exact lv_iload_n C.1 C.2.1 d hi (hL.2.2 i _ hl).1 (k _ _ _ _ _ _ _ _ _ _ _ _ C X _ _ _ hR hS hL)
theorem r_iload (i : Nat) {x : Int32} (d : decode cc pc = .ok (.iload i, 2)) (hl : ls[i]? = some (.int x)) (k : Wp y cc nL ret E kc ks (pc + 2) ls (.int x :: st) z sh mi mr) : Wp y cc nL ret E kc ks pc ls st z sh mi mr := by
  intro p l e s m args below meth c D AC base C X H locs la hR hS hL
  exact lv_iload C.1 C.2.1 d (hL.2.2 i _ hl).1 (k _ _ _ _ _ _ _ _ _ _ _ _ C X _ _ _ hR hS hL)
theorem r_istore_n {q : Fin 4} (i : Nat) {x : Int32} {ls2 : List Value} (d : decode cc pc = .ok (.istore_n q, 1)) (hi : (q : Nat) = i) (hn : i < nL) (hi2 : i ≤ ls.length) (he : setL ls i (.int x) = ls2) (k : Wp y cc nL ret E kc ks (pc + 1) ls2 st z sh mi mr) : Wp y cc nL ret E kc ks pc ls (.int x :: st) z sh mi mr := by
  intro p l e s m args below meth c D AC base C X H locs la hR hS hL
  exact lv_istore_n C.1 C.2.1 d hi hL.has hn rfl (fun la2 h2 => k _ _ _ _ _ _ _ _ _ _ _ _ C X _ _ _ hR hS (he ▸ hL.store hi2 rfl h2))
theorem r_istore (i : Nat) {x : Int32} {ls2 : List Value} (d : decode cc pc = .ok (.istore i, 2)) (hn : i < nL) (hi2 : i ≤ ls.length) (he : setL ls i (.int x) = ls2) (k : Wp y cc nL ret E kc ks (pc + 2) ls2 st z sh mi mr) : Wp y cc nL ret E kc ks pc ls (.int x :: st) z sh mi mr := by
  intro p l e s m args below meth c D AC base C X H locs la hR hS hL
  exact lv_istore C.1 C.2.1 d hL.has hn rfl (fun la2 h2 => k _ _ _ _ _ _ _ _ _ _ _ _ C X _ _ _ hR hS (he ▸ hL.store hi2 rfl h2))
theorem r_aload_n {q : Fin 4} (i : Nat) {x : Nat} (d : decode cc pc = .ok (.aload_n q, 1)) (hi : (q : Nat) = i) (hl : ls[i]? = some (.ref x)) (k : Wp y cc nL ret E kc ks (pc + 1) ls (.ref x :: st) z sh mi mr) : Wp y cc nL ret E kc ks pc ls st z sh mi mr := by
  intro p l e s m args below meth c D AC base C X H locs la hR hS hL
  exact lv_aload_n C.1 C.2.1 d hi (hL.2.2 i _ hl).1 (k _ _ _ _ _ _ _ _ _ _ _ _ C X _ _ _ hR hS hL)
theorem r_aload (i : Nat) {x : Nat} (d : decode cc pc = .ok (.aload i, 2)) (hl : ls[i]? = some (.ref x)) (k : Wp y cc nL ret E kc ks (pc + 2) ls (.ref x :: st) z sh mi mr) : Wp y cc nL ret E kc ks pc ls st z sh mi mr := by
  intro p l e s m args below meth c D AC base C X H locs la hR hS hL
  exact lv_aload C.1 C.2.1 d (hL.2.2 i _ hl).1 (k _ _ _ _ _ _ _ _ _ _ _ _ C X _ _ _ hR hS hL)
theorem r_astore_n {q : Fin 4} (i : Nat) {x : Nat} {ls2 : List Value} (d : decode cc pc = .ok (.astore_n q, 1)) (hi : (q : Nat) = i) (hn : i < nL) (hi2 : i ≤ ls.length) (he : setL ls i (.ref x) = ls2) (k : Wp y cc nL ret E kc ks (pc + 1) ls2 st z sh mi mr) : Wp y cc nL ret E kc ks pc ls (.ref x :: st) z sh mi mr := by
  intro p l e s m args below meth c D AC base C X H locs la hR hS hL
  exact lv_astore_n C.1 C.2.1 d hi hL.has hn rfl (fun la2 h2 => k _ _ _ _ _ _ _ _ _ _ _ _ C X _ _ _ hR hS (he ▸ hL.store hi2 rfl h2))
theorem r_astore (i : Nat) {x : Nat} {ls2 : List Value} (d : decode cc pc = .ok (.astore i, 2)) (hn : i < nL) (hi2 : i ≤ ls.length) (he : setL ls i (.ref x) = ls2) (k : Wp y cc nL ret E kc ks (pc + 2) ls2 st z sh mi mr) : Wp y cc nL ret E kc ks pc ls (.ref x :: st) z sh mi mr := by
  intro p l e s m args below meth c D AC base C X H locs la hR hS hL
  exact lv_astore C.1 C.2.1 d hL.has hn rfl (fun la2 h2 => k _ _ _ _ _ _ _ _ _ _ _ _ C X _ _ _ hR hS (he ▸ hL.store hi2 rfl h2))
theorem lvE_get {ls : List Value} {i : Nat} {v : Value} (h : ls[i]? = some v) : ∃ k : Nat, (lvE ls)[k]? = some (i, v) := by
  have hm : (i, v) ∈ lvE ls := List.mem_filterMap.mpr ⟨i, List.mem_range.mpr (List.getElem?_eq_some_iff.mp h).1, by rw [h]; rfl⟩
  exact List.getElem?_of_mem hm
theorem r_iinc (i : Nat) {n : Int} {x v : Int32} {ls2 : List Value} (d : decode cc pc = .ok (.iinc i n, 3)) (hl : ls[i]? = some (.int x)) (hv : x + Int32.ofInt n = v) (hn : i < nL) (he : setL ls i (.int v) = ls2) (k : Wp y cc nL ret E kc ks (pc + 3) ls2 st z sh mi mr) : Wp y cc nL ret E kc ks pc ls st z sh mi mr := by
  intro p l e s m args below meth c D AC base C X H locs la hR hS hL
  obtain ⟨k0, hk0⟩ := lvE_get hl
  exact lv_iinc C.1 C.2.1 d hL.has hk0 hv hn rfl (fun la2 h2 => k _ _ _ _ _ _ _ _ _ _ _ _ C X _ _ _ hR hS (he ▸ hL.store (Nat.le_of_lt (List.getElem?_eq_some_iff.mp hl).1) rfl h2))
theorem r_iadd {x y0 : Int32} (d : decode cc pc = .ok (.iadd, 1)) (k : Wp y cc nL ret E kc ks (pc + 1) ls (.int (x + y0) :: st) z sh mi mr) : Wp y cc nL ret E kc ks pc ls (.int y0 :: .int x :: st) z sh mi mr := by
  intro p l e s m args below meth c D AC base C X H locs la hR hS hL
  exact lv_iadd C.1 C.2.1 d (k _ _ _ _ _ _ _ _ _ _ _ _ C X _ _ _ hR hS hL)
theorem r_isub {x y0 : Int32} (d : decode cc pc = .ok (.isub, 1)) (k : Wp y cc nL ret E kc ks (pc + 1) ls (.int (x - y0) :: st) z sh mi mr) : Wp y cc nL ret E kc ks pc ls (.int y0 :: .int x :: st) z sh mi mr := by
  intro p l e s m args below meth c D AC base C X H locs la hR hS hL
  exact lv_isub C.1 C.2.1 d (k _ _ _ _ _ _ _ _ _ _ _ _ C X _ _ _ hR hS hL)
theorem r_imul {x y0 : Int32} (d : decode cc pc = .ok (.imul, 1)) (k : Wp y cc nL ret E kc ks (pc + 1) ls (.int (x * y0) :: st) z sh mi mr) : Wp y cc nL ret E kc ks pc ls (.int y0 :: .int x :: st) z sh mi mr := by
  intro p l e s m args below meth c D AC base C X H locs la hR hS hL
  exact lv_imul C.1 C.2.1 d (k _ _ _ _ _ _ _ _ _ _ _ _ C X _ _ _ hR hS hL)
theorem r_iand {x y0 : Int32} (d : decode cc pc = .ok (.iand, 1)) (k : Wp y cc nL ret E kc ks (pc + 1) ls (.int (x &&& y0) :: st) z sh mi mr) : Wp y cc nL ret E kc ks pc ls (.int y0 :: .int x :: st) z sh mi mr := by
  intro p l e s m args below meth c D AC base C X H locs la hR hS hL
  exact lv_iand C.1 C.2.1 d (k _ _ _ _ _ _ _ _ _ _ _ _ C X _ _ _ hR hS hL)
theorem r_ior {x y0 : Int32} (d : decode cc pc = .ok (.ior, 1)) (k : Wp y cc nL ret E kc ks (pc + 1) ls (.int (x ||| y0) :: st) z sh mi mr) : Wp y cc nL ret E kc ks pc ls (.int y0 :: .int x :: st) z sh mi mr := by
  intro p l e s m args below meth c D AC base C X H locs la hR hS hL
  exact lv_ior C.1 C.2.1 d (k _ _ _ _ _ _ _ _ _ _ _ _ C X _ _ _ hR hS hL)
theorem r_ixor {x y0 : Int32} (d : decode cc pc = .ok (.ixor, 1)) (k : Wp y cc nL ret E kc ks (pc + 1) ls (.int (x ^^^ y0) :: st) z sh mi mr) : Wp y cc nL ret E kc ks pc ls (.int y0 :: .int x :: st) z sh mi mr := by
  intro p l e s m args below meth c D AC base C X H locs la hR hS hL
  exact lv_ixor C.1 C.2.1 d (k _ _ _ _ _ _ _ _ _ _ _ _ C X _ _ _ hR hS hL)
theorem r_ishl {x y0 : Int32} (d : decode cc pc = .ok (.ishl, 1)) (k : Wp y cc nL ret E kc ks (pc + 1) ls (.int (x <<< (y0 &&& 31)) :: st) z sh mi mr) : Wp y cc nL ret E kc ks pc ls (.int y0 :: .int x :: st) z sh mi mr := by
  intro p l e s m args below meth c D AC base C X H locs la hR hS hL
  exact lv_ishl C.1 C.2.1 d (k _ _ _ _ _ _ _ _ _ _ _ _ C X _ _ _ hR hS hL)
theorem r_ishr {x y0 : Int32} (d : decode cc pc = .ok (.ishr, 1)) (k : Wp y cc nL ret E kc ks (pc + 1) ls (.int (x >>> (y0 &&& 31)) :: st) z sh mi mr) : Wp y cc nL ret E kc ks pc ls (.int y0 :: .int x :: st) z sh mi mr := by
  intro p l e s m args below meth c D AC base C X H locs la hR hS hL
  exact lv_ishr C.1 C.2.1 d (k _ _ _ _ _ _ _ _ _ _ _ _ C X _ _ _ hR hS hL)
theorem r_iushr {x y0 v : Int32} (d : decode cc pc = .ok (.iushr, 1)) (hv : (x.toUInt32 >>> (y0.toUInt32 &&& Int32.toUInt32 31)).toInt32 = v) (k : Wp y cc nL ret E kc ks (pc + 1) ls (.int v :: st) z sh mi mr) : Wp y cc nL ret E kc ks pc ls (.int y0 :: .int x :: st) z sh mi mr := by
  intro p l e s m args below meth c D AC base C X H locs la hR hS hL
  exact lv_iushr C.1 C.2.1 d hv (k _ _ _ _ _ _ _ _ _ _ _ _ C X _ _ _ hR hS hL)
theorem r_idiv {x y0 : Int32} (d : decode cc pc = .ok (.idiv, 1)) (hne : ¬ y0 = 0) (k : Wp y cc nL ret E kc ks (pc + 1) ls (.int (x / y0) :: st) z sh mi mr) : Wp y cc nL ret E kc ks pc ls (.int y0 :: .int x :: st) z sh mi mr := by
  intro p l e s m args below meth c D AC base C X H locs la hR hS hL
  exact lv_idiv C.1 C.2.1 d hne (k _ _ _ _ _ _ _ _ _ _ _ _ C X _ _ _ hR hS hL)
theorem r_irem {x y0 : Int32} (d : decode cc pc = .ok (.irem, 1)) (hne : ¬ y0 = 0) (k : Wp y cc nL ret E kc ks (pc + 1) ls (.int (x - x / y0 * y0) :: st) z sh mi mr) : Wp y cc nL ret E kc ks pc ls (.int y0 :: .int x :: st) z sh mi mr := by
  intro p l e s m args below meth c D AC base C X H locs la hR hS hL
  exact lv_irem C.1 C.2.1 d hne (k _ _ _ _ _ _ _ _ _ _ _ _ C X _ _ _ hR hS hL)
theorem r_iaddN {a b : Nat} (d : decode cc pc = .ok (.iadd, 1)) (k : Wp y cc nL ret E kc ks (pc + 1) ls (.int (nI (a + b)) :: st) z sh mi mr) : Wp y cc nL ret E kc ks pc ls (.int (nI b) :: .int (nI a) :: st) z sh mi mr := r_iadd d (r_top (nI_add a b) k)
theorem r_imulN {a b : Nat} (d : decode cc pc = .ok (.imul, 1)) (k : Wp y cc nL ret E kc ks (pc + 1) ls (.int (nI (a * b)) :: st) z sh mi mr) : Wp y cc nL ret E kc ks pc ls (.int (nI b) :: .int (nI a) :: st) z sh mi mr := r_imul d (r_top (pk_mul a b) k)
theorem r_isubN {a b : Nat} (d : decode cc pc = .ok (.isub, 1)) (h : b ≤ a) (k : Wp y cc nL ret E kc ks (pc + 1) ls (.int (nI (a - b)) :: st) z sh mi mr) : Wp y cc nL ret E kc ks pc ls (.int (nI b) :: .int (nI a) :: st) z sh mi mr := r_isub d (r_top (pk_sub h) k)
theorem r_idivN {a b : Nat} (d : decode cc pc = .ok (.idiv, 1)) (ha : a < 2 ^ 31) (h0 : 0 < b) (hb : b < 2 ^ 31) (k : Wp y cc nL ret E kc ks (pc + 1) ls (.int (nI (a / b)) :: st) z sh mi mr) : Wp y cc nL ret E kc ks pc ls (.int (nI b) :: .int (nI a) :: st) z sh mi mr := r_idiv d (nI_ne0 h0 hb) (r_top (pk_div ha h0 hb) k)
theorem r_iremN {a b : Nat} (d : decode cc pc = .ok (.irem, 1)) (ha : a < 2 ^ 31) (h0 : 0 < b) (hb : b < 2 ^ 31) (k : Wp y cc nL ret E kc ks (pc + 1) ls (.int (nI (a % b)) :: st) z sh mi mr) : Wp y cc nL ret E kc ks pc ls (.int (nI b) :: .int (nI a) :: st) z sh mi mr := r_irem d (nI_ne0 h0 hb) (r_top (pk_rem ha h0 hb) k)
theorem r_iincN (i : Nat) {n : Int} {a b : Nat} {ls2 : List Value} (d : decode cc pc = .ok (.iinc i n, 3)) (hl : ls[i]? = some (.int (nI a))) (hv : Int32.ofInt n = nI b) (hn : i < nL) (he : setL ls i (.int (nI (a + b))) = ls2) (k : Wp y cc nL ret E kc ks (pc + 3) ls2 st z sh mi mr) : Wp y cc nL ret E kc ks pc ls st z sh mi mr := r_iinc i d hl (by rw [hv]; exact nI_add a b) hn he k
theorem r_dup {v : Value} (d : decode cc pc = .ok (.dup, 1)) (hc : v.category = 1) (k : Wp y cc nL ret E kc ks (pc + 1) ls (v :: v :: st) z sh mi mr) : Wp y cc nL ret E kc ks pc ls (v :: st) z sh mi mr := by
  intro p l e s m args below meth c D AC base C X H locs la hR hS hL
  exact lv_dup C.1 C.2.1 d hc (k _ _ _ _ _ _ _ _ _ _ _ _ C X _ _ _ hR hS hL)
theorem r_pop {v : Value} (d : decode cc pc = .ok (.pop, 1)) (hc : v.category = 1) (k : Wp y cc nL ret E kc ks (pc + 1) ls st z sh mi mr) : Wp y cc nL ret E kc ks pc ls (v :: st) z sh mi mr := by
  intro p l e s m args below meth c D AC base C X H locs la hR hS hL
  exact lv_pop C.1 C.2.1 d hc (k _ _ _ _ _ _ _ _ _ _ _ _ C X _ _ _ hR hS hL)
theorem r_dup2 {v u : Value} (d : decode cc pc = .ok (.dup2, 1)) (hc : v.category = 1) (hc2 : u.category = 1) (k : Wp y cc nL ret E kc ks (pc + 1) ls (v :: u :: v :: u :: st) z sh mi mr) : Wp y cc nL ret E kc ks pc ls (v :: u :: st) z sh mi mr := by
  intro p l e s m args below meth c D AC base C X H locs la hR hS hL
  exact lv_dup2_11 C.1 C.2.1 d hc hc2 (k _ _ _ _ _ _ _ _ _ _ _ _ C X _ _ _ hR hS hL)
theorem r_goto {off : Int} (tgt : Nat) (d : decode cc pc = .ok (.goto off, 3)) (ht : (pc : Int) + off = (tgt : Int)) (k : Wp y cc nL ret E kc ks tgt ls st z sh mi mr) : Wp y cc nL ret E kc ks pc ls st z sh mi mr := by
  intro p l e s m args below meth c D AC base C X H locs la hR hS hL
  exact lv_goto C.1 C.2.1 d ht (k _ _ _ _ _ _ _ _ _ _ _ _ C X _ _ _ hR hS hL)
theorem r_if_eq {x : Int32} {off : Int} (tgt : Nat) (d : decode cc pc = .ok (.ifCond .eq off, 3)) (ht : (pc : Int) + off = (tgt : Int)) (kt : x = 0 → Wp y cc nL ret E kc ks tgt ls st z sh mi mr) (kf : ¬ x = 0 → Wp y cc nL ret E kc ks (pc + 3) ls st z sh mi mr) : Wp y cc nL ret E kc ks pc ls (.int x :: st) z sh mi mr := by
  intro p l e s m args below meth c D AC base C X H locs la hR hS hL
  exact lv_if_eq C.1 C.2.1 d ht (fun h => kt h _ _ _ _ _ _ _ _ _ _ _ _ C X _ _ _ hR hS hL) (fun h => kf h _ _ _ _ _ _ _ _ _ _ _ _ C X _ _ _ hR hS hL)
theorem r_icmp_eq {x y0 : Int32} {off : Int} (tgt : Nat) (d : decode cc pc = .ok (.if_icmp .eq off, 3)) (ht : (pc : Int) + off = (tgt : Int)) (kt : x = y0 → Wp y cc nL ret E kc ks tgt ls st z sh mi mr) (kf : ¬ x = y0 → Wp y cc nL ret E kc ks (pc + 3) ls st z sh mi mr) : Wp y cc nL ret E kc ks pc ls (.int y0 :: .int x :: st) z sh mi mr := by
  intro p l e s m args below meth c D AC base C X H locs la hR hS hL
  exact lv_icmp_eq C.1 C.2.1 d ht (fun h => kt h _ _ _ _ _ _ _ _ _ _ _ _ C X _ _ _ hR hS hL) (fun h => kf h _ _ _ _ _ _ _ _ _ _ _ _ C X _ _ _ hR hS hL)
theorem r_if_ne {x : Int32} {off : Int} (tgt : Nat) (d : decode cc pc = .ok (.ifCond .ne off, 3)) (ht : (pc : Int) + off = (tgt : Int)) (kt : ¬ x = 0 → Wp y cc nL ret E kc ks tgt ls st z sh mi mr) (kf : x = 0 → Wp y cc nL ret E kc ks (pc + 3) ls st z sh mi mr) : Wp y cc nL ret E kc ks pc ls (.int x :: st) z sh mi mr := by
  intro p l e s m args below meth c D AC base C X H locs la hR hS hL
  exact lv_if_ne C.1 C.2.1 d ht (fun h => kt h _ _ _ _ _ _ _ _ _ _ _ _ C X _ _ _ hR hS hL) (fun h => kf h _ _ _ _ _ _ _ _ _ _ _ _ C X _ _ _ hR hS hL)
theorem r_icmp_ne {x y0 : Int32} {off : Int} (tgt : Nat) (d : decode cc pc = .ok (.if_icmp .ne off, 3)) (ht : (pc : Int) + off = (tgt : Int)) (kt : ¬ x = y0 → Wp y cc nL ret E kc ks tgt ls st z sh mi mr) (kf : x = y0 → Wp y cc nL ret E kc ks (pc + 3) ls st z sh mi mr) : Wp y cc nL ret E kc ks pc ls (.int y0 :: .int x :: st) z sh mi mr := by
  intro p l e s m args below meth c D AC base C X H locs la hR hS hL
  exact lv_icmp_ne C.1 C.2.1 d ht (fun h => kt h _ _ _ _ _ _ _ _ _ _ _ _ C X _ _ _ hR hS hL) (fun h => kf h _ _ _ _ _ _ _ _ _ _ _ _ C X _ _ _ hR hS hL)
theorem r_if_lt {x : Int32} {off : Int} (tgt : Nat) (d : decode cc pc = .ok (.ifCond .lt off, 3)) (ht : (pc : Int) + off = (tgt : Int)) (kt : x < 0 → Wp y cc nL ret E kc ks tgt ls st z sh mi mr) (kf : ¬ x < 0 → Wp y cc nL ret E kc ks (pc + 3) ls st z sh mi mr) : Wp y cc nL ret E kc ks pc ls (.int x :: st) z sh mi mr := by
  intro p l e s m args below meth c D AC base C X H locs la hR hS hL
  exact lv_if_lt C.1 C.2.1 d ht (fun h => kt h _ _ _ _ _ _ _ _ _ _ _ _ C X _ _ _ hR hS hL) (fun h => kf h _ _ _ _ _ _ _ _ _ _ _ _ C X _ _ _ hR hS hL)
theorem r_icmp_lt {x y0 : Int32} {off : Int} (tgt : Nat) (d : decode cc pc = .ok (.if_icmp .lt off, 3)) (ht : (pc : Int) + off = (tgt : Int)) (kt : x < y0 → Wp y cc nL ret E kc ks tgt ls st z sh mi mr) (kf : ¬ x < y0 → Wp y cc nL ret E kc ks (pc + 3) ls st z sh mi mr) : Wp y cc nL ret E kc ks pc ls (.int y0 :: .int x :: st) z sh mi mr := by
  intro p l e s m args below meth c D AC base C X H locs la hR hS hL
  exact lv_icmp_lt C.1 C.2.1 d ht (fun h => kt h _ _ _ _ _ _ _ _ _ _ _ _ C X _ _ _ hR hS hL) (fun h => kf h _ _ _ _ _ _ _ _ _ _ _ _ C X _ _ _ hR hS hL)
theorem r_if_ge {x : Int32} {off : Int} (tgt : Nat) (d : decode cc pc = .ok (.ifCond .ge off, 3)) (ht : (pc : Int) + off = (tgt : Int)) (kt : 0 ≤ x → Wp y cc nL ret E kc ks tgt ls st z sh mi mr) (kf : ¬ 0 ≤ x → Wp y cc nL ret E kc ks (pc + 3) ls st z sh mi mr) : Wp y cc nL ret E kc ks pc ls (.int x :: st) z sh mi mr := by
  intro p l e s m args below meth c D AC base C X H locs la hR hS hL
  exact lv_if_ge C.1 C.2.1 d ht (fun h => kt h _ _ _ _ _ _ _ _ _ _ _ _ C X _ _ _ hR hS hL) (fun h => kf h _ _ _ _ _ _ _ _ _ _ _ _ C X _ _ _ hR hS hL)
theorem r_icmp_ge {x y0 : Int32} {off : Int} (tgt : Nat) (d : decode cc pc = .ok (.if_icmp .ge off, 3)) (ht : (pc : Int) + off = (tgt : Int)) (kt : y0 ≤ x → Wp y cc nL ret E kc ks tgt ls st z sh mi mr) (kf : ¬ y0 ≤ x → Wp y cc nL ret E kc ks (pc + 3) ls st z sh mi mr) : Wp y cc nL ret E kc ks pc ls (.int y0 :: .int x :: st) z sh mi mr := by
  intro p l e s m args below meth c D AC base C X H locs la hR hS hL
  exact lv_icmp_ge C.1 C.2.1 d ht (fun h => kt h _ _ _ _ _ _ _ _ _ _ _ _ C X _ _ _ hR hS hL) (fun h => kf h _ _ _ _ _ _ _ _ _ _ _ _ C X _ _ _ hR hS hL)
theorem r_if_gt {x : Int32} {off : Int} (tgt : Nat) (d : decode cc pc = .ok (.ifCond .gt off, 3)) (ht : (pc : Int) + off = (tgt : Int)) (kt : 0 < x → Wp y cc nL ret E kc ks tgt ls st z sh mi mr) (kf : ¬ 0 < x → Wp y cc nL ret E kc ks (pc + 3) ls st z sh mi mr) : Wp y cc nL ret E kc ks pc ls (.int x :: st) z sh mi mr := by
  intro p l e s m args below meth c D AC base C X H locs la hR hS hL
  exact lv_if_gt C.1 C.2.1 d ht (fun h => kt h _ _ _ _ _ _ _ _ _ _ _ _ C X _ _ _ hR hS hL) (fun h => kf h _ _ _ _ _ _ _ _ _ _ _ _ C X _ _ _ hR hS hL)
theorem r_icmp_gt {x y0 : Int32} {off : Int} (tgt : Nat) (d : decode cc pc = .ok (.if_icmp .gt off, 3)) (ht : (pc : Int) + off = (tgt : Int)) (kt : y0 < x → Wp y cc nL ret E kc ks tgt ls st z sh mi mr) (kf : ¬ y0 < x → Wp y cc nL ret E kc ks (pc + 3) ls st z sh mi mr) : Wp y cc nL ret E kc ks pc ls (.int y0 :: .int x :: st) z sh mi mr := by
  intro p l e s m args below meth c D AC base C X H locs la hR hS hL
  exact lv_icmp_gt C.1 C.2.1 d ht (fun h => kt h _ _ _ _ _ _ _ _ _ _ _ _ C X _ _ _ hR hS hL) (fun h => kf h _ _ _ _ _ _ _ _ _ _ _ _ C X _ _ _ hR hS hL)
theorem r_if_le {x : Int32} {off : Int} (tgt : Nat) (d : decode cc pc = .ok (.ifCond .le off, 3)) (ht : (pc : Int) + off = (tgt : Int)) (kt : x ≤ 0 → Wp y cc nL ret E kc ks tgt ls st z sh mi mr) (kf : ¬ x ≤ 0 → Wp y cc nL ret E kc ks (pc + 3) ls st z sh mi mr) : Wp y cc nL ret E kc ks pc ls (.int x :: st) z sh mi mr := by
  intro p l e s m args below meth c D AC base C X H locs la hR hS hL
  exact lv_if_le C.1 C.2.1 d ht (fun h => kt h _ _ _ _ _ _ _ _ _ _ _ _ C X _ _ _ hR hS hL) (fun h => kf h _ _ _ _ _ _ _ _ _ _ _ _ C X _ _ _ hR hS hL)
theorem r_icmp_le {x y0 : Int32} {off : Int} (tgt : Nat) (d : decode cc pc = .ok (.if_icmp .le off, 3)) (ht : (pc : Int) + off = (tgt : Int)) (kt : x ≤ y0 → Wp y cc nL ret E kc ks tgt ls st z sh mi mr) (kf : ¬ x ≤ y0 → Wp y cc nL ret E kc ks (pc + 3) ls st z sh mi mr) : Wp y cc nL ret E kc ks pc ls (.int y0 :: .int x :: st) z sh mi mr := by
  intro p l e s m args below meth c D AC base C X H locs la hR hS hL
  exact lv_icmp_le C.1 C.2.1 d ht (fun h => kt h _ _ _ _ _ _ _ _ _ _ _ _ C X _ _ _ hR hS hL) (fun h => kf h _ _ _ _ _ _ _ _ _ _ _ _ C X _ _ _ hR hS hL)
theorem r_icmpN_eq {a b : Nat} {off : Int} (tgt : Nat) (d : decode cc pc = .ok (.if_icmp .eq off, 3)) (ht : (pc : Int) + off = (tgt : Int)) (ha : a < 2 ^ 31) (hb : b < 2 ^ 31) (kt : a = b → Wp y cc nL ret E kc ks tgt ls st z sh mi mr) (kf : a ≠ b → Wp y cc nL ret E kc ks (pc + 3) ls st z sh mi mr) : Wp y cc nL ret E kc ks pc ls (.int (nI b) :: .int (nI a) :: st) z sh mi mr := by
  refine r_icmp_eq tgt d ht (fun h => kt ((nI_eq ha hb).mp h)) (fun h => kf ?_)
  have h2 : ¬ (a = b) := fun e => h ((nI_eq ha hb).mpr e)
  exact h2
theorem r_icmpN_ne {a b : Nat} {off : Int} (tgt : Nat) (d : decode cc pc = .ok (.if_icmp .ne off, 3)) (ht : (pc : Int) + off = (tgt : Int)) (ha : a < 2 ^ 31) (hb : b < 2 ^ 31) (kt : a ≠ b → Wp y cc nL ret E kc ks tgt ls st z sh mi mr) (kf : a = b → Wp y cc nL ret E kc ks (pc + 3) ls st z sh mi mr) : Wp y cc nL ret E kc ks pc ls (.int (nI b) :: .int (nI a) :: st) z sh mi mr := by
  refine r_icmp_ne tgt d ht (fun h => kt (fun e => h ((nI_eq ha hb).mpr e))) (fun h => kf ((nI_eq ha hb).mp h))
theorem r_icmpN_lt {a b : Nat} {off : Int} (tgt : Nat) (d : decode cc pc = .ok (.if_icmp .lt off, 3)) (ht : (pc : Int) + off = (tgt : Int)) (ha : a < 2 ^ 31) (hb : b < 2 ^ 31) (kt : a < b → Wp y cc nL ret E kc ks tgt ls st z sh mi mr) (kf : b ≤ a → Wp y cc nL ret E kc ks (pc + 3) ls st z sh mi mr) : Wp y cc nL ret E kc ks pc ls (.int (nI b) :: .int (nI a) :: st) z sh mi mr := by
  refine r_icmp_lt tgt d ht (fun h => kt ((nI_ltI ha hb).mp h)) (fun h => kf ?_)
  have h2 : ¬ (a < b) := fun e => h ((nI_ltI ha hb).mpr e)
  omega
theorem r_icmpN_ge {a b : Nat} {off : Int} (tgt : Nat) (d : decode cc pc = .ok (.if_icmp .ge off, 3)) (ht : (pc : Int) + off = (tgt : Int)) (ha : a < 2 ^ 31) (hb : b < 2 ^ 31) (kt : b ≤ a → Wp y cc nL ret E kc ks tgt ls st z sh mi mr) (kf : a < b → Wp y cc nL ret E kc ks (pc + 3) ls st z sh mi mr) : Wp y cc nL ret E kc ks pc ls (.int (nI b) :: .int (nI a) :: st) z sh mi mr := by
  refine r_icmp_ge tgt d ht (fun h => kt ((nI_leI hb ha).mp h)) (fun h => kf ?_)
  have h2 : ¬ (b ≤ a) := fun e => h ((nI_leI hb ha).mpr e)
  omega
theorem r_icmpN_gt {a b : Nat} {off : Int} (tgt : Nat) (d : decode cc pc = .ok (.if_icmp .gt off, 3)) (ht : (pc : Int) + off = (tgt : Int)) (ha : a < 2 ^ 31) (hb : b < 2 ^ 31) (kt : b < a → Wp y cc nL ret E kc ks tgt ls st z sh mi mr) (kf : a ≤ b → Wp y cc nL ret E kc ks (pc + 3) ls st z sh mi mr) : Wp y cc nL ret E kc ks pc ls (.int (nI b) :: .int (nI a) :: st) z sh mi mr := by
  refine r_icmp_gt tgt d ht (fun h => kt ((nI_ltI hb ha).mp h)) (fun h => kf ?_)
  have h2 : ¬ (b < a) := fun e => h ((nI_ltI hb ha).mpr e)
  omega
theorem r_icmpN_le {a b : Nat} {off : Int} (tgt : Nat) (d : decode cc pc = .ok (.if_icmp .le off, 3)) (ht : (pc : Int) + off = (tgt : Int)) (ha : a < 2 ^ 31) (hb : b < 2 ^ 31) (kt : a ≤ b → Wp y cc nL ret E kc ks tgt ls st z sh mi mr) (kf : b < a → Wp y cc nL ret E kc ks (pc + 3) ls st z sh mi mr) : Wp y cc nL ret E kc ks pc ls (.int (nI b) :: .int (nI a) :: st) z sh mi mr := by
  refine r_icmp_le tgt d ht (fun h => kt ((nI_leI ha hb).mp h)) (fun h => kf ?_)
  have h2 : ¬ (a ≤ b) := fun e => h ((nI_leI ha hb).mpr e)
  omega
end RULES
