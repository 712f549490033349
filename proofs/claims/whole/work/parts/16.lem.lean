theorem fi_at {α : Type} {l : List α} {p : α → Bool} {i : Nat} {x : α} (h : l[i]? = some x) (hp : p x = true) (hb : ∀ (j : Nat) (y : α), j < i → l[j]? = some y → p y = false) : l.findIdx p = i := by
  obtain ⟨hl, hx⟩ := List.getElem?_eq_some_iff.mp h
  rw [List.findIdx_eq hl]
  refine ⟨by rw [hx]; exact hp, fun j hj => hb j _ hj (List.getElem?_eq_getElem (by omega))⟩
theorem fi_no {α : Type} {l : List α} {p : α → Bool} (hb : ∀ (j : Nat) (y : α), l[j]? = some y → p y = false) : l.findIdx p = l.length := by
  rw [List.findIdx_eq_length]
  intro x hx
  obtain ⟨j, hj⟩ := List.getElem?_of_mem hx
  exact hb j x hj
theorem fi_lt {α : Type} {l : List α} {p : α → Bool} (h : l.findIdx p < l.length) : ∃ x, l[l.findIdx p]? = some x ∧ p x = true := ⟨_, List.getElem?_eq_getElem h, List.findIdx_getElem⟩
theorem fi_bef {α : Type} {l : List α} {p : α → Bool} {j : Nat} {y : α} (h : j < l.findIdx p) (hy : l[j]? = some y) : p y = false := by
  have h1 := List.not_of_lt_findIdx h
  have h2 := (List.getElem?_eq_some_iff.mp hy).2
  rw [h2] at h1
  exact h1
theorem gl_lt {α : Type} {l : List α} {i : Nat} {x : α} (h : l[i]? = some x) : i < l.length := (List.getElem?_eq_some_iff.mp h).1
theorem gl_ex {α : Type} {l : List α} {i : Nat} (h : i < l.length) : ∃ x, l[i]? = some x := ⟨_, List.getElem?_eq_getElem h⟩
theorem gl_mem {α : Type} {l : List α} {i : Nat} {x : α} (h : l[i]? = some x) : x ∈ l := List.mem_of_getElem? h
-- the numbers of names
theorem en_nil (b : Nat) : en b [] = 0 := rfl
theorem en_snoc (b : Nat) (l : Nm) (x : Nat) : en b (l ++ [x]) = en b l * b + x := by simp [en, List.foldl_append]
theorem en_lt {b : Nat} (hb : 27 ≤ b) : ∀ (n : Nat) (l : Nm), l.length = n → (∀ x ∈ l, 1 ≤ x ∧ x ≤ 26) → en b l < b ^ n
  | 0, l, h, _ => by
    have : l = [] := List.length_eq_zero_iff.mp h
    subst this; simp [en]
  | n + 1, l, h, hx => by
    have hne : l ≠ [] := by intro e; subst e; simp at h
    rw [← List.dropLast_concat_getLast hne, en_snoc]
    have h1 := en_lt hb n l.dropLast (by simp [h]) (fun x hx' => hx x (List.dropLast_subset _ hx'))
    have h2 := (hx _ (List.getLast_mem hne)).2
    rw [Nat.pow_succ]
    have : (en b l.dropLast + 1) * b ≤ b ^ n * b := Nat.mul_le_mul_right b h1
    rw [Nat.add_mul, Nat.one_mul] at this
    omega
theorem en_pos {b : Nat} {l : Nm} (hne : l ≠ []) (hx : ∀ x ∈ l, 1 ≤ x ∧ x ≤ 26) : 0 < en b l := by
  rw [← List.dropLast_concat_getLast hne, en_snoc]
  have h2 := (hx _ (List.getLast_mem hne)).1
  omega
theorem en_inj {b : Nat} (hb : 27 ≤ b) : ∀ (n : Nat) (l l' : Nm), l.length = n → (∀ x ∈ l, 1 ≤ x ∧ x ≤ 26) → (∀ x ∈ l', 1 ≤ x ∧ x ≤ 26) → en b l = en b l' → l = l'
  | 0, l, l', h, _, hx', e => by
    have : l = [] := List.length_eq_zero_iff.mp h
    subst this
    by_cases hne : l' = []
    · exact hne.symm
    · have := en_pos (b := b) hne hx'
      rw [en_nil] at e; omega
  | n + 1, l, l', h, hx, hx', e => by
    have hne : l ≠ [] := by intro e; subst e; simp at h
    have hne' : l' ≠ [] := by
      intro e'; subst e'
      have := en_pos (b := b) hne hx
      rw [en_nil] at e; omega
    rw [← List.dropLast_concat_getLast hne, ← List.dropLast_concat_getLast hne', en_snoc, en_snoc] at e
    have h2 := hx _ (List.getLast_mem hne)
    have h2' := hx' _ (List.getLast_mem hne')
    have e1 : l.getLast hne = l'.getLast hne' := by
      have := congrArg (· % b) e
      simp only [Nat.add_comm, Nat.add_mul_mod_self_right] at this
      rw [Nat.mod_eq_of_lt (by omega), Nat.mod_eq_of_lt (by omega)] at this
      exact this
    have e2 : en b l.dropLast = en b l'.dropLast := by
      rw [e1] at e
      have : en b l.dropLast * b = en b l'.dropLast * b := by omega
      exact Nat.eq_of_mul_eq_mul_right (by omega) this
    have e3 := en_inj hb n l.dropLast l'.dropLast (by simp [h]) (fun x q => hx x (List.dropLast_subset _ q)) (fun x q => hx' x (List.dropLast_subset _ q)) e2
    rw [← List.dropLast_concat_getLast hne, ← List.dropLast_concat_getLast hne', e3, e1]
theorem okL_lt {k b : Nat} {l : Nm} (h : okL k l) (hb : 27 ≤ b) : en b l < b ^ k := Nat.lt_of_lt_of_le (en_lt hb l.length l rfl h.2.2) (Nat.pow_le_pow_right (by omega) h.2.1)
theorem okL_inj {k b : Nat} {l l' : Nm} (h : okL k l) (h' : okL k l') (hb : 27 ≤ b) : en b l = en b l' ↔ l = l' := ⟨fun e => en_inj hb l.length l l' rfl h.2.2 h'.2.2 e, fun e => by rw [e]⟩
theorem okL_pos {k b : Nat} {l : Nm} (h : okL k l) : 0 < en b l := en_pos (fun e => by have := h.1; rw [e] at this; simp at this) h.2.2
theorem okL_32 {l : Nm} (h : okL 3 l) : en 32 l < 32768 := okL_lt h (by omega)
theorem okL_27 {l : Nm} (h : okL 3 l) : en 27 l < 19683 := okL_lt h (by omega)
theorem okT_32 {l : Nm} (h : okL 4 l) : en 32 l < 1048576 := okL_lt h (by omega)
theorem okT_27 {l : Nm} (h : okL 4 l) : en 27 l < 531441 := okL_lt h (by omega)
theorem bn_le (c : Bool) : bn c ≤ 1 := by cases c <;> decide
theorem wc_and1 (b : Nat) (w : Wd) : wc b w &&& 1 = bn w.2.2 := by
  rw [show (1 : Nat) = 2 ^ 1 - 1 from rfl, and_mod]
  have := bn_le w.2.2
  unfold wc; omega
theorem wc_mod2 (b : Nat) (w : Wd) : wc b w % 2 = bn w.2.2 := by
  have := bn_le w.2.2
  unfold wc; omega
theorem wc_div16 {b : Nat} {w : Wd} (h : w.2.1 ≤ 7) : wc b w / 16 = en b w.1 := by
  have := bn_le w.2.2
  unfold wc; omega
theorem wc_hops {b : Nat} {w : Wd} (h : w.2.1 ≤ 7) : wc b w / 2 % 8 = w.2.1 := by
  have := bn_le w.2.2
  unfold wc; omega
theorem wc_lt {w : Wd} (h : okW w) : wc 32 w < 2 ^ 20 := by
  have h1 := okL_32 h.1
  have h2 := h.2
  have := bn_le w.2.2
  unfold wc; omega
theorem wc_lt27 {w : Wd} (h : okW w) : wc 27 w < 2 ^ 20 := by
  have h1 := okL_27 h.1
  have h2 := h.2
  have := bn_le w.2.2
  unfold wc; omega
theorem bn_ne (c : Bool) : bn c ≠ 0 ↔ c = true := by cases c <;> decide
theorem bn_eq (c : Bool) : bn c = 0 ↔ c = false := by cases c <;> decide
-- where a packet, names, what is known, what is kept lie in the class's memory
def LPk (sh : SH) (mr : MR) (a : Nat) : Prop := sh a = (4, 0) ∧ mr a 0 = some (a + 1) ∧ sh (a + 1) = (11, 8)
def LNm (sh : SH) (mr : MR) (a : Nat) : Prop := sh a = (2, 0) ∧ mr a 0 = some (a + 1) ∧ sh (a + 1) = (11, 2)
def LKn (sh : SH) (mr : MR) (a : Nat) : Prop := sh a = (1, 0) ∧ mr a 0 = some (a + 1) ∧ sh (a + 1) = (11, 16) ∧ mr a 1 = some (a + 2) ∧ sh (a + 2) = (11, 16) ∧ mr a 2 = some (a + 3) ∧ sh (a + 3) = (11, 16)
def LKp (sh : SH) (mr : MR) (a : Nat) : Prop := sh a = (0, 0) ∧ mr a 0 = some (a + 1) ∧ sh (a + 1) = (14, 12) ∧ mr a 1 = some (a + 2) ∧ sh (a + 2) = (11, 12) ∧ ∀ j, j < 12 → LPk sh mr (a + 3 + 2 * j)
def LSt (sh : SH) (mr : MR) (a : Nat) : Prop := sh a = (6, 0) ∧ (mr a 1 = some (a + 1) ∧ LNm sh mr (a + 1)) ∧ (mr a 2 = some (a + 3) ∧ LNm sh mr (a + 3)) ∧ (mr a 6 = some (a + 5) ∧ sh (a + 5) = (11, 9)) ∧ (mr a 7 = some (a + 6) ∧ LKp sh mr (a + 6)) ∧ (mr a 8 = some (a + 33) ∧ LKn sh mr (a + 33)) ∧ (mr a 9 = some (a + 37) ∧ LPk sh mr (a + 37)) ∧ (mr a 11 = some (a + 39) ∧ LPk sh mr (a + 39)) ∧ (mr a 12 = some (a + 41) ∧ LPk sh mr (a + 41))
def LNt (sh : SH) (mr : MR) (a : Nat) : Prop := sh a = (3, 0) ∧ mr a 0 = some (a + 1) ∧ sh (a + 1) = (15, 6) ∧ mr a 1 = some (a + 2) ∧ sh (a + 2) = (11, 6) ∧ ∀ s, s < 6 → mr (a + 1) s = some (a + 3 + 43 * s) ∧ LSt sh mr (a + 3 + 43 * s)
/-- what the rows hold -/
def PkC (mi : MI) (a : Nat) (p : Pk) : Prop := mi a 1 = nI p.2.2.length ∧ mi a 2 = nI (en 32 p.1) ∧ mi a 3 = nI (en 32 p.2.1) ∧ ∀ i w, p.2.2[i]? = some w → mi (a + 1) i = nI (wc 32 w)
def NmC (mi : MI) (a : Nat) (l : List Nm) : Prop := mi a 1 = nI l.length ∧ ∀ i x, l[i]? = some x → mi (a + 1) i = nI (en 32 x)
def KnC (mi : MI) (a : Nat) (l : Kn) : Prop := mi a 3 = nI l.length ∧ ∀ i q, l[i]? = some q → mi (a + 1) i = nI (en 32 q.1) ∧ mi (a + 2) i = nI (en 32 q.2.1) ∧ mi (a + 3) i = nI q.2.2
def KpC (mi : MI) (mr : MR) (a : Nat) (l : Kp) : Prop := mi a 2 = nI l.length ∧ ∀ i q, l[i]? = some q → mi (a + 2) i = nI q.2 ∧ ∃ x, mr (a + 1) i = some x ∧ PkC mi x q.1
/-- the packets of a 'Kept' are its own, each once -/
def KpR (mr : MR) (a : Nat) : Prop := ∃ f : Nat → Nat, (∀ i, i < 12 → f i < 12 ∧ mr (a + 1) i = some (a + 3 + 2 * f i)) ∧ ∀ i j, i < 12 → j < 12 → f i = f j → i = j
abbrev EP (d z : Nat) (sh : SH) (mr : MR) (mi : MI) (r : Int32) : ET := mE d 0 0 (Pm z sh mr (fun v mi' => v = some (.int r) ∧ mi' = mi))
abbrev EI (d z : Nat) (sh : SH) (mr : MR) (P : Option Value → MI → Prop) : ET := mE d 0 0 (Pm z sh mr P)
