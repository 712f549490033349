-- what each call answers and does: the answer, and what is then
def sk (s : Int32) : Nat := s.toNatClampNeg
theorem sk_nI {k : Nat} (h : k < 2 ^ 31) : sk (nI k) = k := nI_clamp h
def stA (σ : Al) (k : Nat) : St := σ.2.1.1 k
def upA (σ : Al) (k : Nat) (st : St) : Al := (σ.1, (upS σ.2.1.1 k st, σ.2.1.2), σ.2.2)
def noP (σ : Al) : Al := ([], σ.2)
def sp_say (σ : Al) (x : Int32) : Int32 × Al := if inB x (nI 33) (nI 126) = true then (if σ.1.length = 40 then (-4, σ) else (nI (σ.1.length + 1), (σ.1 ++ [sk x], σ.2))) else (-2, σ)
def sp_wipe (σ : Al) : Int32 × Al := (nI σ.1.length, noP σ)
def sp_fault (σ : Al) : Int32 × Al := (match prs σ.1 with
  | .inl j => nI j
  | .inr _ => -6, σ)
def sp_name (σ : Al) (s w : Int32) : Int32 × Al :=
  if stB s = false then (-1, σ) else if inB w (nI 0) (nI 2) = false then (-2, σ) else match prsN σ.1 with
  | none => (-7, σ)
  | some nm =>
    if w = nI 0 then (if ∃ t, t < 6 ∧ t ≠ sk s ∧ (stA σ t).1.1 = nm then (-3, σ) else (nI 1, noP (upA σ (sk s) ((nm, (stA σ (sk s)).1.2), (stA σ (sk s)).2))))
    else if w = nI 1 then (if 2 ≤ (stA σ (sk s)).1.2.1.length then (-4, σ) else (nI ((stA σ (sk s)).1.2.1.length + 1), noP (upA σ (sk s) (((stA σ (sk s)).1.1, (stA σ (sk s)).1.2.1 ++ [nm], (stA σ (sk s)).1.2.2), (stA σ (sk s)).2))))
    else (if 2 ≤ (stA σ (sk s)).1.2.2.1.length then (-4, σ) else (nI ((stA σ (sk s)).1.2.2.1.length + 1), noP (upA σ (sk s) (((stA σ (sk s)).1.1, (stA σ (sk s)).1.2.1, (stA σ (sk s)).1.2.2.1 ++ [nm], (stA σ (sk s)).1.2.2.2), (stA σ (sk s)).2))))
def sp_forget (σ : Al) (s w : Int32) : Int32 × Al :=
  if stB s = false then (-1, σ) else if inB w (nI 1) (nI 2) = false then (-2, σ)
  else if w = nI 1 then (nI (stA σ (sk s)).1.2.1.length, upA σ (sk s) (((stA σ (sk s)).1.1, [], (stA σ (sk s)).1.2.2), (stA σ (sk s)).2))
  else (nI (stA σ (sk s)).1.2.2.1.length, upA σ (sk s) (((stA σ (sk s)).1.1, (stA σ (sk s)).1.2.1, [], (stA σ (sk s)).1.2.2.2), (stA σ (sk s)).2))
def stg (w n : Int32) : Bool := (decide (w = nI 0) && inB n (nI 1) (nI 7)) || ((decide (w = nI 1) && inB n (nI 1) (nI 3)) || (decide (w = nI 2) && inB n (nI 0) (nI 60)))
def sp_set (σ : Al) (s w n : Int32) : Int32 × Al :=
  if stB s = false then (-1, σ) else if stg w n = false then (-2, σ)
  else if w = nI 0 then (nI (stA σ (sk s)).1.2.2.2.1, upA σ (sk s) (((stA σ (sk s)).1.1, (stA σ (sk s)).1.2.1, (stA σ (sk s)).1.2.2.1, sk n, (stA σ (sk s)).1.2.2.2.2), (stA σ (sk s)).2))
  else if w = nI 1 then (nI (stA σ (sk s)).1.2.2.2.2.1, upA σ (sk s) (((stA σ (sk s)).1.1, (stA σ (sk s)).1.2.1, (stA σ (sk s)).1.2.2.1, (stA σ (sk s)).1.2.2.2.1, sk n, (stA σ (sk s)).1.2.2.2.2.2), (stA σ (sk s)).2))
  else (nI (stA σ (sk s)).1.2.2.2.2.2, upA σ (sk s) (((stA σ (sk s)).1.1, (stA σ (sk s)).1.2.1, (stA σ (sk s)).1.2.2.1, (stA σ (sk s)).1.2.2.2.1, (stA σ (sk s)).1.2.2.2.2.1, sk n), (stA σ (sk s)).2))
def nrU (f : Nat → Nat → Bool) (i j : Nat) (v : Bool) : Nat → Nat → Bool := fun a b => if (a = i ∧ b = j) ∨ (a = j ∧ b = i) then v else f a b
def sp_near (σ : Al) (i j v : Int32) : Int32 × Al :=
  if (stB i && stB j) = false then (-1, σ) else if inB v (nI 0) (nI 1) = false ∨ i = j then (-2, σ)
  else (nI (cn6 (nrU σ.2.1.2.1 (sk i) (sk j) (decide (v = nI 1)) (sk i))), (σ.1, (σ.2.1.1, nrU σ.2.1.2.1 (sk i) (sk j) (decide (v = nI 1)), σ.2.1.2.2), σ.2.2))
def sp_send (σ : Al) (s : Int32) : Int32 × Al :=
  if stB s = false then (-1, σ) else match prs σ.1 with
  | .inl _ => (-7, σ)
  | .inr p => if 12 ≤ (stA σ (sk s)).2.2.1.length then (-4, σ) else (nI ((stA σ (sk s)).2.2.1.length + 1), noP (upA σ (sk s) (orig (stA σ (sk s)) p σ.2.1.2.2)))
def sp_run (σ : Al) (n : Int32) : Int32 × Al := if inB n (nI 1) (nI 50) = false then (-2, σ) else (nI (keptA (tcks (sk n) σ.2.1)), (σ.1, tcks (sk n) σ.2.1, σ.2.2))
def sp_heard (σ : Al) (s w : Int32) : Int32 × Al :=
  (if stB s = false then -1 else if inB w (nI 0) (nI 10) = false then -2 else if w = nI 9 then nI (stA σ (sk s)).2.2.1.length else if w = nI 10 then nI (stA σ (sk s)).2.2.2.1.length else nI ((stA σ (sk s)).2.1 (sk w)), σ)
def sp_written (σ : Al) (s k : Int32) : Int32 × Al :=
  (if stB s = false then -1 else if k < -1 then -2 else match (stA σ (sk s)).2.2.2.2 with
  | none => -3
  | some q => if k = -1 then nI (wrP q.1).length else match (wrP q.1)[sk k]? with
    | some x => nI x
    | none => -6, σ)
def sp_last (σ : Al) (s w : Int32) : Int32 × Al :=
  (if stB s = false then -1 else if inB w (nI 0) (nI 3) = false then -2 else match (stA σ (sk s)).2.2.2.2 with
  | none => -3
  | some q => if w = nI 0 then nI q.1.2.2.length else if w = nI 1 then nI (q.1.2.2.countP (fun w => w.2.2)) else if w = nI 2 then nI q.2 else match q.1.2.2[unIx q.1.2.2]? with
    | some u => nI u.2.1
    | none => -6, σ)
def cal (σ : Al) (nm : Nm) : Int32 := match fs6 (fun s => (stA σ s).1.1 == nm) with
  | some q => nI q
  | none => -6
def sp_trail (σ : Al) (s i : Int32) : Int32 × Al :=
  (if stB s = false then -1 else match (stA σ (sk s)).2.2.2.2 with
  | none => -3
  | some q => if i = -1 then nI (q.1.2.2.countP (fun w => w.2.2)) else match spF q.1.2.2 i with
    | some j => (match q.1.2.2[j]? with
      | some u => cal σ u.1
      | none => -6)
    | none => -6, σ)
def reaS (n : Nt) (w : Option Nat) (s : Nat) (f : Nm) (h : Nat) : Nat := bs (fun j => ((tri n w s f h).2 j).isSome)
def sp_reach (σ : Al) (s n w : Int32) : Int32 × Al :=
  (if stB s = false then -1 else if (inB n (nI 1) (nI 7) && inB w (nI 0) (nI 3)) = false then -2 else match prsN σ.1 with
  | none => -7
  | some f => if w = nI 0 then nI (reaS σ.2.1 none (sk s) f (sk n)) else if w = nI 1 then latA (tri σ.2.1 none (sk s) f (sk n)).2 else if w = nI 2 then nI (sum6 (fun j => ((tri σ.2.1 none (sk s) f (sk n)).1.1 j).2.1 0)) else nI (sum6 (fun j => ((tri σ.2.1 none (sk s) f (sk n)).1.1 j).2.1 7)), σ)
def hits (n : Nt) (w : Option Nat) (s t : Nat) (f : Nm) (h : Nat) : Bool := ((tri n w s f h).2 t).isSome
def sp_fewest (σ : Al) (s t : Int32) : Int32 × Al :=
  (if (stB s && stB t) = false then -1 else if s = t then -2 else match prsN σ.1 with
  | none => -7
  | some f => match (List.range 7).find? (fun h => hits σ.2.1 none (sk s) (sk t) f (h + 1)) with
    | some h => nI (h + 1)
    | none => -6, σ)
def sp_bridges (σ : Al) (s t n : Int32) : Int32 × Al :=
  (if (stB s && stB t) = false then -1 else if s = t ∨ inB n (nI 1) (nI 7) = false then -2 else match prsN σ.1 with
  | none => -7
  | some f => if hits σ.2.1 none (sk s) (sk t) f (sk n) = false then -6 else nI (bs (fun q => decide (q ≠ sk s) && (decide (q ≠ sk t) && !hits σ.2.1 (some q) (sk s) (sk t) f (sk n)))), σ)
def sp_image (σ : Al) (k : Int32) : Int32 × Al := if inB k (nI 0) (nI 1) = false then (-2, σ) else (nI 1, (σ.1, σ.2.1, fun j => if j = sk k then some σ.2.1 else σ.2.2 j))
def sp_restore (σ : Al) (k : Int32) : Int32 × Al := if inB k (nI 0) (nI 1) = false then (-2, σ) else match σ.2.2 (sk k) with
  | none => (-3, σ)
  | some n => (nI 1, (σ.1, n, σ.2.2))
def sp_count (σ : Al) (w : Int32) : Int32 × Al :=
  (if w = nI 0 then nI σ.2.1.2.2 else if w = nI 1 then nI σ.1.length else if w = nI 2 then nI (keptA σ.2.1) else if w = nI 3 then nI (sum6 (fun s => (stA σ s).2.1 0)) else if w = nI 4 then nI (sum6 (fun s => (stA σ s).2.1 7)) else if w = nI 5 then nI (sum6 (fun s => cn6 (σ.2.1.2.1 s)) / 2) else if w = nI 6 then nI (bn (σ.2.2 0).isSome + 2 * bn (σ.2.2 1).isSome) else -2, σ)
def okG (n : Nt) (N : Nat) : Prop := okNt n ∧ (∀ s, s < 6 → HL (n.1 s)) ∧ n.2.2 ≤ N
def okA (σ : Al) (N : Nat) : Prop := okD σ.1 ∧ okG σ.2.1 N ∧ ∀ k, k < 2 → ∀ n, σ.2.2 k = some n → okG n N
theorem inB_ex {x : Int32} {a b : Nat} (hb : b < 2 ^ 31) (h : inB x (nI a) (nI b) = true) (ha : a < 2 ^ 31) : ∃ k, a ≤ k ∧ k ≤ b ∧ x = nI k := by
  unfold inB at h
  simp only [Bool.and_eq_true, Bool.not_eq_true', decide_eq_false_iff_not] at h
  have h0 : ¬ x < 0 := fun q => h.1 (by
    rw [Int32.lt_iff_toInt_lt] at q ⊢
    rw [nI_toInt ha]
    have : (0 : Int32).toInt = 0 := rfl
    omega)
  obtain ⟨j, hj, e⟩ := nI_of h0
  subst e
  have h1 : ¬ j < a := fun q => h.1 ((nI_ltI hj ha).mpr q)
  have h2 : ¬ b < j := fun q => h.2 ((nI_ltI hb hj).mpr q)
  exact ⟨j, by omega, by omega, rfl⟩
theorem inB_in {k a b : Nat} (h1 : a ≤ k) (h2 : k ≤ b) (hb : b < 2 ^ 31) : inB (nI k) (nI a) (nI b) = true := by
  unfold inB
  simp only [Bool.and_eq_true, Bool.not_eq_true', decide_eq_false_iff_not]
  exact ⟨fun q => by have := (nI_ltI (by omega) (by omega)).mp q; omega, fun q => by have := (nI_ltI (by omega) (by omega)).mp q; omega⟩
