/-! WHAT THE SYSTEM IS: names as lists of letters 1 to 26, words, packets, stations, the net -/
abbrev Nm : Type := List Nat
abbrev Wd : Type := Nm × Nat × Bool
abbrev Pk : Type := Nm × Nm × List Wd
abbrev Se : Type := Nm × List Nm × List Nm × Nat × Nat × Nat
abbrev Kp : Type := List (Pk × Nat)
abbrev Kn : Type := List (Nm × Nm × Nat)
abbrev St : Type := Se × (Nat → Nat) × Kp × Kn × Option (Pk × Nat)
abbrev Nt : Type := (Nat → St) × (Nat → Nat → Bool) × Nat
abbrev Al : Type := List Nat × Nt × (Nat → Option Nt)
def en (b : Nat) (l : Nm) : Nat := l.foldl (fun v x => v * b + x) 0
def bn (c : Bool) : Nat := if c = true then 1 else 0
def wc (b : Nat) (w : Wd) : Nat := 16 * en b w.1 + 2 * w.2.1 + bn w.2.2
def okL (k : Nat) (l : Nm) : Prop := 1 ≤ l.length ∧ l.length ≤ k ∧ ∀ x ∈ l, 1 ≤ x ∧ x ≤ 26
def okW (w : Wd) : Prop := okL 3 w.1 ∧ w.2.1 ≤ 7
def okP (p : Pk) : Prop := okL 3 p.1 ∧ okL 4 p.2.1 ∧ p.2.2.length ≤ 8 ∧ ∀ w ∈ p.2.2, okW w
-- reading the pad
def sg (P : List Nat) (i : Nat) : Nat := P.getD i 0
def lets (f : Nat) : Nat → List Nat → Nat → Nm
  | 0, _, _ => []
  | k + 1, P, i => if f ≤ sg P i ∧ sg P i ≤ f + 25 then (sg P i - f + 1) :: lets f k P (i + 1) else []
def rdW (P : List Nat) (i : Nat) : Option Wd × Nat :=
  let l := lets 65 3 P i
  let j := i + l.length
  if l = [] then (none, i)
  else if sg P j = 45 then
    if 49 ≤ sg P (j + 1) ∧ sg P (j + 1) ≤ 55 then (some (l, sg P (j + 1) - 48, decide (sg P (j + 2) = 42)), j + 2 + bn (decide (sg P (j + 2) = 42)))
    else (none, j + 1)
  else (some (l, 0, decide (sg P j = 42)), j + bn (decide (sg P j = 42)))
def rdWs : Nat → List Nat → Nat → Option (List Wd) × Nat
  | 0, _, i => (some [], i)
  | k + 1, P, i => match rdW P i with
    | (none, j) => (none, j)
    | (some w, j) => if k ≠ 0 ∧ sg P j = 44 then (((rdWs k P (j + 1)).1).map (fun ws => w :: ws), (rdWs k P (j + 1)).2) else (some [w], j)
def prs (P : List Nat) : Nat ⊕ Pk :=
  let s := lets 65 3 P 0
  if s = [] then .inl 0
  else if sg P s.length ≠ 62 then .inl s.length
  else match (if sg P (s.length + 1) = 58 then (some [], s.length + 1) else rdWs 5 P (s.length + 1)) with
    | (none, j) => .inl j
    | (some ws, j) =>
      if sg P j ≠ 58 then .inl j
      else if lets 97 4 P (j + 1) = [] ∨ j + 1 + (lets 97 4 P (j + 1)).length < P.length then .inl (j + 1 + (lets 97 4 P (j + 1)).length)
      else .inr (s, lets 97 4 P (j + 1), ws)
def prsN (P : List Nat) : Option Nm := if lets 65 3 P 0 = [] ∨ (lets 65 3 P 0).length < P.length then none else some (lets 65 3 P 0)
-- stations
def bump (t : Nat → Nat) (w : Nat) : Nat → Nat := fun x => if x = w then t x + 1 else t x
def ownP (call : Nm) (p : Pk) : Bool := p.1 == call || p.2.2.any (fun w => w.2.2 && w.1 == call)
def unIx (ws : List Wd) : Nat := ws.findIdx (fun w => !w.2.2)
def knIx (k : Kn) (p : Pk) : Nat := k.findIdx (fun q => q.1 == p.1 && q.2.1 == p.2.1)
def knAdd (k : Kn) (p : Pk) (now : Nat) : Kn := (if 16 ≤ k.length then k.eraseIdx 0 else k) ++ [(p.1, p.2.1, now)]
def knOld (k : Kn) (now win : Nat) : Kn := k.filter (fun q => decide (now - q.2.2 ≤ win))
def orig (st : St) (p : Pk) (now : Nat) : St := (st.1, st.2.1, st.2.2.1 ++ [(p, now)], knAdd (st.2.2.2.1.eraseIdx (knIx st.2.2.2.1 p)) p now, st.2.2.2.2)
def chg (se : Se) (p : Pk) (i : Nat) : Option Pk :=
  match p.2.2[i]? with
  | none => none
  | some w =>
    if w.1 = se.1 ∨ (w.2.1 = 0 ∧ w.1 ∈ se.2.1) then some (p.1, p.2.1, p.2.2.set i (se.1, 0, true))
    else if w.2.1 = 0 ∨ w.1 ∉ se.2.2.1 then none
    else if min w.2.1 se.2.2.2.1 - 1 = 0 then some (p.1, p.2.1, p.2.2.set i (se.1, 0, true))
    else if p.2.2.length < 8 then some (p.1, p.2.1, p.2.2.take i ++ (se.1, 0, true) :: (w.1, min w.2.1 se.2.2.2.1 - 1, w.2.2) :: p.2.2.drop (i + 1))
    else some (p.1, p.2.1, p.2.2.set i (w.1, min w.2.1 se.2.2.2.1 - 1, w.2.2))
def look (st : St) (p : Pk) (now : Nat) : St :=
  if ownP st.1.1 p = true then (st.1, bump st.2.1 2, st.2.2)
  else if knIx st.2.2.2.1 p < st.2.2.2.1.length then (st.1, bump st.2.1 3, st.2.2)
  else if unIx p.2.2 = p.2.2.length then (st.1, bump st.2.1 4, st.2.2.1, knAdd st.2.2.2.1 p now, st.2.2.2.2)
  else match chg st.1 p (unIx p.2.2) with
    | none => (st.1, bump st.2.1 6, st.2.2.1, knAdd st.2.2.2.1 p now, st.2.2.2.2)
    | some p' =>
      if st.2.2.1.length < 12 then (st.1, bump st.2.1 5, st.2.2.1 ++ [(p', now + st.1.2.2.2.2.1)], knAdd st.2.2.2.1 p now, st.2.2.2.2)
      else (st.1, bump (bump st.2.1 5) 8, st.2.2.1, knAdd st.2.2.2.1 p now, st.2.2.2.2)
def hears (st : St) (p : Pk) (now : Nat) : St := look (st.1, bump st.2.1 1, st.2.2.1, knOld st.2.2.2.1 now st.1.2.2.2.2.2, some (p, now)) p now
-- the net
def duIx (k : Kp) (now : Nat) : Nat := k.findIdx (fun q => decide (q.2 ≤ now))
def sentP (st : St) (now : Nat) : Option Pk := (st.2.2.1[duIx st.2.2.1 now]?).map (fun q => q.1)
def aftS (st : St) (now : Nat) : St := if duIx st.2.2.1 now < st.2.2.1.length then (st.1, bump st.2.1 0, st.2.2.1.eraseIdx (duIx st.2.2.1 now), st.2.2.2) else st
def audi (n : Nt) (s : Nat) : List Nat := (List.range 6).filter (fun q => (sentP (n.1 q) n.2.2).isSome && n.2.1 s q)
def tckS (n : Nt) (s : Nat) : St :=
  if (sentP (n.1 s) n.2.2).isSome = true then aftS (n.1 s) n.2.2
  else match audi n s with
    | [] => n.1 s
    | [q] => (match sentP (n.1 q) n.2.2 with
      | some p => hears (n.1 s) p n.2.2
      | none => n.1 s)
    | _ => ((n.1 s).1, bump (n.1 s).2.1 7, (n.1 s).2.2)
def tck (n : Nt) : Nt := (fun s => tckS n s, n.2.1, n.2.2 + 1)
def tcks : Nat → Nt → Nt
  | 0, n => n
  | k + 1, n => tcks k (tck n)
def sum6 (f : Nat → Nat) : Nat := f 0 + f 1 + f 2 + f 3 + f 4 + f 5
def keptA (n : Nt) : Nat := sum6 (fun s => (n.1 s).2.2.1.length)
def upS (f : Nat → St) (s : Nat) (st : St) : Nat → St := fun x => if x = s then st else f x
-- how far it comes
def triN (n : Nt) (w : Option Nat) : Nt := (fun s => ((n.1 s).1, (fun _ => 0), [], [], none), (fun a b => n.2.1 a b && decide (some a ≠ w) && decide (some b ≠ w)), 0)
def tri0 (n : Nt) (w : Option Nat) (s : Nat) (f : Nm) (h : Nat) : Nt := (upS (triN n w).1 s (orig ((triN n w).1 s) ((n.1 s).1.1, [1], [(f, h, false)]) 0), (triN n w).2)
def triR : Nat → Nt × (Nat → Option Nat) → Nt × (Nat → Option Nat)
  | 0, q => q
  | k + 1, q => if keptA q.1 = 0 then q else triR k (tck q.1, fun s => match q.2 s with
    | some t => some t
    | none => if ((tck q.1).1 s).2.2.2.2.isSome = true then some q.1.2.2 else none)
def tri (n : Nt) (w : Option Nat) (s : Nat) (f : Nm) (h : Nat) : Nt × (Nat → Option Nat) := triR 30 (tri0 n w s f h, fun _ => none)
def setA (f : Nat → Option Nat) : Nat := sum6 (fun s => if (f s).isSome = true then 2 ^ s else 0)
def latA (f : Nat → Option Nat) : Int32 := (List.range 6).foldl (fun m s => match f s with
  | some t => if m < nI t then nI t else m
  | none => m) (-6)
