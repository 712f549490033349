section PAD3
variable {z : Nat} {sh : SH} {mi : MI} {mr : MR} {a : Nat}
def FrA (mi m : MI) (a b : Nat) : Prop := (∀ x, x ≠ a → x ≠ b → x ≠ b + 1 → m x = mi x) ∧ ∀ k, k ≠ 2 → m a k = mi a k
def RPp (mi : MI) (a b : Nat) (r : Nat ⊕ Pk) (v : Option Value) (m : MI) : Prop := FrA mi m a b ∧ match r with
  | .inl j => v = some (.int (nI j))
  | .inr p => v = some (.int (-6)) ∧ PkC m b p ∧ okP p
theorem FrA.up {mi m : MI} {a b : Nat} {v : Int32} (h : FrA mi m a b) : FrA mi (up2 m a 2 v) a b := ⟨fun x h1 h2 h3 => by rw [up2_row _ _ h1]; exact h.1 x h1 h2 h3, fun k hk => by rw [up2_ne _ _ (Or.inr hk)]; exact h.2 k hk⟩
theorem FrA.upb {mi m : MI} {a b k : Nat} {v : Int32} (hab : a ≠ b) (h : FrA mi m a b) : FrA mi (up2 m b k v) a b := ⟨fun x h1 h2 h3 => by rw [up2_row _ _ h2]; exact h.1 x h1 h2 h3, fun k hk => by rw [up2_row _ _ hab]; exact h.2 k hk⟩
theorem c_readPacket (hL : LPd sh mr a) {b : Nat} (hB : LPk sh mr b) (hab : b + 1 < a ∨ a + 1 < b) {P : List Nat} (hC : PdC mi a P) (hok : okD P) : Mi mX5_readPacket 4 [.ref a, .ref b] z sh mi mr (RPp mi a b (prs P)) := by
  obtain ⟨l0, l1, l2⟩ := id hL
  obtain ⟨k0, k1, k2⟩ := id hB
  have h40 := hok.1
  have hne : a ≠ b := by omega
  have hCm : ∀ m, FrA mi m a b → PdC m a P := fun m h => hC.keep (h.2 1 (by omega)) (h.1 (a + 1) (by omega) (by omega) (by omega))
  have K53 : ∀ m j, FrA mi m a b → m a 2 = nI j → prs P = .inl j → Wp yX5_readPacket cX5_readPacket 2 (some .int) (EI 4 z sh mr (RPp mi a b (prs P))) 0 0 53 [.ref a, .ref b] [] z sh m mr := by
    intro m j hF hj hp
    refine r_aload_n 0 dX5_readPacket_53 rfl rfl ?_
    refine r_getV dX5_readPacket_54 fl_RX5_19 rfl (by assumption) (by first | assumption | exact up2_same _ _ _ _ | exact (Eq.trans (up2_ne _ _ (by omega)) (by first | assumption | exact up2_same _ _ _ _)) | exact (Eq.trans (up2_ne _ _ (by omega)) (Eq.trans (up2_ne _ _ (by omega)) (by first | assumption | exact up2_same _ _ _ _))) | exact (Eq.trans (up2_ne _ _ (by omega)) (Eq.trans (up2_ne _ _ (by omega)) (Eq.trans (up2_ne _ _ (by omega)) (by first | assumption | exact up2_same _ _ _ _)))) | exact (Eq.trans (up2_ne _ _ (by omega)) (Eq.trans (up2_ne _ _ (by omega)) (Eq.trans (up2_ne _ _ (by omega)) (Eq.trans (up2_ne _ _ (by omega)) (by first | assumption | exact up2_same _ _ _ _))))) | rfl) ?_
    refine r_iret dX5_readPacket_57 rfl (Nat.le_of_ble_eq_true rfl) (Nat.le_of_ble_eq_true rfl) ?_
    refine ⟨rfl, rfl, rfl, hF, ?_⟩
    rw [hp]
  have K87 : ∀ m j, FrA mi m a b → m a 2 = nI j → prs P = .inl j → Wp yX5_readPacket cX5_readPacket 2 (some .int) (EI 4 z sh mr (RPp mi a b (prs P))) 0 0 87 [.ref a, .ref b] [] z sh m mr := by
    intro m j hF hj hp
    refine r_aload_n 0 dX5_readPacket_87 rfl rfl ?_
    refine r_getV dX5_readPacket_88 fl_RX5_19 rfl (by assumption) (by first | assumption | exact up2_same _ _ _ _ | exact (Eq.trans (up2_ne _ _ (by omega)) (by first | assumption | exact up2_same _ _ _ _)) | exact (Eq.trans (up2_ne _ _ (by omega)) (Eq.trans (up2_ne _ _ (by omega)) (by first | assumption | exact up2_same _ _ _ _))) | exact (Eq.trans (up2_ne _ _ (by omega)) (Eq.trans (up2_ne _ _ (by omega)) (Eq.trans (up2_ne _ _ (by omega)) (by first | assumption | exact up2_same _ _ _ _)))) | exact (Eq.trans (up2_ne _ _ (by omega)) (Eq.trans (up2_ne _ _ (by omega)) (Eq.trans (up2_ne _ _ (by omega)) (Eq.trans (up2_ne _ _ (by omega)) (by first | assumption | exact up2_same _ _ _ _))))) | rfl) ?_
    refine r_iret dX5_readPacket_91 rfl (Nat.le_of_ble_eq_true rfl) (Nat.le_of_ble_eq_true rfl) ?_
    refine ⟨rfl, rfl, rfl, hF, ?_⟩
    rw [hp]
  generalize hs : lets 65 3 P 0 = s at *
  have hs3 : s.length ≤ 3 := by rw [← hs]; exact lets_len 65 3 P 0
  have hsl : s ≠ [] → s.length ≤ P.length := fun h => by rw [← hs] at h ⊢; have := lets_in (by omega : 0 < 65) 3 P 0 h; omega
  have hse : s ≠ [] → okL 3 s := fun h => by rw [← hs] at h ⊢; exact lets_okL h
  have hen : en 32 s < 32768 := by
    by_cases h : s = []
    · rw [h, en_nil]; omega
    · exact okL_32 (hse h)
  have K58 : ∀ m j ws, FrA mi m a b → m a 2 = nI (j + 1) → m b 2 = nI (en 32 s) → m b 1 = nI ws.length → (∀ i w, ws[i]? = some w → m (b + 1) i = nI (wc 32 w)) → (∀ w ∈ ws, okW w) → ws.length ≤ 5 → j + 1 ≤ P.length → s ≠ [] → sg P s.length = 62 → rdX P (s.length + 1) = (some ws, j) → sg P j = 58 → Wp yX5_readPacket cX5_readPacket 2 (some .int) (EI 4 z sh mr (RPp mi a b (prs P))) 0 0 58 [.ref a, .ref b] [] z sh m mr := by
    intro m j ws hF hj hb2 hb1 hw hwk h5 hjl hsn h62 hX h58
    have ht4 := lets_len 97 4 P (j + 1)
    have hprs : prs P = if lets 97 4 P (j + 1) = [] ∨ j + 1 + (lets 97 4 P (j + 1)).length < P.length then .inl (j + 1 + (lets 97 4 P (j + 1)).length) else .inr (s, lets 97 4 P (j + 1), ws) := by
      unfold prs
      unfold rdX at hX
      simp only [hs]
      rw [if_neg hsn, if_neg (by omega), hX]
      show (if sg P j ≠ 58 then _ else _) = _
      rw [if_neg (by omega)]
    generalize ht : lets 97 4 P (j + 1) = t at *
    have hte : t ≠ [] → okL 4 t := fun h => by rw [← ht] at h ⊢; exact lets_okL h
    have hten : en 32 t < 1048576 := by
      by_cases h : t = []
      · rw [h, en_nil]; omega
      · exact okT_32 (hte h)
    have hpos : t ≠ [] → 0 < en 32 t := fun h => okL_pos (hte h)
    have htl : t ≠ [] → j + 1 + t.length ≤ P.length := fun h => by rw [← ht] at h ⊢; exact lets_in (by omega : 0 < 97) 4 P (j + 1) h
    obtain ⟨m2, hm2⟩ : ∃ m2, m2 = up2 (up2 m a 2 (nI (j + 1 + t.length))) b 3 (nI (en 32 t)) := ⟨_, rfl⟩
    have hF2 : FrA mi m2 a b := by rw [hm2]; exact hF.up.upb hne
    have a2 : m2 a 2 = nI (j + 1 + t.length) := by rw [hm2, up2_row _ _ hne, up2_same]
    have a1 : m2 a 1 = nI P.length := by rw [hF2.2 1 (by omega)]; exact hC.1
    have b3 : m2 b 3 = nI (en 32 t) := by rw [hm2, up2_same]
    refine r_aload_n 1 dX5_readPacket_58 rfl rfl ?_
    refine r_aload_n 0 dX5_readPacket_59 rfl rfl ?_
    refine r_bipush (v := nI 97) dX5_readPacket_60 (by decide) ?_
    refine r_iconst (v := nI 4) dX5_readPacket_62 (by decide) ?_
    refine r_callVx [_, _] dX5_readPacket_63 ok_RX5_22 ivX5_readLetters (by assumption) ⟨_, _, rfl⟩ rfl rfl (Nat.le_of_ble_eq_true rfl) (by refine ⟨?_, ?_, ?_, ?_⟩ <;> exact Nat.le_of_ble_eq_true rfl) (c_readLetters hL (hCm m hF) hok hj (by omega) (by omega) (by omega) (by omega)) ?_
    intro m1 hm1
    subst hm1
    rw [ht]
    refine r_putI dX5_readPacket_66 fl_RX5_42 rfl rfl rfl (by assumption) ?_
    rw [← hm2]
    refine r_aload_n 1 dX5_readPacket_69 rfl rfl ?_
    refine r_getV dX5_readPacket_70 fl_RX5_42 rfl (by assumption) (by first | assumption | exact up2_same _ _ _ _ | exact (Eq.trans (up2_ne _ _ (by omega)) (by first | assumption | exact up2_same _ _ _ _)) | exact (Eq.trans (up2_ne _ _ (by omega)) (Eq.trans (up2_ne _ _ (by omega)) (by first | assumption | exact up2_same _ _ _ _))) | exact (Eq.trans (up2_ne _ _ (by omega)) (Eq.trans (up2_ne _ _ (by omega)) (Eq.trans (up2_ne _ _ (by omega)) (by first | assumption | exact up2_same _ _ _ _)))) | exact (Eq.trans (up2_ne _ _ (by omega)) (Eq.trans (up2_ne _ _ (by omega)) (Eq.trans (up2_ne _ _ (by omega)) (Eq.trans (up2_ne _ _ (by omega)) (by first | assumption | exact up2_same _ _ _ _))))) | rfl) ?_
    refine r_ifN_eq 87 dX5_readPacket_73 (by decide) (by omega) (fun h73 => ?_) (fun h73 => ?_)
    · refine K87 m2 _ hF2 a2 ?_
      rw [hprs, if_pos ?_]
      first | (left; by_cases h : t = []; (exact h); (have := hpos h; omega)) | (right; omega)
    · refine r_aload_n 0 dX5_readPacket_76 rfl rfl ?_
      refine r_getV dX5_readPacket_77 fl_RX5_19 rfl (by assumption) (by first | assumption | exact up2_same _ _ _ _ | exact (Eq.trans (up2_ne _ _ (by omega)) (by first | assumption | exact up2_same _ _ _ _)) | exact (Eq.trans (up2_ne _ _ (by omega)) (Eq.trans (up2_ne _ _ (by omega)) (by first | assumption | exact up2_same _ _ _ _))) | exact (Eq.trans (up2_ne _ _ (by omega)) (Eq.trans (up2_ne _ _ (by omega)) (Eq.trans (up2_ne _ _ (by omega)) (by first | assumption | exact up2_same _ _ _ _)))) | exact (Eq.trans (up2_ne _ _ (by omega)) (Eq.trans (up2_ne _ _ (by omega)) (Eq.trans (up2_ne _ _ (by omega)) (Eq.trans (up2_ne _ _ (by omega)) (by first | assumption | exact up2_same _ _ _ _))))) | rfl) ?_
      refine r_aload_n 0 dX5_readPacket_80 rfl rfl ?_
      refine r_getV dX5_readPacket_81 fl_RX5_15 rfl (by assumption) (by first | assumption | exact up2_same _ _ _ _ | exact (Eq.trans (up2_ne _ _ (by omega)) (by first | assumption | exact up2_same _ _ _ _)) | exact (Eq.trans (up2_ne _ _ (by omega)) (Eq.trans (up2_ne _ _ (by omega)) (by first | assumption | exact up2_same _ _ _ _))) | exact (Eq.trans (up2_ne _ _ (by omega)) (Eq.trans (up2_ne _ _ (by omega)) (Eq.trans (up2_ne _ _ (by omega)) (by first | assumption | exact up2_same _ _ _ _)))) | exact (Eq.trans (up2_ne _ _ (by omega)) (Eq.trans (up2_ne _ _ (by omega)) (Eq.trans (up2_ne _ _ (by omega)) (Eq.trans (up2_ne _ _ (by omega)) (by first | assumption | exact up2_same _ _ _ _))))) | rfl) ?_
      refine r_icmpN_ge 92 dX5_readPacket_84 (by decide) (by omega) (by omega) (fun h84 => ?_) (fun h84 => ?_)
      · refine r_bipush (v := -6) dX5_readPacket_92 (by decide) ?_
        refine r_iret dX5_readPacket_94 rfl (Nat.le_of_ble_eq_true rfl) (Nat.le_of_ble_eq_true rfl) ?_
        refine ⟨rfl, rfl, rfl, hF2, ?_⟩
        have htn : t ≠ [] := fun h => h73 (by rw [h, en_nil])
        have := htl htn
        rw [hprs, if_neg (by rintro (h | h); (exact htn h); omega)]
        refine ⟨rfl, ⟨?_, ?_, b3, fun i w hi => ?_⟩, hse hsn, hte htn, by show ws.length ≤ 8; omega, hwk⟩
        · rw [hm2, up2_ne _ _ (Or.inr (by omega)), up2_row _ _ (Ne.symm hne)]; exact hb1
        · rw [hm2, up2_ne _ _ (Or.inr (by omega)), up2_row _ _ (Ne.symm hne)]; exact hb2
        · rw [hm2, up2_row _ _ (by omega), up2_row _ _ (by omega)]; exact hw i w hi
      · refine K87 m2 _ hF2 a2 ?_
        rw [hprs, if_pos ?_]
        first | (left; by_cases h : t = []; (exact h); (have := hpos h; omega)) | (right; omega)
  have K36 : ∀ m, FrA mi m a b → m a 2 = nI (s.length + 1) → m b 2 = nI (en 32 s) → m b 1 = nI 0 → s ≠ [] → sg P s.length = 62 → Wp yX5_readPacket cX5_readPacket 2 (some .int) (EI 4 z sh mr (RPp mi a b (prs P))) 0 0 36 [.ref a, .ref b] [] z sh m mr := by
    intro m hF hj hb2 hb1 hsn h62
    have hsl2 := sg_pos (P := P) (i := s.length) (by omega)
    have hprs : ∀ j, rdX P (s.length + 1) = (none, j) → prs P = .inl j := fun j hX => by
      unfold prs
      unfold rdX at hX
      simp only [hs]
      rw [if_neg hsn, if_neg (by omega), hX]
    have hprs2 : ∀ j ws, rdX P (s.length + 1) = (some ws, j) → sg P j ≠ 58 → prs P = .inl j := fun j ws hX h58 => by
      unfold prs
      unfold rdX at hX
      simp only [hs]
      rw [if_neg hsn, if_neg (by omega), hX]
      show (if sg P j ≠ 58 then _ else _) = _
      rw [if_pos h58]
    cases hX : rdX P (s.length + 1) with
    | mk r j =>
      cases r with
      | none =>
        refine r_aload_n 0 dX5_readPacket_36 rfl rfl ?_
        refine r_aload_n 1 dX5_readPacket_37 rfl rfl ?_
        refine r_callVi [_] dX5_readPacket_38 ok_RX5_38 ivX5_readWords (by assumption) ⟨_, _, rfl⟩ rfl rfl (Nat.le_of_ble_eq_true rfl) (by refine ⟨?_, ?_, ?_, ?_⟩ <;> exact Nat.le_of_ble_eq_true rfl) (c_readWords hL hB hab (hCm m hF) hok hj (by omega) hb1) ?_
        intro v m2 h
        rw [hX] at h
        obtain ⟨⟨hP, hj2, rfl⟩, hle⟩ := h
        refine r_ifN_eq 53 dX5_readPacket_41 (by decide) (by omega) (fun h41 => ?_) (fun h41 => ?_)
        · exact K53 m2 j ⟨fun x h1 h2 h3 => (hP.1 x h1 h2 h3).trans (hF.1 x h1 h2 h3), fun k hk => (hP.2.1 k hk).trans (hF.2 k hk)⟩ hj2 (hprs j hX)
        · exact absurd rfl h41
      | some ws =>
        have hsj := sg_lt hok j
        refine r_aload_n 0 dX5_readPacket_36 rfl rfl ?_
        refine r_aload_n 1 dX5_readPacket_37 rfl rfl ?_
        refine r_callVi [_] dX5_readPacket_38 ok_RX5_38 ivX5_readWords (by assumption) ⟨_, _, rfl⟩ rfl rfl (Nat.le_of_ble_eq_true rfl) (by refine ⟨?_, ?_, ?_, ?_⟩ <;> exact Nat.le_of_ble_eq_true rfl) (c_readWords hL hB hab (hCm m hF) hok hj (by omega) hb1) ?_
        intro v m2 h
        rw [hX] at h
        obtain ⟨⟨hP, hj2, rfl, e1, e2, e3, e4⟩, hle⟩ := h
        have hF2 : FrA mi m2 a b := ⟨fun x h1 h2 h3 => (hP.1 x h1 h2 h3).trans (hF.1 x h1 h2 h3), fun k hk => (hP.2.1 k hk).trans (hF.2 k hk)⟩
        have hle : j ≤ P.length := hle
        refine r_ifN_eq 53 dX5_readPacket_41 (by decide) (by omega) (fun h41 => ?_) (fun h41 => ?_)
        · first | omega | (rw [h50] at hm3; rw [hm3.trans (up2_id hj2)]; exact K53 m2 j hF2 hj2 (hprs2 j ws hX (by simpa using h50)))
        · refine r_aload_n 0 dX5_readPacket_44 rfl rfl ?_
          refine r_bipush (v := nI 58) dX5_readPacket_45 (by decide) ?_
          refine r_callVx [_] dX5_readPacket_47 ok_RX5_34 ivX5_take (by assumption) ⟨_, _, rfl⟩ rfl rfl (Nat.le_of_ble_eq_true rfl) (by refine ⟨?_, ?_, ?_, ?_⟩ <;> exact Nat.le_of_ble_eq_true rfl) (c_take hL (hCm m2 hF2) hok hj2 (by omega) (by omega)) ?_
          intro m3 hm3
          refine r_ifB_ne 58 dX5_readPacket_50 (by decide) (fun h50 => ?_) (fun h50 => ?_)
          · rw [h50] at hm3
            have h58 : sg P j = 58 := by simpa using h50
            have hjl := sg_pos (P := P) (i := j) (by omega)
            subst hm3
            refine K58 _ j ws hF2.up (up2_same _ _ _ _) ?_ ?_ (fun i w hi => ?_) e2 e3 (by omega) hsn h62 hX h58
            · rw [up2_row _ _ (Ne.symm hne), hP.2.2 2 (by omega)]; exact hb2
            · rw [up2_row _ _ (Ne.symm hne)]; exact e1
            · rw [up2_row _ _ (by omega)]; exact e4 i w hi
          · first | omega | (rw [h50] at hm3; rw [hm3.trans (up2_id hj2)]; exact K53 m2 j hF2 hj2 (hprs2 j ws hX (by simpa using h50)))
  have K20 : ∀ m, FrA mi m a b → m a 2 = nI s.length → m b 2 = nI (en 32 s) → m b 1 = nI 0 → Wp yX5_readPacket cX5_readPacket 2 (some .int) (EI 4 z sh mr (RPp mi a b (prs P))) 0 0 20 [.ref a, .ref b] [] z sh m mr := by
    intro m hF hj hb2 hb1
    have hss := sg_lt hok s.length
    have p0 : s = [] → prs P = .inl s.length := fun h => by unfold prs; simp only [hs]; rw [if_pos h, h]; rfl
    have p1 : s ≠ [] → sg P s.length ≠ 62 → prs P = .inl s.length := fun h h2 => by unfold prs; simp only [hs]; rw [if_neg h, if_pos h2]
    have hz : en 32 s = 0 → s = [] := fun h => by
      by_cases he : s = []
      · exact he
      · have := okL_pos (b := 32) (hse he); omega
    refine r_aload_n 1 dX5_readPacket_20 rfl rfl ?_
    refine r_getV dX5_readPacket_21 fl_RX5_31 rfl (by assumption) (by first | assumption | exact up2_same _ _ _ _ | exact (Eq.trans (up2_ne _ _ (by omega)) (by first | assumption | exact up2_same _ _ _ _)) | exact (Eq.trans (up2_ne _ _ (by omega)) (Eq.trans (up2_ne _ _ (by omega)) (by first | assumption | exact up2_same _ _ _ _))) | exact (Eq.trans (up2_ne _ _ (by omega)) (Eq.trans (up2_ne _ _ (by omega)) (Eq.trans (up2_ne _ _ (by omega)) (by first | assumption | exact up2_same _ _ _ _)))) | exact (Eq.trans (up2_ne _ _ (by omega)) (Eq.trans (up2_ne _ _ (by omega)) (Eq.trans (up2_ne _ _ (by omega)) (Eq.trans (up2_ne _ _ (by omega)) (by first | assumption | exact up2_same _ _ _ _))))) | rfl) ?_
    refine r_ifN_eq 53 dX5_readPacket_24 (by decide) (by omega) (fun h24 => ?_) (fun h24 => ?_)
    · first | exact K53 m s.length hF hj (p0 (hz h24)) | (rw [h33] at hm3; rw [hm3.trans (up2_id hj)]; exact K53 m s.length hF hj (p1 (fun e => h24 (by rw [e, en_nil])) (by simpa using h33)))
    · refine r_aload_n 0 dX5_readPacket_27 rfl rfl ?_
      refine r_bipush (v := nI 62) dX5_readPacket_28 (by decide) ?_
      refine r_callVx [_] dX5_readPacket_30 ok_RX5_34 ivX5_take (by assumption) ⟨_, _, rfl⟩ rfl rfl (Nat.le_of_ble_eq_true rfl) (by refine ⟨?_, ?_, ?_, ?_⟩ <;> exact Nat.le_of_ble_eq_true rfl) (c_take hL (hCm m hF) hok hj (by omega) (by omega)) ?_
      intro m3 hm3
      refine r_ifB_eq 53 dX5_readPacket_33 (by decide) (fun h33 => ?_) (fun h33 => ?_)
      · first | exact K53 m s.length hF hj (p0 (hz h24)) | (rw [h33] at hm3; rw [hm3.trans (up2_id hj)]; exact K53 m s.length hF hj (p1 (fun e => h24 (by rw [e, en_nil])) (by simpa using h33)))
      · rw [h33] at hm3
        subst hm3
        exact K36 _ hF.up (up2_same _ _ _ _) (by rw [up2_row _ _ (Ne.symm hne)]; exact hb2) (by rw [up2_row _ _ (Ne.symm hne)]; exact hb1) (fun e => h24 (by rw [e, en_nil])) (by simpa using h33)
  have hF0 : FrA mi (up2 (up2 (up2 (up2 mi a 2 (nI 0)) b 1 (nI 0)) b 2 (nI 0)) b 3 (nI 0)) a b := by
    have h : FrA mi mi a b := ⟨fun _ _ _ _ => rfl, fun _ _ => rfl⟩
    exact ((h.up.upb hne).upb hne).upb hne
  refine Mv.of pnX5_readPacket (Nat.le_of_ble_eq_true rfl) rfl ?_
  refine r_aload_n 0 dX5_readPacket_0 rfl rfl ?_
  refine r_iconst (v := nI 0) dX5_readPacket_1 (by decide) ?_
  refine r_putI dX5_readPacket_2 fl_RX5_19 rfl rfl rfl (by assumption) ?_
  refine r_aload_n 1 dX5_readPacket_5 rfl rfl ?_
  refine r_callVw [] dX5_readPacket_6 ok_RX5_26 ivX4_clear (by assumption) ⟨_, _, rfl⟩ rfl rfl (Nat.le_of_ble_eq_true rfl) (by refine ⟨?_, ?_, ?_, ?_⟩ <;> exact Nat.le_of_ble_eq_true rfl) (c_clear hB) ?_
  intro m hm
  subst hm
  refine r_aload_n 1 dX5_readPacket_9 rfl rfl ?_
  refine r_aload_n 0 dX5_readPacket_10 rfl rfl ?_
  refine r_bipush (v := nI 65) dX5_readPacket_11 (by decide) ?_
  refine r_iconst (v := nI 3) dX5_readPacket_13 (by decide) ?_
  refine r_callVx [_, _] dX5_readPacket_14 ok_RX5_22 ivX5_readLetters (by assumption) ⟨_, _, rfl⟩ rfl rfl (Nat.le_of_ble_eq_true rfl) (by refine ⟨?_, ?_, ?_, ?_⟩ <;> exact Nat.le_of_ble_eq_true rfl) (c_readLetters hL (hCm _ hF0) hok (by rw [up2_row _ _ hne, up2_row _ _ hne, up2_row _ _ hne, up2_same]) (by omega) (by omega) (by omega) (by omega)) ?_
  intro m hm
  subst hm
  rw [hs, Nat.zero_add]
  refine r_putI dX5_readPacket_17 fl_RX5_31 rfl rfl rfl (by assumption) ?_
  refine K20 _ (hF0.up.upb hne) (by rw [up2_row _ _ hne, up2_same, Nat.zero_add]) (up2_same _ _ _ _) ?_
  rw [up2_ne _ _ (Or.inr (by omega)), up2_row _ _ (Ne.symm hne), up2_ne _ _ (Or.inr (by omega)), up2_ne _ _ (Or.inr (by omega)), up2_same]
end PAD3
