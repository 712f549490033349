section LAW
variable {b L : Nat} {xs : Nat → Int32} {x : Nat}
theorem law_loop (hL2 : L ≤ 2048) : ∀ (t j N kc ks z : Nat) (sh : SH) (mi : MI) (mr : MR) (σ : Al), j + t = 513 → Inv z sh mi mr x N σ → N ≤ 50 * j → kc ≤ 600 + 261 * j → ks ≤ 10000 + 1749 * j → Wp yL_law cL_law 4 (some .boolean) (ELaw b L xs) kc ks 18 [.ref b, .ref x, .ref (x + 533), .int (nI (4 * j))] [] z sh mi mr := by
  intro t
  induction t with
  | zero =>
    intro j N kc ks z sh mi mr σ hj hI hN hkc hks
    have hj : j = 513 := hj
    subst hj
    rcases Nat.lt_or_ge L 4 with h4 | h4
    · skip
      refine r_iload_n 3 dL_law_18 rfl rfl ?_
      refine r_aload_n 0 dL_law_19 rfl rfl ?_
      refine r_slen dL_law_20 ?_
      refine r_iconst (v := nI 4) dL_law_21 (by decide) ?_
      refine r_isub dL_law_22 ?_
      refine r_icmp_gt 697 dL_law_23 (by decide) (fun h23 => ?_) (fun h23 => ?_)
      · refine r_iconst (v := 1) dL_law_697 (by decide) ?_
        exact r_lret dL_law_698 (by omega) (by omega)
      · have e1 := pk_sub_toInt (a := L) (b := 4) (by omega) (by omega)
        have e2 := nI_toInt (n := 4 * 513) (by omega)
        first | (rw [Int32.not_lt, Int32.le_iff_toInt_le] at h23; omega) | (rw [Int32.le_iff_toInt_le] at h23; omega)
    · skip
      refine r_iload_n 3 dL_law_18 rfl rfl ?_
      refine r_aload_n 0 dL_law_19 rfl rfl ?_
      refine r_slen dL_law_20 ?_
      refine r_iconst (v := nI 4) dL_law_21 (by decide) ?_
      refine r_isubN dL_law_22 (by omega) ?_
      refine r_icmpN_gt 697 dL_law_23 (by decide) (by omega) (by omega) (fun h23 => ?_) (fun h23 => ?_)
      · refine r_iconst (v := 1) dL_law_697 (by decide) ?_
        exact r_lret dL_law_698 (by omega) (by omega)
      · omega
  | succ t ih =>
    intro j N kc ks z sh mi mr σ hj hI hN hkc hks
    have hok := hI.2.2.2.1
    have h27 : N < 2 ^ 27 := by omega
    have h27' : N + 50 < 2 ^ 27 := by omega
    have hx9 : sh x = (9, 0) := hI.1.1.1
    have hm10 : sh (x + 533) = (10, 0) := hI.2.1.1
    have hk2 : kc + 261 ≤ 600 + 261 * (j + 1) := by rw [Nat.mul_succ, ← Nat.add_assoc]; exact Nat.add_le_add_right hkc 261
    have hs2 : ks + 1749 ≤ 10000 + 1749 * (j + 1) := by rw [Nat.mul_succ, ← Nat.add_assoc]; exact Nat.add_le_add_right hks 1749
    have K691 : ∀ (N' kc' ks' z' : Nat) (sh' : SH) (mi' : MI) (mr' : MR) (σ' : Al), Inv z' sh' mi' mr' x N' σ' → N' ≤ N + 50 → kc' ≤ kc + 261 → ks' ≤ ks + 1749 → Wp yL_law cL_law 4 (some .boolean) (ELaw b L xs) kc' ks' 691 [.ref b, .ref x, .ref (x + 533), .int (nI (4 * j))] [] z' sh' mi' mr' := by
      intro N' kc' ks' z' sh' mi' mr' σ' hI' hN' hkc' hks'
      refine r_iincN 3 (b := 4) (ls2 := [_, _, _, _]) dL_law_691 rfl (by decide) (by decide) rfl ?_
      refine r_goto 18 dL_law_694 (by decide) ?_
      rw [show 4 * j + 4 = 4 * (j + 1) by omega]
      exact ih (j + 1) N' kc' ks' z' sh' mi' mr' σ' (by omega) hI' (by omega) (Nat.le_trans hkc' hk2) (Nat.le_trans hks' hs2)
    clear hk2 hs2
    by_cases hgo : 4 * j + 4 ≤ L
    · have S32 : ∀ c, c < 32 → Wp yL_law cL_law 4 (some .boolean) (ELaw b L xs) kc ks 32 [.ref b, .ref x, .ref (x + 533), .int (nI (4 * j))] [.int (nI c)] z sh mi mr := by
        intro c hc
        rcases (show c = 0 ∨ c = 1 ∨ c = 2 ∨ c = 3 ∨ c = 4 ∨ c = 5 ∨ c = 6 ∨ c = 7 ∨ c = 8 ∨ c = 9 ∨ c = 10 ∨ c = 11 ∨ c = 12 ∨ c = 13 ∨ c = 14 ∨ c = 15 ∨ c = 16 ∨ c = 17 ∨ c = 18 ∨ 19 ≤ c by omega) with rfl | rfl | rfl | rfl | rfl | rfl | rfl | rfl | rfl | rfl | rfl | rfl | rfl | rfl | rfl | rfl | rfl | rfl | rfl | h
        · refine r_tableIn 124 dL_law_32 (by decide) (by decide) rfl (by decide) ?_
          refine r_aload_n 1 dL_law_124 rfl rfl ?_
          refine r_aload_n 0 dL_law_125 rfl rfl ?_
          refine r_iload_n 3 dL_law_126 rfl rfl ?_
          refine r_iconst (v := nI 1) dL_law_127 (by decide) ?_
          refine r_iaddN dL_law_128 ?_
          refine r_sld dL_law_129 (by omega) hL2 ?_
          refine r_callVm [_] dL_law_130 ok_RL_13 ivX9_say (by assumption) ⟨_, _, rfl⟩ rfl rfl (Nat.le_of_ble_eq_true rfl) ⟨(Nat.le_of_ble_eq_true rfl), (Nat.le_of_ble_eq_true rfl), Nat.le_trans (m := 640613) (by omega) (Nat.le_refl _), Nat.le_trans (m := 7180410) (by omega) (Nat.le_refl _)⟩ (k_say hI.1 hok  _) ?_
          intro vA mA rA ⟨uV, uC, uQ⟩
          subst uV
          have uL : LM sh rA (x + 533) := hI.2.1.rows (fun _ _ _ => rfl) (uQ _ (by omega) (by omega)).2
          have uR : RR mA (x + 533) σ := hI.2.2.1.rows (fun q q1 q2 => (uQ q q1 (by omega)).1)
          refine r_aload_n 2 dL_law_133 rfl rfl ?_
          refine r_aload_n 0 dL_law_134 rfl rfl ?_
          refine r_iload_n 3 dL_law_135 rfl rfl ?_
          refine r_iconst (v := nI 1) dL_law_136 (by decide) ?_
          refine r_iaddN dL_law_137 ?_
          refine r_sld dL_law_138 (by omega) hL2 ?_
          refine r_callVi [_] dL_law_139 ok_RL_17 ivX10_say (by assumption) ⟨_, _, rfl⟩ rfl rfl (Nat.le_of_ble_eq_true rfl) ⟨(Nat.le_of_ble_eq_true rfl), (Nat.le_of_ble_eq_true rfl), Nat.le_trans (m := 640613) (by omega) (Nat.le_refl _), Nat.le_trans (m := 7180410) (by omega) (Nat.le_refl _)⟩ (n_say uL uR hok  _) ?_
          intro vB mB uM
          have uW := uM.1
          subst uW
          refine r_icmp_eq 691 dL_law_142 (by decide) (fun h142 => ?_) (fun h142 => ?_)
          · exact K691 (N + 50) _ _ _ _ _ _ _ (hI.both uC uQ uM ((ok_say hok _).mono (by omega))) (by omega) (by omega) (by omega)
          · exact absurd rfl h142
        · refine r_tableIn 147 dL_law_32 (by decide) (by decide) rfl (by decide) ?_
          refine r_aload_n 1 dL_law_147 rfl rfl ?_
          refine r_callVm [] dL_law_148 ok_RL_18 ivX9_wipe (by assumption) ⟨_, _, rfl⟩ rfl rfl (Nat.le_of_ble_eq_true rfl) ⟨(Nat.le_of_ble_eq_true rfl), (Nat.le_of_ble_eq_true rfl), Nat.le_trans (m := 640613) (by omega) (Nat.le_refl _), Nat.le_trans (m := 7180410) (by omega) (Nat.le_refl _)⟩ (k_wipe hI.1 hok) ?_
          intro vA mA rA ⟨uV, uC, uQ⟩
          subst uV
          have uL : LM sh rA (x + 533) := hI.2.1.rows (fun _ _ _ => rfl) (uQ _ (by omega) (by omega)).2
          have uR : RR mA (x + 533) σ := hI.2.2.1.rows (fun q q1 q2 => (uQ q q1 (by omega)).1)
          refine r_aload_n 2 dL_law_151 rfl rfl ?_
          refine r_callVi [] dL_law_152 ok_RL_22 ivX10_wipe (by assumption) ⟨_, _, rfl⟩ rfl rfl (Nat.le_of_ble_eq_true rfl) ⟨(Nat.le_of_ble_eq_true rfl), (Nat.le_of_ble_eq_true rfl), Nat.le_trans (m := 640613) (by omega) (Nat.le_refl _), Nat.le_trans (m := 7180410) (by omega) (Nat.le_refl _)⟩ (n_wipe uL uR) ?_
          intro vB mB uM
          have uW := uM.1
          subst uW
          refine r_icmp_eq 691 dL_law_155 (by decide) (fun h155 => ?_) (fun h155 => ?_)
          · exact K691 (N + 50) _ _ _ _ _ _ _ (hI.both uC uQ uM (hok.noP.mono (by omega))) (by omega) (by omega) (by omega)
          · exact absurd rfl h155
        · refine r_tableIn 160 dL_law_32 (by decide) (by decide) rfl (by decide) ?_
          refine r_aload_n 1 dL_law_160 rfl rfl ?_
          refine r_callVm [] dL_law_161 ok_RL_23 ivX9_fault (by assumption) ⟨_, _, rfl⟩ rfl rfl (Nat.le_of_ble_eq_true rfl) ⟨(Nat.le_of_ble_eq_true rfl), (Nat.le_of_ble_eq_true rfl), Nat.le_trans (m := 640613) (by omega) (Nat.le_refl _), Nat.le_trans (m := 7180410) (by omega) (Nat.le_refl _)⟩ (k_fault hI.1 hok) ?_
          intro vA mA rA ⟨uV, uC, uQ⟩
          subst uV
          have uL : LM sh rA (x + 533) := hI.2.1.rows (fun _ _ _ => rfl) (uQ _ (by omega) (by omega)).2
          have uR : RR mA (x + 533) σ := hI.2.2.1.rows (fun q q1 q2 => (uQ q q1 (by omega)).1)
          refine r_aload_n 2 dL_law_164 rfl rfl ?_
          refine r_callVi [] dL_law_165 ok_RL_26 ivX10_fault (by assumption) ⟨_, _, rfl⟩ rfl rfl (Nat.le_of_ble_eq_true rfl) ⟨(Nat.le_of_ble_eq_true rfl), (Nat.le_of_ble_eq_true rfl), Nat.le_trans (m := 640613) (by omega) (Nat.le_refl _), Nat.le_trans (m := 7180410) (by omega) (Nat.le_refl _)⟩ (n_fault uL uR hok) ?_
          intro vB mB uM
          have uW := uM.1
          subst uW
          refine r_icmp_eq 691 dL_law_168 (by decide) (fun h168 => ?_) (fun h168 => ?_)
          · exact K691 (N + 50) _ _ _ _ _ _ _ (hI.both uC uQ uM (hok.mono (by omega))) (by omega) (by omega) (by omega)
          · exact absurd rfl h168
        · refine r_tableIn 173 dL_law_32 (by decide) (by decide) rfl (by decide) ?_
          refine r_aload_n 1 dL_law_173 rfl rfl ?_
          refine r_aload_n 0 dL_law_174 rfl rfl ?_
          refine r_iload_n 3 dL_law_175 rfl rfl ?_
          refine r_iconst (v := nI 1) dL_law_176 (by decide) ?_
          refine r_iaddN dL_law_177 ?_
          refine r_sld dL_law_178 (by omega) hL2 ?_
          refine r_aload_n 0 dL_law_179 rfl rfl ?_
          refine r_iload_n 3 dL_law_180 rfl rfl ?_
          refine r_iconst (v := nI 2) dL_law_181 (by decide) ?_
          refine r_iaddN dL_law_182 ?_
          refine r_sld dL_law_183 (by omega) hL2 ?_
          refine r_callVm [_, _] dL_law_184 ok_RL_27 ivX9_name (by assumption) ⟨_, _, rfl⟩ rfl rfl (Nat.le_of_ble_eq_true rfl) ⟨(Nat.le_of_ble_eq_true rfl), (Nat.le_of_ble_eq_true rfl), Nat.le_trans (m := 640613) (by omega) (Nat.le_refl _), Nat.le_trans (m := 7180410) (by omega) (Nat.le_refl _)⟩ (k_name hI.1 hok  _ _) ?_
          intro vA mA rA ⟨uV, uC, uQ⟩
          subst uV
          have uL : LM sh rA (x + 533) := hI.2.1.rows (fun _ _ _ => rfl) (uQ _ (by omega) (by omega)).2
          have uR : RR mA (x + 533) σ := hI.2.2.1.rows (fun q q1 q2 => (uQ q q1 (by omega)).1)
          refine r_aload_n 2 dL_law_187 rfl rfl ?_
          refine r_aload_n 0 dL_law_188 rfl rfl ?_
          refine r_iload_n 3 dL_law_189 rfl rfl ?_
          refine r_iconst (v := nI 1) dL_law_190 (by decide) ?_
          refine r_iaddN dL_law_191 ?_
          refine r_sld dL_law_192 (by omega) hL2 ?_
          refine r_aload_n 0 dL_law_193 rfl rfl ?_
          refine r_iload_n 3 dL_law_194 rfl rfl ?_
          refine r_iconst (v := nI 2) dL_law_195 (by decide) ?_
          refine r_iaddN dL_law_196 ?_
          refine r_sld dL_law_197 (by omega) hL2 ?_
          refine r_callVi [_, _] dL_law_198 ok_RL_31 ivX10_name (by assumption) ⟨_, _, rfl⟩ rfl rfl (Nat.le_of_ble_eq_true rfl) ⟨(Nat.le_of_ble_eq_true rfl), (Nat.le_of_ble_eq_true rfl), Nat.le_trans (m := 640613) (by omega) (Nat.le_refl _), Nat.le_trans (m := 7180410) (by omega) (Nat.le_refl _)⟩ (n_name uL uR hok  _ _) ?_
          intro vB mB uM
          have uW := uM.1
          subst uW
          refine r_icmp_eq 691 dL_law_201 (by decide) (fun h201 => ?_) (fun h201 => ?_)
          · exact K691 (N + 50) _ _ _ _ _ _ _ (hI.both uC uQ uM ((ok_name hok _ _).mono (by omega))) (by omega) (by omega) (by omega)
          · exact absurd rfl h201
        · refine r_tableIn 206 dL_law_32 (by decide) (by decide) rfl (by decide) ?_
          refine r_aload_n 1 dL_law_206 rfl rfl ?_
          refine r_aload_n 0 dL_law_207 rfl rfl ?_
          refine r_iload_n 3 dL_law_208 rfl rfl ?_
          refine r_iconst (v := nI 1) dL_law_209 (by decide) ?_
          refine r_iaddN dL_law_210 ?_
          refine r_sld dL_law_211 (by omega) hL2 ?_
          refine r_aload_n 0 dL_law_212 rfl rfl ?_
          refine r_iload_n 3 dL_law_213 rfl rfl ?_
          refine r_iconst (v := nI 2) dL_law_214 (by decide) ?_
          refine r_iaddN dL_law_215 ?_
          refine r_sld dL_law_216 (by omega) hL2 ?_
          refine r_callVm [_, _] dL_law_217 ok_RL_32 ivX9_forget (by assumption) ⟨_, _, rfl⟩ rfl rfl (Nat.le_of_ble_eq_true rfl) ⟨(Nat.le_of_ble_eq_true rfl), (Nat.le_of_ble_eq_true rfl), Nat.le_trans (m := 640613) (by omega) (Nat.le_refl _), Nat.le_trans (m := 7180410) (by omega) (Nat.le_refl _)⟩ (k_forget hI.1 hok  _ _) ?_
          intro vA mA rA ⟨uV, uC, uQ⟩
          subst uV
          have uL : LM sh rA (x + 533) := hI.2.1.rows (fun _ _ _ => rfl) (uQ _ (by omega) (by omega)).2
          have uR : RR mA (x + 533) σ := hI.2.2.1.rows (fun q q1 q2 => (uQ q q1 (by omega)).1)
          refine r_aload_n 2 dL_law_220 rfl rfl ?_
          refine r_aload_n 0 dL_law_221 rfl rfl ?_
          refine r_iload_n 3 dL_law_222 rfl rfl ?_
          refine r_iconst (v := nI 1) dL_law_223 (by decide) ?_
          refine r_iaddN dL_law_224 ?_
          refine r_sld dL_law_225 (by omega) hL2 ?_
          refine r_aload_n 0 dL_law_226 rfl rfl ?_
          refine r_iload_n 3 dL_law_227 rfl rfl ?_
          refine r_iconst (v := nI 2) dL_law_228 (by decide) ?_
          refine r_iaddN dL_law_229 ?_
          refine r_sld dL_law_230 (by omega) hL2 ?_
          refine r_callVi [_, _] dL_law_231 ok_RL_35 ivX10_forget (by assumption) ⟨_, _, rfl⟩ rfl rfl (Nat.le_of_ble_eq_true rfl) ⟨(Nat.le_of_ble_eq_true rfl), (Nat.le_of_ble_eq_true rfl), Nat.le_trans (m := 640613) (by omega) (Nat.le_refl _), Nat.le_trans (m := 7180410) (by omega) (Nat.le_refl _)⟩ (n_forget uL uR hok  _ _) ?_
          intro vB mB uM
          have uW := uM.1
          subst uW
          refine r_icmp_eq 691 dL_law_234 (by decide) (fun h234 => ?_) (fun h234 => ?_)
          · exact K691 (N + 50) _ _ _ _ _ _ _ (hI.both uC uQ uM ((ok_forget hok _ _).mono (by omega))) (by omega) (by omega) (by omega)
          · exact absurd rfl h234
        · refine r_tableIn 239 dL_law_32 (by decide) (by decide) rfl (by decide) ?_
          refine r_aload_n 1 dL_law_239 rfl rfl ?_
          refine r_aload_n 0 dL_law_240 rfl rfl ?_
          refine r_iload_n 3 dL_law_241 rfl rfl ?_
          refine r_iconst (v := nI 1) dL_law_242 (by decide) ?_
          refine r_iaddN dL_law_243 ?_
          refine r_sld dL_law_244 (by omega) hL2 ?_
          refine r_aload_n 0 dL_law_245 rfl rfl ?_
          refine r_iload_n 3 dL_law_246 rfl rfl ?_
          refine r_iconst (v := nI 2) dL_law_247 (by decide) ?_
          refine r_iaddN dL_law_248 ?_
          refine r_sld dL_law_249 (by omega) hL2 ?_
          refine r_aload_n 0 dL_law_250 rfl rfl ?_
          refine r_iload_n 3 dL_law_251 rfl rfl ?_
          refine r_iconst (v := nI 3) dL_law_252 (by decide) ?_
          refine r_iaddN dL_law_253 ?_
          refine r_sld dL_law_254 (by omega) hL2 ?_
          refine r_callVm [_, _, _] dL_law_255 ok_RL_36 ivX9_set (by assumption) ⟨_, _, rfl⟩ rfl rfl (Nat.le_of_ble_eq_true rfl) ⟨(Nat.le_of_ble_eq_true rfl), (Nat.le_of_ble_eq_true rfl), Nat.le_trans (m := 640613) (by omega) (Nat.le_refl _), Nat.le_trans (m := 7180410) (by omega) (Nat.le_refl _)⟩ (k_set hI.1 hok  _ _ _) ?_
          intro vA mA rA ⟨uV, uC, uQ⟩
          subst uV
          have uL : LM sh rA (x + 533) := hI.2.1.rows (fun _ _ _ => rfl) (uQ _ (by omega) (by omega)).2
          have uR : RR mA (x + 533) σ := hI.2.2.1.rows (fun q q1 q2 => (uQ q q1 (by omega)).1)
          refine r_aload_n 2 dL_law_258 rfl rfl ?_
          refine r_aload_n 0 dL_law_259 rfl rfl ?_
          refine r_iload_n 3 dL_law_260 rfl rfl ?_
          refine r_iconst (v := nI 1) dL_law_261 (by decide) ?_
          refine r_iaddN dL_law_262 ?_
          refine r_sld dL_law_263 (by omega) hL2 ?_
          refine r_aload_n 0 dL_law_264 rfl rfl ?_
          refine r_iload_n 3 dL_law_265 rfl rfl ?_
          refine r_iconst (v := nI 2) dL_law_266 (by decide) ?_
          refine r_iaddN dL_law_267 ?_
          refine r_sld dL_law_268 (by omega) hL2 ?_
          refine r_aload_n 0 dL_law_269 rfl rfl ?_
          refine r_iload_n 3 dL_law_270 rfl rfl ?_
          refine r_iconst (v := nI 3) dL_law_271 (by decide) ?_
          refine r_iaddN dL_law_272 ?_
          refine r_sld dL_law_273 (by omega) hL2 ?_
          refine r_callVi [_, _, _] dL_law_274 ok_RL_40 ivX10_set (by assumption) ⟨_, _, rfl⟩ rfl rfl (Nat.le_of_ble_eq_true rfl) ⟨(Nat.le_of_ble_eq_true rfl), (Nat.le_of_ble_eq_true rfl), Nat.le_trans (m := 640613) (by omega) (Nat.le_refl _), Nat.le_trans (m := 7180410) (by omega) (Nat.le_refl _)⟩ (n_set uL uR hok  _ _ _) ?_
          intro vB mB uM
          have uW := uM.1
          subst uW
          refine r_icmp_eq 691 dL_law_277 (by decide) (fun h277 => ?_) (fun h277 => ?_)
          · exact K691 (N + 50) _ _ _ _ _ _ _ (hI.both uC uQ uM ((ok_set hok _ _ _).mono (by omega))) (by omega) (by omega) (by omega)
          · exact absurd rfl h277
        · refine r_tableIn 282 dL_law_32 (by decide) (by decide) rfl (by decide) ?_
          refine r_aload_n 1 dL_law_282 rfl rfl ?_
          refine r_aload_n 0 dL_law_283 rfl rfl ?_
          refine r_iload_n 3 dL_law_284 rfl rfl ?_
          refine r_iconst (v := nI 1) dL_law_285 (by decide) ?_
          refine r_iaddN dL_law_286 ?_
          refine r_sld dL_law_287 (by omega) hL2 ?_
          refine r_aload_n 0 dL_law_288 rfl rfl ?_
          refine r_iload_n 3 dL_law_289 rfl rfl ?_
          refine r_iconst (v := nI 2) dL_law_290 (by decide) ?_
          refine r_iaddN dL_law_291 ?_
          refine r_sld dL_law_292 (by omega) hL2 ?_
          refine r_aload_n 0 dL_law_293 rfl rfl ?_
          refine r_iload_n 3 dL_law_294 rfl rfl ?_
          refine r_iconst (v := nI 3) dL_law_295 (by decide) ?_
          refine r_iaddN dL_law_296 ?_
          refine r_sld dL_law_297 (by omega) hL2 ?_
          refine r_callVm [_, _, _] dL_law_298 ok_RL_41 ivX9_near (by assumption) ⟨_, _, rfl⟩ rfl rfl (Nat.le_of_ble_eq_true rfl) ⟨(Nat.le_of_ble_eq_true rfl), (Nat.le_of_ble_eq_true rfl), Nat.le_trans (m := 640613) (by omega) (Nat.le_refl _), Nat.le_trans (m := 7180410) (by omega) (Nat.le_refl _)⟩ (k_near hI.1 hok  _ _ _) ?_
          intro vA mA rA ⟨uV, uC, uQ⟩
          subst uV
          have uL : LM sh rA (x + 533) := hI.2.1.rows (fun _ _ _ => rfl) (uQ _ (by omega) (by omega)).2
          have uR : RR mA (x + 533) σ := hI.2.2.1.rows (fun q q1 q2 => (uQ q q1 (by omega)).1)
          refine r_aload_n 2 dL_law_301 rfl rfl ?_
          refine r_aload_n 0 dL_law_302 rfl rfl ?_
          refine r_iload_n 3 dL_law_303 rfl rfl ?_
          refine r_iconst (v := nI 1) dL_law_304 (by decide) ?_
          refine r_iaddN dL_law_305 ?_
          refine r_sld dL_law_306 (by omega) hL2 ?_
          refine r_aload_n 0 dL_law_307 rfl rfl ?_
          refine r_iload_n 3 dL_law_308 rfl rfl ?_
          refine r_iconst (v := nI 2) dL_law_309 (by decide) ?_
          refine r_iaddN dL_law_310 ?_
          refine r_sld dL_law_311 (by omega) hL2 ?_
          refine r_aload_n 0 dL_law_312 rfl rfl ?_
          refine r_iload_n 3 dL_law_313 rfl rfl ?_
          refine r_iconst (v := nI 3) dL_law_314 (by decide) ?_
          refine r_iaddN dL_law_315 ?_
          refine r_sld dL_law_316 (by omega) hL2 ?_
          refine r_callVi [_, _, _] dL_law_317 ok_RL_44 ivX10_near (by assumption) ⟨_, _, rfl⟩ rfl rfl (Nat.le_of_ble_eq_true rfl) ⟨(Nat.le_of_ble_eq_true rfl), (Nat.le_of_ble_eq_true rfl), Nat.le_trans (m := 640613) (by omega) (Nat.le_refl _), Nat.le_trans (m := 7180410) (by omega) (Nat.le_refl _)⟩ (n_near uL uR hok  _ _ _) ?_
          intro vB mB uM
          have uW := uM.1
          subst uW
          refine r_icmp_eq 691 dL_law_320 (by decide) (fun h320 => ?_) (fun h320 => ?_)
          · exact K691 (N + 50) _ _ _ _ _ _ _ (hI.both uC uQ uM ((ok_near hok _ _ _).mono (by omega))) (by omega) (by omega) (by omega)
          · exact absurd rfl h320
        · refine r_tableIn 325 dL_law_32 (by decide) (by decide) rfl (by decide) ?_
          refine r_aload_n 1 dL_law_325 rfl rfl ?_
          refine r_aload_n 0 dL_law_326 rfl rfl ?_
          refine r_iload_n 3 dL_law_327 rfl rfl ?_
          refine r_iconst (v := nI 1) dL_law_328 (by decide) ?_
          refine r_iaddN dL_law_329 ?_
          refine r_sld dL_law_330 (by omega) hL2 ?_
          refine r_callVm [_] dL_law_331 ok_RL_45 ivX9_send (by assumption) ⟨_, _, rfl⟩ rfl rfl (Nat.le_of_ble_eq_true rfl) ⟨(Nat.le_of_ble_eq_true rfl), (Nat.le_of_ble_eq_true rfl), Nat.le_trans (m := 640613) (by omega) (Nat.le_refl _), Nat.le_trans (m := 7180410) (by omega) (Nat.le_refl _)⟩ (k_send hI.1 hok h27 _) ?_
          intro vA mA rA ⟨uV, uC, uQ⟩
          subst uV
          have uL : LM sh rA (x + 533) := hI.2.1.rows (fun _ _ _ => rfl) (uQ _ (by omega) (by omega)).2
          have uR : RR mA (x + 533) σ := hI.2.2.1.rows (fun q q1 q2 => (uQ q q1 (by omega)).1)
          refine r_aload_n 2 dL_law_334 rfl rfl ?_
          refine r_aload_n 0 dL_law_335 rfl rfl ?_
          refine r_iload_n 3 dL_law_336 rfl rfl ?_
          refine r_iconst (v := nI 1) dL_law_337 (by decide) ?_
          refine r_iaddN dL_law_338 ?_
          refine r_sld dL_law_339 (by omega) hL2 ?_
          refine r_callVi [_] dL_law_340 ok_RL_48 ivX10_send (by assumption) ⟨_, _, rfl⟩ rfl rfl (Nat.le_of_ble_eq_true rfl) ⟨(Nat.le_of_ble_eq_true rfl), (Nat.le_of_ble_eq_true rfl), Nat.le_trans (m := 640613) (by omega) (Nat.le_refl _), Nat.le_trans (m := 7180410) (by omega) (Nat.le_refl _)⟩ (n_send uL uR hok  _) ?_
          intro vB mB uM
          have uW := uM.1
          subst uW
          refine r_icmp_eq 691 dL_law_343 (by decide) (fun h343 => ?_) (fun h343 => ?_)
          · exact K691 (N + 50) _ _ _ _ _ _ _ (hI.both uC uQ uM ((ok_send hok _).mono (by omega))) (by omega) (by omega) (by omega)
          · exact absurd rfl h343
        · refine r_tableIn 348 dL_law_32 (by decide) (by decide) rfl (by decide) ?_
          refine r_aload_n 1 dL_law_348 rfl rfl ?_
          refine r_aload_n 0 dL_law_349 rfl rfl ?_
          refine r_iload_n 3 dL_law_350 rfl rfl ?_
          refine r_iconst (v := nI 1) dL_law_351 (by decide) ?_
          refine r_iaddN dL_law_352 ?_
          refine r_sld dL_law_353 (by omega) hL2 ?_
          refine r_callVm [_] dL_law_354 ok_RL_49 ivX9_run (by assumption) ⟨_, _, rfl⟩ rfl rfl (Nat.le_of_ble_eq_true rfl) ⟨(Nat.le_of_ble_eq_true rfl), (Nat.le_of_ble_eq_true rfl), Nat.le_trans (m := 640613) (by omega) (Nat.le_refl _), Nat.le_trans (m := 7180410) (by omega) (Nat.le_refl _)⟩ (k_run hI.1 hok h27' _) ?_
          intro vA mA rA ⟨uV, uC, uQ⟩
          subst uV
          have uL : LM sh rA (x + 533) := hI.2.1.rows (fun _ _ _ => rfl) (uQ _ (by omega) (by omega)).2
          have uR : RR mA (x + 533) σ := hI.2.2.1.rows (fun q q1 q2 => (uQ q q1 (by omega)).1)
          refine r_aload_n 2 dL_law_357 rfl rfl ?_
          refine r_aload_n 0 dL_law_358 rfl rfl ?_
          refine r_iload_n 3 dL_law_359 rfl rfl ?_
          refine r_iconst (v := nI 1) dL_law_360 (by decide) ?_
          refine r_iaddN dL_law_361 ?_
          refine r_sld dL_law_362 (by omega) hL2 ?_
          refine r_callVi [_] dL_law_363 ok_RL_52 ivX10_run (by assumption) ⟨_, _, rfl⟩ rfl rfl (Nat.le_of_ble_eq_true rfl) ⟨(Nat.le_of_ble_eq_true rfl), (Nat.le_of_ble_eq_true rfl), Nat.le_trans (m := 640613) (by omega) (Nat.le_refl _), Nat.le_trans (m := 7180410) (by omega) (Nat.le_refl _)⟩ (n_run uL uR hok h27 _) ?_
          intro vB mB uM
          have uW := uM.1
          subst uW
          refine r_icmp_eq 691 dL_law_366 (by decide) (fun h366 => ?_) (fun h366 => ?_)
          · exact K691 (N + 50) _ _ _ _ _ _ _ (hI.both uC uQ uM (ok_run hok _)) (by omega) (by omega) (by omega)
          · exact absurd rfl h366
        · refine r_tableIn 371 dL_law_32 (by decide) (by decide) rfl (by decide) ?_
          refine r_aload_n 1 dL_law_371 rfl rfl ?_
          refine r_aload_n 0 dL_law_372 rfl rfl ?_
          refine r_iload_n 3 dL_law_373 rfl rfl ?_
          refine r_iconst (v := nI 1) dL_law_374 (by decide) ?_
          refine r_iaddN dL_law_375 ?_
          refine r_sld dL_law_376 (by omega) hL2 ?_
          refine r_aload_n 0 dL_law_377 rfl rfl ?_
          refine r_iload_n 3 dL_law_378 rfl rfl ?_
          refine r_iconst (v := nI 2) dL_law_379 (by decide) ?_
          refine r_iaddN dL_law_380 ?_
          refine r_sld dL_law_381 (by omega) hL2 ?_
          refine r_callVm [_, _] dL_law_382 ok_RL_53 ivX9_heard (by assumption) ⟨_, _, rfl⟩ rfl rfl (Nat.le_of_ble_eq_true rfl) ⟨(Nat.le_of_ble_eq_true rfl), (Nat.le_of_ble_eq_true rfl), Nat.le_trans (m := 640613) (by omega) (Nat.le_refl _), Nat.le_trans (m := 7180410) (by omega) (Nat.le_refl _)⟩ (k_heard hI.1 hok h27 _ _) ?_
          intro vA mA rA ⟨uV, uC, uQ⟩
          subst uV
          have uL : LM sh rA (x + 533) := hI.2.1.rows (fun _ _ _ => rfl) (uQ _ (by omega) (by omega)).2
          have uR : RR mA (x + 533) σ := hI.2.2.1.rows (fun q q1 q2 => (uQ q q1 (by omega)).1)
          refine r_aload_n 2 dL_law_385 rfl rfl ?_
          refine r_aload_n 0 dL_law_386 rfl rfl ?_
          refine r_iload_n 3 dL_law_387 rfl rfl ?_
          refine r_iconst (v := nI 1) dL_law_388 (by decide) ?_
          refine r_iaddN dL_law_389 ?_
          refine r_sld dL_law_390 (by omega) hL2 ?_
          refine r_aload_n 0 dL_law_391 rfl rfl ?_
          refine r_iload_n 3 dL_law_392 rfl rfl ?_
          refine r_iconst (v := nI 2) dL_law_393 (by decide) ?_
          refine r_iaddN dL_law_394 ?_
          refine r_sld dL_law_395 (by omega) hL2 ?_
          refine r_callVi [_, _] dL_law_396 ok_RL_56 ivX10_heard (by assumption) ⟨_, _, rfl⟩ rfl rfl (Nat.le_of_ble_eq_true rfl) ⟨(Nat.le_of_ble_eq_true rfl), (Nat.le_of_ble_eq_true rfl), Nat.le_trans (m := 640613) (by omega) (Nat.le_refl _), Nat.le_trans (m := 7180410) (by omega) (Nat.le_refl _)⟩ (n_heard (N := N) uL uR  _ _) ?_
          intro vB mB uM
          have uW := uM.1
          subst uW
          refine r_icmp_eq 691 dL_law_399 (by decide) (fun h399 => ?_) (fun h399 => ?_)
          · exact K691 (N + 50) _ _ _ _ _ _ _ (hI.both uC uQ uM (hok.mono (by omega))) (by omega) (by omega) (by omega)
          · exact absurd rfl h399
        · refine r_tableIn 404 dL_law_32 (by decide) (by decide) rfl (by decide) ?_
          refine r_aload_n 1 dL_law_404 rfl rfl ?_
          refine r_aload_n 0 dL_law_405 rfl rfl ?_
          refine r_iload_n 3 dL_law_406 rfl rfl ?_
          refine r_iconst (v := nI 1) dL_law_407 (by decide) ?_
          refine r_iaddN dL_law_408 ?_
          refine r_sld dL_law_409 (by omega) hL2 ?_
          refine r_aload_n 0 dL_law_410 rfl rfl ?_
          refine r_iload_n 3 dL_law_411 rfl rfl ?_
          refine r_iconst (v := nI 2) dL_law_412 (by decide) ?_
          refine r_iaddN dL_law_413 ?_
          refine r_sld dL_law_414 (by omega) hL2 ?_
          refine r_callVm [_, _] dL_law_415 ok_RL_57 ivX9_written (by assumption) ⟨_, _, rfl⟩ rfl rfl (Nat.le_of_ble_eq_true rfl) ⟨(Nat.le_of_ble_eq_true rfl), (Nat.le_of_ble_eq_true rfl), Nat.le_trans (m := 640613) (by omega) (Nat.le_refl _), Nat.le_trans (m := 7180410) (by omega) (Nat.le_refl _)⟩ (k_written hI.1 hok h27 _ _) ?_
          intro vA mA rA ⟨uV, uC, uQ⟩
          subst uV
          have uL : LM sh rA (x + 533) := hI.2.1.rows (fun _ _ _ => rfl) (uQ _ (by omega) (by omega)).2
          have uR : RR mA (x + 533) σ := hI.2.2.1.rows (fun q q1 q2 => (uQ q q1 (by omega)).1)
          refine r_aload_n 2 dL_law_418 rfl rfl ?_
          refine r_aload_n 0 dL_law_419 rfl rfl ?_
          refine r_iload_n 3 dL_law_420 rfl rfl ?_
          refine r_iconst (v := nI 1) dL_law_421 (by decide) ?_
          refine r_iaddN dL_law_422 ?_
          refine r_sld dL_law_423 (by omega) hL2 ?_
          refine r_aload_n 0 dL_law_424 rfl rfl ?_
          refine r_iload_n 3 dL_law_425 rfl rfl ?_
          refine r_iconst (v := nI 2) dL_law_426 (by decide) ?_
          refine r_iaddN dL_law_427 ?_
          refine r_sld dL_law_428 (by omega) hL2 ?_
          refine r_callVi [_, _] dL_law_429 ok_RL_60 ivX10_written (by assumption) ⟨_, _, rfl⟩ rfl rfl (Nat.le_of_ble_eq_true rfl) ⟨(Nat.le_of_ble_eq_true rfl), (Nat.le_of_ble_eq_true rfl), Nat.le_trans (m := 640613) (by omega) (Nat.le_refl _), Nat.le_trans (m := 7180410) (by omega) (Nat.le_refl _)⟩ (n_written uL uR hok h27 _ _) ?_
          intro vB mB uM
          have uW := uM.1
          subst uW
          refine r_icmp_eq 691 dL_law_432 (by decide) (fun h432 => ?_) (fun h432 => ?_)
          · exact K691 (N + 50) _ _ _ _ _ _ _ (hI.both uC uQ uM (hok.mono (by omega))) (by omega) (by omega) (by omega)
          · exact absurd rfl h432
        · refine r_tableIn 437 dL_law_32 (by decide) (by decide) rfl (by decide) ?_
          refine r_aload_n 1 dL_law_437 rfl rfl ?_
          refine r_aload_n 0 dL_law_438 rfl rfl ?_
          refine r_iload_n 3 dL_law_439 rfl rfl ?_
          refine r_iconst (v := nI 1) dL_law_440 (by decide) ?_
          refine r_iaddN dL_law_441 ?_
          refine r_sld dL_law_442 (by omega) hL2 ?_
          refine r_aload_n 0 dL_law_443 rfl rfl ?_
          refine r_iload_n 3 dL_law_444 rfl rfl ?_
          refine r_iconst (v := nI 2) dL_law_445 (by decide) ?_
          refine r_iaddN dL_law_446 ?_
          refine r_sld dL_law_447 (by omega) hL2 ?_
          refine r_callVm [_, _] dL_law_448 ok_RL_61 ivX9_last (by assumption) ⟨_, _, rfl⟩ rfl rfl (Nat.le_of_ble_eq_true rfl) ⟨(Nat.le_of_ble_eq_true rfl), (Nat.le_of_ble_eq_true rfl), Nat.le_trans (m := 640613) (by omega) (Nat.le_refl _), Nat.le_trans (m := 7180410) (by omega) (Nat.le_refl _)⟩ (k_last hI.1 hok h27 _ _) ?_
          intro vA mA rA ⟨uV, uC, uQ⟩
          subst uV
          have uL : LM sh rA (x + 533) := hI.2.1.rows (fun _ _ _ => rfl) (uQ _ (by omega) (by omega)).2
          have uR : RR mA (x + 533) σ := hI.2.2.1.rows (fun q q1 q2 => (uQ q q1 (by omega)).1)
          refine r_aload_n 2 dL_law_451 rfl rfl ?_
          refine r_aload_n 0 dL_law_452 rfl rfl ?_
          refine r_iload_n 3 dL_law_453 rfl rfl ?_
          refine r_iconst (v := nI 1) dL_law_454 (by decide) ?_
          refine r_iaddN dL_law_455 ?_
          refine r_sld dL_law_456 (by omega) hL2 ?_
          refine r_aload_n 0 dL_law_457 rfl rfl ?_
          refine r_iload_n 3 dL_law_458 rfl rfl ?_
          refine r_iconst (v := nI 2) dL_law_459 (by decide) ?_
          refine r_iaddN dL_law_460 ?_
          refine r_sld dL_law_461 (by omega) hL2 ?_
          refine r_callVi [_, _] dL_law_462 ok_RL_64 ivX10_last (by assumption) ⟨_, _, rfl⟩ rfl rfl (Nat.le_of_ble_eq_true rfl) ⟨(Nat.le_of_ble_eq_true rfl), (Nat.le_of_ble_eq_true rfl), Nat.le_trans (m := 640613) (by omega) (Nat.le_refl _), Nat.le_trans (m := 7180410) (by omega) (Nat.le_refl _)⟩ (n_last uL uR hok h27 _ _) ?_
          intro vB mB uM
          have uW := uM.1
          subst uW
          refine r_icmp_eq 691 dL_law_465 (by decide) (fun h465 => ?_) (fun h465 => ?_)
          · exact K691 (N + 50) _ _ _ _ _ _ _ (hI.both uC uQ uM (hok.mono (by omega))) (by omega) (by omega) (by omega)
          · exact absurd rfl h465
        · refine r_tableIn 470 dL_law_32 (by decide) (by decide) rfl (by decide) ?_
          refine r_aload_n 1 dL_law_470 rfl rfl ?_
          refine r_aload_n 0 dL_law_471 rfl rfl ?_
          refine r_iload_n 3 dL_law_472 rfl rfl ?_
          refine r_iconst (v := nI 1) dL_law_473 (by decide) ?_
          refine r_iaddN dL_law_474 ?_
          refine r_sld dL_law_475 (by omega) hL2 ?_
          refine r_aload_n 0 dL_law_476 rfl rfl ?_
          refine r_iload_n 3 dL_law_477 rfl rfl ?_
          refine r_iconst (v := nI 2) dL_law_478 (by decide) ?_
          refine r_iaddN dL_law_479 ?_
          refine r_sld dL_law_480 (by omega) hL2 ?_
          refine r_callVm [_, _] dL_law_481 ok_RL_65 ivX9_trail (by assumption) ⟨_, _, rfl⟩ rfl rfl (Nat.le_of_ble_eq_true rfl) ⟨(Nat.le_of_ble_eq_true rfl), (Nat.le_of_ble_eq_true rfl), Nat.le_trans (m := 640613) (by omega) (Nat.le_refl _), Nat.le_trans (m := 7180410) (by omega) (Nat.le_refl _)⟩ (k_trail hI.1 hok h27 _ _) ?_
          intro vA mA rA ⟨uV, uC, uQ⟩
          subst uV
          have uL : LM sh rA (x + 533) := hI.2.1.rows (fun _ _ _ => rfl) (uQ _ (by omega) (by omega)).2
          have uR : RR mA (x + 533) σ := hI.2.2.1.rows (fun q q1 q2 => (uQ q q1 (by omega)).1)
          refine r_aload_n 2 dL_law_484 rfl rfl ?_
          refine r_aload_n 0 dL_law_485 rfl rfl ?_
          refine r_iload_n 3 dL_law_486 rfl rfl ?_
          refine r_iconst (v := nI 1) dL_law_487 (by decide) ?_
          refine r_iaddN dL_law_488 ?_
          refine r_sld dL_law_489 (by omega) hL2 ?_
          refine r_aload_n 0 dL_law_490 rfl rfl ?_
          refine r_iload_n 3 dL_law_491 rfl rfl ?_
          refine r_iconst (v := nI 2) dL_law_492 (by decide) ?_
          refine r_iaddN dL_law_493 ?_
          refine r_sld dL_law_494 (by omega) hL2 ?_
          refine r_callVi [_, _] dL_law_495 ok_RL_68 ivX10_trail (by assumption) ⟨_, _, rfl⟩ rfl rfl (Nat.le_of_ble_eq_true rfl) ⟨(Nat.le_of_ble_eq_true rfl), (Nat.le_of_ble_eq_true rfl), Nat.le_trans (m := 640613) (by omega) (Nat.le_refl _), Nat.le_trans (m := 7180410) (by omega) (Nat.le_refl _)⟩ (n_trail uL uR hok h27 _ _) ?_
          intro vB mB uM
          have uW := uM.1
          subst uW
          refine r_icmp_eq 691 dL_law_498 (by decide) (fun h498 => ?_) (fun h498 => ?_)
          · exact K691 (N + 50) _ _ _ _ _ _ _ (hI.both uC uQ uM (hok.mono (by omega))) (by omega) (by omega) (by omega)
          · exact absurd rfl h498
        · refine r_tableIn 503 dL_law_32 (by decide) (by decide) rfl (by decide) ?_
          refine r_aload_n 1 dL_law_503 rfl rfl ?_
          refine r_aload_n 0 dL_law_504 rfl rfl ?_
          refine r_iload_n 3 dL_law_505 rfl rfl ?_
          refine r_iconst (v := nI 1) dL_law_506 (by decide) ?_
          refine r_iaddN dL_law_507 ?_
          refine r_sld dL_law_508 (by omega) hL2 ?_
          refine r_aload_n 0 dL_law_509 rfl rfl ?_
          refine r_iload_n 3 dL_law_510 rfl rfl ?_
          refine r_iconst (v := nI 2) dL_law_511 (by decide) ?_
          refine r_iaddN dL_law_512 ?_
          refine r_sld dL_law_513 (by omega) hL2 ?_
          refine r_aload_n 0 dL_law_514 rfl rfl ?_
          refine r_iload_n 3 dL_law_515 rfl rfl ?_
          refine r_iconst (v := nI 3) dL_law_516 (by decide) ?_
          refine r_iaddN dL_law_517 ?_
          refine r_sld dL_law_518 (by omega) hL2 ?_
          refine r_callVm [_, _, _] dL_law_519 ok_RL_69 ivX9_reach (by assumption) ⟨_, _, rfl⟩ rfl rfl (Nat.le_of_ble_eq_true rfl) ⟨(Nat.le_of_ble_eq_true rfl), (Nat.le_of_ble_eq_true rfl), Nat.le_trans (m := 640613) (by omega) (Nat.le_refl _), Nat.le_trans (m := 7180410) (by omega) (Nat.le_refl _)⟩ (k_reach hI.1 hok  _ _ _) ?_
          intro vA mA rA ⟨uV, uC, uQ⟩
          subst uV
          have uL : LM sh rA (x + 533) := hI.2.1.rows (fun _ _ _ => rfl) (uQ _ (by omega) (by omega)).2
          have uR : RR mA (x + 533) σ := hI.2.2.1.rows (fun q q1 q2 => (uQ q q1 (by omega)).1)
          refine r_aload_n 2 dL_law_522 rfl rfl ?_
          refine r_aload_n 0 dL_law_523 rfl rfl ?_
          refine r_iload_n 3 dL_law_524 rfl rfl ?_
          refine r_iconst (v := nI 1) dL_law_525 (by decide) ?_
          refine r_iaddN dL_law_526 ?_
          refine r_sld dL_law_527 (by omega) hL2 ?_
          refine r_aload_n 0 dL_law_528 rfl rfl ?_
          refine r_iload_n 3 dL_law_529 rfl rfl ?_
          refine r_iconst (v := nI 2) dL_law_530 (by decide) ?_
          refine r_iaddN dL_law_531 ?_
          refine r_sld dL_law_532 (by omega) hL2 ?_
          refine r_aload_n 0 dL_law_533 rfl rfl ?_
          refine r_iload_n 3 dL_law_534 rfl rfl ?_
          refine r_iconst (v := nI 3) dL_law_535 (by decide) ?_
          refine r_iaddN dL_law_536 ?_
          refine r_sld dL_law_537 (by omega) hL2 ?_
          refine r_callVi [_, _, _] dL_law_538 ok_RL_72 ivX10_reach (by assumption) ⟨_, _, rfl⟩ rfl rfl (Nat.le_of_ble_eq_true rfl) ⟨(Nat.le_of_ble_eq_true rfl), (Nat.le_of_ble_eq_true rfl), Nat.le_trans (m := 640613) (by omega) (Nat.le_refl _), Nat.le_trans (m := 7180410) (by omega) (Nat.le_refl _)⟩ (n_reach uL uR hok  _ _ _) ?_
          intro vB mB uM
          have uW := uM.1
          subst uW
          refine r_icmp_eq 691 dL_law_541 (by decide) (fun h541 => ?_) (fun h541 => ?_)
          · exact K691 (N + 50) _ _ _ _ _ _ _ (hI.both uC uQ uM (hok.mono (by omega))) (by omega) (by omega) (by omega)
          · exact absurd rfl h541
        · refine r_tableIn 546 dL_law_32 (by decide) (by decide) rfl (by decide) ?_
          refine r_aload_n 1 dL_law_546 rfl rfl ?_
          refine r_aload_n 0 dL_law_547 rfl rfl ?_
          refine r_iload_n 3 dL_law_548 rfl rfl ?_
          refine r_iconst (v := nI 1) dL_law_549 (by decide) ?_
          refine r_iaddN dL_law_550 ?_
          refine r_sld dL_law_551 (by omega) hL2 ?_
          refine r_aload_n 0 dL_law_552 rfl rfl ?_
          refine r_iload_n 3 dL_law_553 rfl rfl ?_
          refine r_iconst (v := nI 2) dL_law_554 (by decide) ?_
          refine r_iaddN dL_law_555 ?_
          refine r_sld dL_law_556 (by omega) hL2 ?_
          refine r_callVm [_, _] dL_law_557 ok_RL_73 ivX9_fewest (by assumption) ⟨_, _, rfl⟩ rfl rfl (Nat.le_of_ble_eq_true rfl) ⟨(Nat.le_of_ble_eq_true rfl), (Nat.le_of_ble_eq_true rfl), Nat.le_trans (m := 640613) (by omega) (Nat.le_refl _), Nat.le_trans (m := 7180410) (by omega) (Nat.le_refl _)⟩ (k_fewest hI.1 hok  _ _) ?_
          intro vA mA rA ⟨uV, uC, uQ⟩
          subst uV
          have uL : LM sh rA (x + 533) := hI.2.1.rows (fun _ _ _ => rfl) (uQ _ (by omega) (by omega)).2
          have uR : RR mA (x + 533) σ := hI.2.2.1.rows (fun q q1 q2 => (uQ q q1 (by omega)).1)
          refine r_aload_n 2 dL_law_560 rfl rfl ?_
          refine r_aload_n 0 dL_law_561 rfl rfl ?_
          refine r_iload_n 3 dL_law_562 rfl rfl ?_
          refine r_iconst (v := nI 1) dL_law_563 (by decide) ?_
          refine r_iaddN dL_law_564 ?_
          refine r_sld dL_law_565 (by omega) hL2 ?_
          refine r_aload_n 0 dL_law_566 rfl rfl ?_
          refine r_iload_n 3 dL_law_567 rfl rfl ?_
          refine r_iconst (v := nI 2) dL_law_568 (by decide) ?_
          refine r_iaddN dL_law_569 ?_
          refine r_sld dL_law_570 (by omega) hL2 ?_
          refine r_callVi [_, _] dL_law_571 ok_RL_76 ivX10_fewest (by assumption) ⟨_, _, rfl⟩ rfl rfl (Nat.le_of_ble_eq_true rfl) ⟨(Nat.le_of_ble_eq_true rfl), (Nat.le_of_ble_eq_true rfl), Nat.le_trans (m := 640613) (by omega) (Nat.le_refl _), Nat.le_trans (m := 7180410) (by omega) (Nat.le_refl _)⟩ (n_fewest uL uR hok  _ _) ?_
          intro vB mB uM
          have uW := uM.1
          subst uW
          refine r_icmp_eq 691 dL_law_574 (by decide) (fun h574 => ?_) (fun h574 => ?_)
          · exact K691 (N + 50) _ _ _ _ _ _ _ (hI.both uC uQ uM (hok.mono (by omega))) (by omega) (by omega) (by omega)
          · exact absurd rfl h574
        · refine r_tableIn 579 dL_law_32 (by decide) (by decide) rfl (by decide) ?_
          refine r_aload_n 1 dL_law_579 rfl rfl ?_
          refine r_aload_n 0 dL_law_580 rfl rfl ?_
          refine r_iload_n 3 dL_law_581 rfl rfl ?_
          refine r_iconst (v := nI 1) dL_law_582 (by decide) ?_
          refine r_iaddN dL_law_583 ?_
          refine r_sld dL_law_584 (by omega) hL2 ?_
          refine r_aload_n 0 dL_law_585 rfl rfl ?_
          refine r_iload_n 3 dL_law_586 rfl rfl ?_
          refine r_iconst (v := nI 2) dL_law_587 (by decide) ?_
          refine r_iaddN dL_law_588 ?_
          refine r_sld dL_law_589 (by omega) hL2 ?_
          refine r_aload_n 0 dL_law_590 rfl rfl ?_
          refine r_iload_n 3 dL_law_591 rfl rfl ?_
          refine r_iconst (v := nI 3) dL_law_592 (by decide) ?_
          refine r_iaddN dL_law_593 ?_
          refine r_sld dL_law_594 (by omega) hL2 ?_
          refine r_callVm [_, _, _] dL_law_595 ok_RL_77 ivX9_bridges (by assumption) ⟨_, _, rfl⟩ rfl rfl (Nat.le_of_ble_eq_true rfl) ⟨(Nat.le_of_ble_eq_true rfl), (Nat.le_of_ble_eq_true rfl), Nat.le_trans (m := 640613) (by omega) (Nat.le_refl _), Nat.le_trans (m := 7180410) (by omega) (Nat.le_refl _)⟩ (k_bridges hI.1 hok  _ _ _) ?_
          intro vA mA rA ⟨uV, uC, uQ⟩
          subst uV
          have uL : LM sh rA (x + 533) := hI.2.1.rows (fun _ _ _ => rfl) (uQ _ (by omega) (by omega)).2
          have uR : RR mA (x + 533) σ := hI.2.2.1.rows (fun q q1 q2 => (uQ q q1 (by omega)).1)
          refine r_aload_n 2 dL_law_598 rfl rfl ?_
          refine r_aload_n 0 dL_law_599 rfl rfl ?_
          refine r_iload_n 3 dL_law_600 rfl rfl ?_
          refine r_iconst (v := nI 1) dL_law_601 (by decide) ?_
          refine r_iaddN dL_law_602 ?_
          refine r_sld dL_law_603 (by omega) hL2 ?_
          refine r_aload_n 0 dL_law_604 rfl rfl ?_
          refine r_iload_n 3 dL_law_605 rfl rfl ?_
          refine r_iconst (v := nI 2) dL_law_606 (by decide) ?_
          refine r_iaddN dL_law_607 ?_
          refine r_sld dL_law_608 (by omega) hL2 ?_
          refine r_aload_n 0 dL_law_609 rfl rfl ?_
          refine r_iload_n 3 dL_law_610 rfl rfl ?_
          refine r_iconst (v := nI 3) dL_law_611 (by decide) ?_
          refine r_iaddN dL_law_612 ?_
          refine r_sld dL_law_613 (by omega) hL2 ?_
          refine r_callVi [_, _, _] dL_law_614 ok_RL_80 ivX10_bridges (by assumption) ⟨_, _, rfl⟩ rfl rfl (Nat.le_of_ble_eq_true rfl) ⟨(Nat.le_of_ble_eq_true rfl), (Nat.le_of_ble_eq_true rfl), Nat.le_trans (m := 640613) (by omega) (Nat.le_refl _), Nat.le_trans (m := 7180410) (by omega) (Nat.le_refl _)⟩ (n_bridges uL uR hok  _ _ _) ?_
          intro vB mB uM
          have uW := uM.1
          subst uW
          refine r_icmp_eq 691 dL_law_617 (by decide) (fun h617 => ?_) (fun h617 => ?_)
          · exact K691 (N + 50) _ _ _ _ _ _ _ (hI.both uC uQ uM (hok.mono (by omega))) (by omega) (by omega) (by omega)
          · exact absurd rfl h617
        · refine r_tableIn 622 dL_law_32 (by decide) (by decide) rfl (by decide) ?_
          refine r_aload_n 1 dL_law_622 rfl rfl ?_
          refine r_aload_n 0 dL_law_623 rfl rfl ?_
          refine r_iload_n 3 dL_law_624 rfl rfl ?_
          refine r_iconst (v := nI 1) dL_law_625 (by decide) ?_
          refine r_iaddN dL_law_626 ?_
          refine r_sld dL_law_627 (by omega) hL2 ?_
          refine r_callV [_] dL_law_628 ok_RL_81 ivX9_image (by assumption) ⟨_, _, rfl⟩ rfl rfl (Nat.le_of_ble_eq_true rfl) ⟨(Nat.le_of_ble_eq_true rfl), (Nat.le_of_ble_eq_true rfl), Nat.le_trans (m := 640613) (by omega) (Nat.le_refl _), Nat.le_trans (m := 7180410) (by omega) (Nat.le_refl _)⟩ (k_image hI.1 hok hI.2.2.2.2 _) ?_
          intro vA z2 sh2 mA rA ⟨uV, uC, uz, uQ⟩
          subst uV
          have uL : LM sh2 rA (x + 533) := hI.2.1.rows (fun q q1 q2 => (uQ q q1 (by omega)).1) (uQ _ (by omega) (by omega)).2.2
          have uR : RR mA (x + 533) σ := hI.2.2.1.rows (fun q q1 q2 => (uQ q q1 (by omega)).2.1)
          have uh : sh2 (x + 533) = (10, 0) := uL.1
          refine r_aload_n 2 dL_law_631 rfl rfl ?_
          refine r_aload_n 0 dL_law_632 rfl rfl ?_
          refine r_iload_n 3 dL_law_633 rfl rfl ?_
          refine r_iconst (v := nI 1) dL_law_634 (by decide) ?_
          refine r_iaddN dL_law_635 ?_
          refine r_sld dL_law_636 (by omega) hL2 ?_
          refine r_callVi [_] dL_law_637 ok_RL_84 ivX10_image (by assumption) ⟨_, _, rfl⟩ rfl rfl (Nat.le_of_ble_eq_true rfl) ⟨(Nat.le_of_ble_eq_true rfl), (Nat.le_of_ble_eq_true rfl), Nat.le_trans (m := 640613) (by omega) (Nat.le_refl _), Nat.le_trans (m := 7180410) (by omega) (Nat.le_refl _)⟩ (n_image uL uR hok  _) ?_
          intro vB mB uM
          have uW := uM.1
          subst uW
          refine r_icmp_eq 691 dL_law_640 (by decide) (fun h640 => ?_) (fun h640 => ?_)
          · have uok : okA (sp_image σ (xs (4 * j + 1))).2 (N + 50) := (ok_image hok (xs (4 * j + 1))).mono (by omega)
            have uI : Inv z2 sh2 mB rA x (N + 50) _ := ⟨uC.rows uok uM.2.2, uL, uM.2.1, uok, Nat.le_trans hI.2.2.2.2 uz⟩
            exact K691 _ _ _ _ _ _ _ _ uI (by omega) (by omega) (by omega)
          · exact absurd rfl h640
        · refine r_tableIn 645 dL_law_32 (by decide) (by decide) rfl (by decide) ?_
          refine r_aload_n 1 dL_law_645 rfl rfl ?_
          refine r_aload_n 0 dL_law_646 rfl rfl ?_
          refine r_iload_n 3 dL_law_647 rfl rfl ?_
          refine r_iconst (v := nI 1) dL_law_648 (by decide) ?_
          refine r_iaddN dL_law_649 ?_
          refine r_sld dL_law_650 (by omega) hL2 ?_
          refine r_callVm [_] dL_law_651 ok_RL_85 ivX9_restore (by assumption) ⟨_, _, rfl⟩ rfl rfl (Nat.le_of_ble_eq_true rfl) ⟨(Nat.le_of_ble_eq_true rfl), (Nat.le_of_ble_eq_true rfl), Nat.le_trans (m := 640613) (by omega) (Nat.le_refl _), Nat.le_trans (m := 7180410) (by omega) (Nat.le_refl _)⟩ (k_restore hI.1 hok  _) ?_
          intro vA mA rA ⟨uV, uC, uQ⟩
          subst uV
          have uL : LM sh rA (x + 533) := hI.2.1.rows (fun _ _ _ => rfl) (uQ _ (by omega) (by omega)).2
          have uR : RR mA (x + 533) σ := hI.2.2.1.rows (fun q q1 q2 => (uQ q q1 (by omega)).1)
          refine r_aload_n 2 dL_law_654 rfl rfl ?_
          refine r_aload_n 0 dL_law_655 rfl rfl ?_
          refine r_iload_n 3 dL_law_656 rfl rfl ?_
          refine r_iconst (v := nI 1) dL_law_657 (by decide) ?_
          refine r_iaddN dL_law_658 ?_
          refine r_sld dL_law_659 (by omega) hL2 ?_
          refine r_callVi [_] dL_law_660 ok_RL_88 ivX10_restore (by assumption) ⟨_, _, rfl⟩ rfl rfl (Nat.le_of_ble_eq_true rfl) ⟨(Nat.le_of_ble_eq_true rfl), (Nat.le_of_ble_eq_true rfl), Nat.le_trans (m := 640613) (by omega) (Nat.le_refl _), Nat.le_trans (m := 7180410) (by omega) (Nat.le_refl _)⟩ (n_restore uL uR hok  _) ?_
          intro vB mB uM
          have uW := uM.1
          subst uW
          refine r_icmp_eq 691 dL_law_663 (by decide) (fun h663 => ?_) (fun h663 => ?_)
          · exact K691 (N + 50) _ _ _ _ _ _ _ (hI.both uC uQ uM ((ok_restore hok _).mono (by omega))) (by omega) (by omega) (by omega)
          · exact absurd rfl h663
        · refine r_tableIn 668 dL_law_32 (by decide) (by decide) rfl (by decide) ?_
          refine r_aload_n 1 dL_law_668 rfl rfl ?_
          refine r_aload_n 0 dL_law_669 rfl rfl ?_
          refine r_iload_n 3 dL_law_670 rfl rfl ?_
          refine r_iconst (v := nI 1) dL_law_671 (by decide) ?_
          refine r_iaddN dL_law_672 ?_
          refine r_sld dL_law_673 (by omega) hL2 ?_
          refine r_callVm [_] dL_law_674 ok_RL_89 ivX9_count (by assumption) ⟨_, _, rfl⟩ rfl rfl (Nat.le_of_ble_eq_true rfl) ⟨(Nat.le_of_ble_eq_true rfl), (Nat.le_of_ble_eq_true rfl), Nat.le_trans (m := 640613) (by omega) (Nat.le_refl _), Nat.le_trans (m := 7180410) (by omega) (Nat.le_refl _)⟩ (k_count hI.1 hok  _) ?_
          intro vA mA rA ⟨uV, uC, uQ⟩
          subst uV
          have uL : LM sh rA (x + 533) := hI.2.1.rows (fun _ _ _ => rfl) (uQ _ (by omega) (by omega)).2
          have uR : RR mA (x + 533) σ := hI.2.2.1.rows (fun q q1 q2 => (uQ q q1 (by omega)).1)
          refine r_aload_n 2 dL_law_677 rfl rfl ?_
          refine r_aload_n 0 dL_law_678 rfl rfl ?_
          refine r_iload_n 3 dL_law_679 rfl rfl ?_
          refine r_iconst (v := nI 1) dL_law_680 (by decide) ?_
          refine r_iaddN dL_law_681 ?_
          refine r_sld dL_law_682 (by omega) hL2 ?_
          refine r_callVi [_] dL_law_683 ok_RL_92 ivX10_count_ (by assumption) ⟨_, _, rfl⟩ rfl rfl (Nat.le_of_ble_eq_true rfl) ⟨(Nat.le_of_ble_eq_true rfl), (Nat.le_of_ble_eq_true rfl), Nat.le_trans (m := 640613) (by omega) (Nat.le_refl _), Nat.le_trans (m := 7180410) (by omega) (Nat.le_refl _)⟩ (n_count uL uR  _) ?_
          intro vB mB uM
          have uW := uM.1
          subst uW
          refine r_icmp_eq 691 dL_law_686 (by decide) (fun h686 => ?_) (fun h686 => ?_)
          · exact K691 (N + 50) _ _ _ _ _ _ _ (hI.both uC uQ uM (hok.mono (by omega))) (by omega) (by omega) (by omega)
          · exact absurd rfl h686
        · refine r_tableOut 691 dL_law_32 (Or.inr ?_) (by decide) ?_
          · rw [nI_toInt (by omega)]; omega
          · exact K691 N _ _ _ _ _ _ _ hI (by omega) (by omega) (by omega)
      refine r_iload_n 3 dL_law_18 rfl rfl ?_
      refine r_aload_n 0 dL_law_19 rfl rfl ?_
      refine r_slen dL_law_20 ?_
      refine r_iconst (v := nI 4) dL_law_21 (by decide) ?_
      refine r_isubN dL_law_22 (by omega) ?_
      refine r_icmpN_gt 697 dL_law_23 (by decide) (by omega) (by omega) (fun h23 => ?_) (fun h23 => ?_)
      · omega
      · refine r_aload_n 0 dL_law_26 rfl rfl ?_
        refine r_iload_n 3 dL_law_27 rfl rfl ?_
        refine r_sld dL_law_28 (by omega) hL2 ?_
        refine r_bipush (v := nI 31) dL_law_29 (by decide) ?_
        refine r_iand dL_law_31 ?_
        obtain ⟨c, hc, e⟩ := and31 (xs (4 * j))
        rw [e]
        exact S32 c hc
    · skip
      rcases Nat.lt_or_ge L 4 with h4 | h4
      · skip
        refine r_iload_n 3 dL_law_18 rfl rfl ?_
        refine r_aload_n 0 dL_law_19 rfl rfl ?_
        refine r_slen dL_law_20 ?_
        refine r_iconst (v := nI 4) dL_law_21 (by decide) ?_
        refine r_isub dL_law_22 ?_
        refine r_icmp_gt 697 dL_law_23 (by decide) (fun h23 => ?_) (fun h23 => ?_)
        · refine r_iconst (v := 1) dL_law_697 (by decide) ?_
          exact r_lret dL_law_698 (by omega) (by omega)
        · have e1 := pk_sub_toInt (a := L) (b := 4) (by omega) (by omega)
          have e2 := nI_toInt (n := 4 * j) (by omega)
          first | (rw [Int32.not_lt, Int32.le_iff_toInt_le] at h23; omega) | (rw [Int32.le_iff_toInt_le] at h23; omega)
      · skip
        refine r_iload_n 3 dL_law_18 rfl rfl ?_
        refine r_aload_n 0 dL_law_19 rfl rfl ?_
        refine r_slen dL_law_20 ?_
        refine r_iconst (v := nI 4) dL_law_21 (by decide) ?_
        refine r_isubN dL_law_22 (by omega) ?_
        refine r_icmpN_gt 697 dL_law_23 (by decide) (by omega) (by omega) (fun h23 => ?_) (fun h23 => ?_)
        · refine r_iconst (v := 1) dL_law_697 (by decide) ?_
          exact r_lret dL_law_698 (by omega) (by omega)
        · omega
end LAW
