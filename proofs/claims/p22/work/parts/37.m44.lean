/-! ===== the law's own roof: what comes in, a call of itself ===== -/
noncomputable def Tr_cm (d : Nat) : ATr := fun as h K => match as with
  | [.inr (.inl (some a)), .inl rain, .inl x9, .inl y9] => ab_so (ab_sim h a) fun P => ((0 ≤ rain ∧ rain ≤ 9) ∧ (0 ≤ x9 ∧ x9 ≤ 11) ∧ y9 = 7 - (d : Int) ∧ d ≤ 7) ∧ K (some (.inl (comesS P.2 rain x9 d))) h
  | _ => False
theorem mo_cm (d : Nat) : ab_mo (Tr_cm d) := by
  intro as h K K' hk ht
  unfold Tr_cm at ht ⊢
  split at ht
  · exact ab_so_mo (fun _ q => ⟨q.1, hk _ _ q.2⟩) ht
  · exact ht.elim
noncomputable def ca_cm : Nat → Nat → Option ACS
  | 0 => ab_lk [(49, (0, 4, 3, 0, 0, Tr_X4_covered))]
  | d + 1 => ab_lk [(49, (0, 4, 3, 0, 0, Tr_X4_covered)), (53, (0, 4, 4, 0, 0, Tr_cm d))]
theorem ca_cm_49z : ca_cm 0 49 = some (0, 4, 3, 0, 0, Tr_X4_covered) := rfl
theorem ca_cm_53z : ca_cm 0 53 = none := rfl
theorem ca_cm_49s (d : Nat) : ca_cm (d + 1) 49 = some (0, 4, 3, 0, 0, Tr_X4_covered) := rfl
theorem ca_cm_53s (d : Nat) : ca_cm (d + 1) 53 = some (0, 4, 4, 0, 0, Tr_cm d) := rfl
theorem cm_cm : ∀ d i q, ca_cm d i = some q → ab_moq i q
  | 0 => ab_lk_all (ab_all_c mo_X4_covered ab_all_n)
  | d + 1 => ab_lk_all (ab_all_c mo_X4_covered (ab_all_c (mo_cm d) ab_all_n))
set_option maxRecDepth 100000 in
set_option maxHeartbeats 4000000 in
theorem sem_cm0 (base : Nat) : ab_Sem tbX4 lw_ts base cX4_comes (ca_cm 0) 1 4 0 0 (fun as => ab_en as 4) (Tr_cm 0) := by
  intro as h K hT V hV
  unfold Tr_cm at hT
  split at hT
  · rename_i a rain x9 y9
    obtain ⟨⟨⟨sA, fS, rA, fR, dA, fD⟩, M⟩, hP, hT2⟩ := ab_so_el hT
    have hA := sim_el hP
    obtain ⟨mb, D, nd, D0, D1, D2, r0, r1, r2⟩ := id hA
    obtain ⟨mb1, mb2, mb3, mb4, mb5, mb6⟩ := id mb
    dsimp only at D D0 D1 D2 r0 r1 r2 mb1 mb2 mb3 mb4 mb5 mb6
    obtain ⟨⟨h1, h2, rfl, h3⟩, hK⟩ := hT2
    show V 0 [some (.inr (.inl (some a))), some (.inl rain), some (.inl x9), some (.inl (7 - ((0 : Nat) : Int)))] [] h 0 0
    have e0 : (7 : Int) - ((0 : Nat) : Int) = 7 := rfl
    rw [e0]
    simp only [comesS] at hK
    cases hc : covS M x9 7
    · simp only [hc, cond_false] at hK
      refine hV (fun _ => false) 80 _ _ _ _ _ _ ?_
      simp only [hP, D, hc, ca_cm_49z, ca_cm_53z, bI_in, bI_0, bI_1, bI_t, bI_f, bI_01, Tr_X4_covered, ae_aload_n, ae_bipush, ae_goto, ae_iadd, ae_iconst, ae_idiv, ae_ifCond, ae_if_icmp, ae_iload_n, ae_invokevirtual, ae_ireturn, dX4_comes_0, dX4_comes_1, dX4_comes_2, dX4_comes_3, dX4_comes_6, dX4_comes_9, dX4_comes_10, dX4_comes_11, dX4_comes_12, dX4_comes_14, dX4_comes_17, dX4_comes_18, dX4_comes_21, dX4_comes_22, dX4_comes_23, dX4_comes_24, dX4_comes_25, dX4_comes_26, dX4_comes_27, dX4_comes_28, dX4_comes_31, dX4_comes_32, dX4_comes_33, dX4_comes_34, ab_wp0, ab_wps, ab_stp, ab_g, ab_st, ab_k2, ab_cl, ab_pop, ab_sz, ab_2, ab_ret, ab_f4, ab_tg, ab_I, ab_II, ab_A, ab_Rf, ab_VR, ab_IR, ab_VIR, ab_1, ab_LL, ab_DD, ab_ob, ab_pr, ab_qr, ab_ln, ab_so, ab_vI, ab_vA, ab_vD, ab_vL, ab_v2, ab_c, ab_fit, ab_rv, ab_tsw, ab_lsw, ab_up_eq, Fin.isValue, ab_f0, ab_f1, ab_f2, ab_f3, List.getElem?_cons_zero, List.getElem?_cons_succ, List.set_cons_zero, List.set_cons_succ, List.length_cons, List.length_nil, List.size_toArray, List.head?_cons, List.tail_cons, Option.map_some, cond_true, cond_false, true_and, and_true, false_and, and_false, not_true_eq_false, not_false_eq_true, true_imp_iff, false_imp_iff, if_true, if_false, ite_true, ite_false, ↓reduceIte, Nat.reduceAdd, Nat.reduceEqDiff, Nat.reduceLeDiff, Nat.reduceLT, Nat.reduceBEq, Nat.reduceBNe, Int.reduceAdd, Int.reduceNeg, Int.reduceSub, Int.reduceLE, Int.reduceLT, Int.reduceToNat, Int.reduceEq, Int.reduceMul, Int.cast_ofNat_Int, Nat.zero_add, Nat.add_zero, Nat.le_refl, eq_self, ne_eq, reduceCtorEq, or_true, true_or, or_false, false_or, Bool.or_true, Bool.or_false, Bool.true_or, Bool.false_or, Nat.zero_le, Int.le_refl, Int.ofNat_zero, Int.ofNat_one, Bool.false_eq_true]
      try simp only [ab_in]
      (repeat' (first | intro _ | refine And.intro ?_ ?_)) <;> (first | exact hK | exact rfl | contradiction | omega | (exfalso; omega))
    · simp only [hc, cond_true] at hK
      refine hV (fun _ => false) 80 _ _ _ _ _ _ ?_
      simp only [hP, D, hc, ca_cm_49z, ca_cm_53z, bI_in, bI_0, bI_1, bI_t, bI_f, bI_01, Tr_X4_covered, ae_aload_n, ae_bipush, ae_goto, ae_iadd, ae_iconst, ae_idiv, ae_ifCond, ae_if_icmp, ae_iload_n, ae_invokevirtual, ae_ireturn, dX4_comes_0, dX4_comes_1, dX4_comes_2, dX4_comes_3, dX4_comes_6, dX4_comes_9, dX4_comes_10, dX4_comes_11, dX4_comes_12, dX4_comes_14, dX4_comes_17, dX4_comes_18, dX4_comes_21, dX4_comes_22, dX4_comes_23, dX4_comes_24, dX4_comes_25, dX4_comes_26, dX4_comes_27, dX4_comes_28, dX4_comes_31, dX4_comes_32, dX4_comes_33, dX4_comes_34, ab_wp0, ab_wps, ab_stp, ab_g, ab_st, ab_k2, ab_cl, ab_pop, ab_sz, ab_2, ab_ret, ab_f4, ab_tg, ab_I, ab_II, ab_A, ab_Rf, ab_VR, ab_IR, ab_VIR, ab_1, ab_LL, ab_DD, ab_ob, ab_pr, ab_qr, ab_ln, ab_so, ab_vI, ab_vA, ab_vD, ab_vL, ab_v2, ab_c, ab_fit, ab_rv, ab_tsw, ab_lsw, ab_up_eq, Fin.isValue, ab_f0, ab_f1, ab_f2, ab_f3, List.getElem?_cons_zero, List.getElem?_cons_succ, List.set_cons_zero, List.set_cons_succ, List.length_cons, List.length_nil, List.size_toArray, List.head?_cons, List.tail_cons, Option.map_some, cond_true, cond_false, true_and, and_true, false_and, and_false, not_true_eq_false, not_false_eq_true, true_imp_iff, false_imp_iff, if_true, if_false, ite_true, ite_false, ↓reduceIte, Nat.reduceAdd, Nat.reduceEqDiff, Nat.reduceLeDiff, Nat.reduceLT, Nat.reduceBEq, Nat.reduceBNe, Int.reduceAdd, Int.reduceNeg, Int.reduceSub, Int.reduceLE, Int.reduceLT, Int.reduceToNat, Int.reduceEq, Int.reduceMul, Int.cast_ofNat_Int, Nat.zero_add, Nat.add_zero, Nat.le_refl, eq_self, ne_eq, reduceCtorEq, or_true, true_or, or_false, false_or, Bool.or_true, Bool.or_false, Bool.true_or, Bool.false_or, Nat.zero_le, Int.le_refl, Int.ofNat_zero, Int.ofNat_one, Bool.false_eq_true]
      try simp only [ab_in]
      (repeat' (first | intro _ | refine And.intro ?_ ?_)) <;> (first | exact hK | exact rfl | contradiction | omega | (exfalso; omega))
  · exact hT.elim
set_option maxRecDepth 100000 in
set_option maxHeartbeats 4000000 in
theorem sem_cmS (base : Nat) (d : Nat) : ab_Sem tbX4 lw_ts base cX4_comes (ca_cm (d + 1)) 1 4 0 0 (fun as => ab_en as 4) (Tr_cm (d + 1)) := by
  intro as h K hT V hV
  unfold Tr_cm at hT
  split at hT
  · rename_i a rain x9 y9
    obtain ⟨⟨⟨sA, fS, rA, fR, dA, fD⟩, M⟩, hP, hT2⟩ := ab_so_el hT
    have hA := sim_el hP
    obtain ⟨mb, D, nd, D0, D1, D2, r0, r1, r2⟩ := id hA
    obtain ⟨mb1, mb2, mb3, mb4, mb5, mb6⟩ := id mb
    dsimp only at D D0 D1 D2 r0 r1 r2 mb1 mb2 mb3 mb4 mb5 mb6
    obtain ⟨⟨h1, h2, rfl, h3⟩, hK⟩ := hT2
    show V 0 [some (.inr (.inl (some a))), some (.inl rain), some (.inl x9), some (.inl (7 - ((d + 1 : Nat) : Int)))] [] h 0 0
    have r9 := comesS_r (M := M) (x := x9) h1 d
    simp only [comesS] at hK
    generalize hy : (7 : Int) - ((d + 1 : Nat) : Int) = y9 at *
    have hy2 : y9 + 1 = 7 - (d : Int) := by omega
    cases hc : covS M x9 y9
    · simp only [hc, cond_false] at hK
      refine hV (fun _ => false) 80 _ _ _ _ _ _ ?_
      simp only [hP, D, hc, ca_cm_49s, ca_cm_53s, Tr_cm, bI_in, bI_0, bI_1, bI_t, bI_f, bI_01, Tr_X4_covered, ae_aload_n, ae_bipush, ae_goto, ae_iadd, ae_iconst, ae_idiv, ae_ifCond, ae_if_icmp, ae_iload_n, ae_invokevirtual, ae_ireturn, dX4_comes_0, dX4_comes_1, dX4_comes_2, dX4_comes_3, dX4_comes_6, dX4_comes_9, dX4_comes_10, dX4_comes_11, dX4_comes_12, dX4_comes_14, dX4_comes_17, dX4_comes_18, dX4_comes_21, dX4_comes_22, dX4_comes_23, dX4_comes_24, dX4_comes_25, dX4_comes_26, dX4_comes_27, dX4_comes_28, dX4_comes_31, dX4_comes_32, dX4_comes_33, dX4_comes_34, ab_wp0, ab_wps, ab_stp, ab_g, ab_st, ab_k2, ab_cl, ab_pop, ab_sz, ab_2, ab_ret, ab_f4, ab_tg, ab_I, ab_II, ab_A, ab_Rf, ab_VR, ab_IR, ab_VIR, ab_1, ab_LL, ab_DD, ab_ob, ab_pr, ab_qr, ab_ln, ab_so, ab_vI, ab_vA, ab_vD, ab_vL, ab_v2, ab_c, ab_fit, ab_rv, ab_tsw, ab_lsw, ab_up_eq, Fin.isValue, ab_f0, ab_f1, ab_f2, ab_f3, List.getElem?_cons_zero, List.getElem?_cons_succ, List.set_cons_zero, List.set_cons_succ, List.length_cons, List.length_nil, List.size_toArray, List.head?_cons, List.tail_cons, Option.map_some, cond_true, cond_false, true_and, and_true, false_and, and_false, not_true_eq_false, not_false_eq_true, true_imp_iff, false_imp_iff, if_true, if_false, ite_true, ite_false, ↓reduceIte, Nat.reduceAdd, Nat.reduceEqDiff, Nat.reduceLeDiff, Nat.reduceLT, Nat.reduceBEq, Nat.reduceBNe, Int.reduceAdd, Int.reduceNeg, Int.reduceSub, Int.reduceLE, Int.reduceLT, Int.reduceToNat, Int.reduceEq, Int.reduceMul, Int.cast_ofNat_Int, Nat.zero_add, Nat.add_zero, Nat.le_refl, eq_self, ne_eq, reduceCtorEq, or_true, true_or, or_false, false_or, Bool.or_true, Bool.or_false, Bool.true_or, Bool.false_or, Nat.zero_le, Int.le_refl, Int.ofNat_zero, Int.ofNat_one, Bool.false_eq_true]
      try simp only [ab_in]
      (repeat' (first | intro _ | refine And.intro ?_ ?_)) <;> (first | exact hK | exact hy2 | exact rfl | contradiction | omega | (exfalso; omega))
    · simp only [hc, cond_true] at hK
      refine hV (fun _ => false) 80 _ _ _ _ _ _ ?_
      simp only [hP, D, hc, ca_cm_49s, ca_cm_53s, Tr_cm, bI_in, bI_0, bI_1, bI_t, bI_f, bI_01, Tr_X4_covered, ae_aload_n, ae_bipush, ae_goto, ae_iadd, ae_iconst, ae_idiv, ae_ifCond, ae_if_icmp, ae_iload_n, ae_invokevirtual, ae_ireturn, dX4_comes_0, dX4_comes_1, dX4_comes_2, dX4_comes_3, dX4_comes_6, dX4_comes_9, dX4_comes_10, dX4_comes_11, dX4_comes_12, dX4_comes_14, dX4_comes_17, dX4_comes_18, dX4_comes_21, dX4_comes_22, dX4_comes_23, dX4_comes_24, dX4_comes_25, dX4_comes_26, dX4_comes_27, dX4_comes_28, dX4_comes_31, dX4_comes_32, dX4_comes_33, dX4_comes_34, ab_wp0, ab_wps, ab_stp, ab_g, ab_st, ab_k2, ab_cl, ab_pop, ab_sz, ab_2, ab_ret, ab_f4, ab_tg, ab_I, ab_II, ab_A, ab_Rf, ab_VR, ab_IR, ab_VIR, ab_1, ab_LL, ab_DD, ab_ob, ab_pr, ab_qr, ab_ln, ab_so, ab_vI, ab_vA, ab_vD, ab_vL, ab_v2, ab_c, ab_fit, ab_rv, ab_tsw, ab_lsw, ab_up_eq, Fin.isValue, ab_f0, ab_f1, ab_f2, ab_f3, List.getElem?_cons_zero, List.getElem?_cons_succ, List.set_cons_zero, List.set_cons_succ, List.length_cons, List.length_nil, List.size_toArray, List.head?_cons, List.tail_cons, Option.map_some, cond_true, cond_false, true_and, and_true, false_and, and_false, not_true_eq_false, not_false_eq_true, true_imp_iff, false_imp_iff, if_true, if_false, ite_true, ite_false, ↓reduceIte, Nat.reduceAdd, Nat.reduceEqDiff, Nat.reduceLeDiff, Nat.reduceLT, Nat.reduceBEq, Nat.reduceBNe, Int.reduceAdd, Int.reduceNeg, Int.reduceSub, Int.reduceLE, Int.reduceLT, Int.reduceToNat, Int.reduceEq, Int.reduceMul, Int.cast_ofNat_Int, Nat.zero_add, Nat.add_zero, Nat.le_refl, eq_self, ne_eq, reduceCtorEq, or_true, true_or, or_false, false_or, Bool.or_true, Bool.or_false, Bool.true_or, Bool.false_or, Nat.zero_le, Int.le_refl, Int.ofNat_zero, Int.ofNat_one, Bool.false_eq_true]
      try simp only [ab_in]
      (repeat' (first | intro _ | refine And.intro ?_ ?_)) <;> (first | exact hK | exact hy2 | exact rfl | contradiction | omega | (exfalso; omega))
  · exact hT.elim
set_option maxRecDepth 100000 in
theorem con_cm (l : Launch) (D : va_G) (ty : Nat → ClassId) (base : Nat) : ∀ (d fr lo : Nat), 2 + d ≤ fr → 49 + 23 * d ≤ lo → ab_Con l D vwCl ty lw_ts base lw_wd yX4_comes cX4_comes 4 (some .int) fr lo 0 0 (Tr_cm d) := by
  intro d
  induction d with
  | zero =>
    intro fr lo hf hl
    exact ab_con_of (own := RX4) (rt := 1) (tb := tbX4) (ini := false) (ca := ca_cm 0) (by decide +kernel) rfl (fun h => by cases h) rfl lw_wd_ok wtbX4 lw_ar (cm_cm 0)
      (fun p e R s m args below meth c K hcx => by
        obtain ⟨hx, hb, hml, hown, hF, rfl⟩ := hcx
        exact ab_lk_all (ab_all_c (ab_tc_V hx hb hml hown lw_wd_ok hF ⟨rfl, rfl⟩ (con_X4_covered l D ty base) rfl (lw_wi (by decide +kernel) (by decide +kernel)) (lw_wi (by decide +kernel) (by decide +kernel)) (lw_wi (by decide +kernel) (by decide +kernel)) (lw_wi (by decide +kernel) (by decide +kernel)) (lw_wi (by decide +kernel) (by decide +kernel)) (by decide +kernel) ⟨show 2 ≤ fr by omega, show 49 ≤ lo by omega⟩) ab_all_n))
      (by intro as h K ht; unfold Tr_cm at ht; split at ht <;> first | exact ht.elim | exact Nat.le_of_ble_eq_true rfl) (sem_cm0 base)
  | succ d ih =>
    intro fr lo hf hl
    have ih1 := ih (fr - 1) (lo - 23) (by omega) (by omega)
    exact ab_con_of (own := RX4) (rt := 1) (tb := tbX4) (ini := false) (ca := ca_cm (d + 1)) (by decide +kernel) rfl (fun h => by cases h) rfl lw_wd_ok wtbX4 lw_ar (cm_cm (d + 1))
      (fun p e R s m args below meth c K hcx => by
        obtain ⟨hx, hb, hml, hown, hF, rfl⟩ := hcx
        exact ab_lk_all (ab_all_c (ab_tc_V hx hb hml hown lw_wd_ok hF ⟨rfl, rfl⟩ (con_X4_covered l D ty base) rfl (lw_wi (by decide +kernel) (by decide +kernel)) (lw_wi (by decide +kernel) (by decide +kernel)) (lw_wi (by decide +kernel) (by decide +kernel)) (lw_wi (by decide +kernel) (by decide +kernel)) (lw_wi (by decide +kernel) (by decide +kernel)) (by decide +kernel) ⟨show 2 ≤ fr by omega, show 49 ≤ lo by omega⟩) (ab_all_c (ab_tc_V hx hb hml hown lw_wd_ok hF ⟨rfl, rfl⟩ (ih1) rfl (lw_wi (by decide +kernel) (by decide +kernel)) (lw_wi (by decide +kernel) (by decide +kernel)) (lw_wi (by decide +kernel) (by decide +kernel)) (lw_wi (by decide +kernel) (by decide +kernel)) (lw_wi (by decide +kernel) (by decide +kernel)) (by decide +kernel) ⟨show fr - 1 + 1 ≤ fr by omega, show 8 + (4 + 11) + (lo - 23) ≤ lo by omega⟩) ab_all_n)))
      (by intro as h K ht; unfold Tr_cm at ht; split at ht <;> first | exact ht.elim | exact Nat.le_of_ble_eq_true rfl) (sem_cmS base d)
noncomputable def Tr_X4_comes : ATr := fun as h K => match as with
  | [.inr (.inl (some a)), .inl rain, .inl x9, .inl y9] => ab_so (ab_sim h a) fun P => ((0 ≤ rain ∧ rain ≤ 9) ∧ (0 ≤ x9 ∧ x9 ≤ 11) ∧ (0 ≤ y9 ∧ y9 ≤ 7)) ∧ K (some (.inl (comesS P.2 rain x9 (7 - y9).toNat))) h
  | _ => False
theorem mo_X4_comes : ab_mo Tr_X4_comes := by
  intro as h K K' hk ht
  unfold Tr_X4_comes at ht ⊢
  split at ht
  · exact ab_so_mo (fun _ q => ⟨q.1, hk _ _ q.2⟩) ht
  · exact ht.elim
theorem con_X4_comes (l : Launch) (D : va_G) (ty : Nat → ClassId) (base : Nat) : ab_Con l D vwCl ty lw_ts base lw_wd yX4_comes cX4_comes 4 (some .int) 9 210 0 0 Tr_X4_comes := by
  intro as h K ht
  unfold Tr_X4_comes at ht
  split at ht
  · rename_i a rain x9 y9
    refine con_cm l D ty base (7 - y9).toNat 9 210 ?_ ?_ _ h K ?_
    · obtain ⟨P, -, hs, -⟩ := ab_so_el ht; omega
    · obtain ⟨P, -, hs, -⟩ := ab_so_el ht; omega
    · exact ab_so_mo (fun P q => ⟨⟨q.1.1, q.1.2.1, by omega, by omega⟩, q.2⟩) ht
  · exact ht.elim
/- -/
