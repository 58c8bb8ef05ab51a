/-! ===== SlateRoofs: questions, legal arguments ===== -/
noncomputable def Tr_X3_leaks : ATr := fun as h K => match as with
  | [.inr (.inl (some a)), .inl rain] => ab_so (ab_sr h a) fun P => (0 ≤ rain ∧ rain ≤ 9) ∧ ∀ h', ab_sr h' a = some (P.1, (P.2.1, P.2.2.1, rdL P.2.1 P.2.2.2.1 96, P.2.2.2.2)) → ab_fr h h' ([P.1.2.2.1.1, P.1.2.2.1.2]) → K (some (.inl (inAllF (rdL P.2.1 P.2.2.2.1 96) rain))) h'
  | _ => False
theorem mo_X3_leaks : ab_mo Tr_X3_leaks := by
  intro as h K K' hk ht
  unfold Tr_X3_leaks at ht ⊢
  split at ht
  · exact ab_so_mo (fun P q => ⟨q.1, fun h' e1 e2 => hk _ _ (q.2 h' e1 e2)⟩) ht
  · exact ht.elim
def ca_X3_leaks : Nat → Option ACS := ab_lk [(113, (2, 0, 2, 0, 0, Tr_X3_isUpTo)), (181, (0, 0, 2, 0, 0, Tr_X0_readFrom)), (188, (0, 0, 2, 0, 0, Tr_X0_comesInAtAll))]
theorem ca_X3_leaks_113 : ca_X3_leaks 113 = some (2, 0, 2, 0, 0, Tr_X3_isUpTo) := rfl
theorem ca_X3_leaks_181 : ca_X3_leaks 181 = some (0, 0, 2, 0, 0, Tr_X0_readFrom) := rfl
theorem ca_X3_leaks_188 : ca_X3_leaks 188 = some (0, 0, 2, 0, 0, Tr_X0_comesInAtAll) := rfl
theorem cm_X3_leaks : ∀ i q, ca_X3_leaks i = some q → ab_moq i q := ab_lk_all (ab_all_c mo_X3_isUpTo (ab_all_c mo_X0_readFrom (ab_all_c mo_X0_comesInAtAll (ab_all_n))))
set_option maxRecDepth 100000 in
set_option maxHeartbeats 4000000 in
theorem sem_X3_leaks (base : Nat) : ab_Sem tbX3 lw_ts base cX3_leaks ca_X3_leaks 1 2 0 0 (fun as => ab_en as 2) Tr_X3_leaks := by
  intro as h K hT V hV
  unfold Tr_X3_leaks at hT
  split at hT
  · rename_i a rain
    obtain ⟨⟨⟨⟨r, ns⟩, ⟨t, ms⟩, ⟨c, n⟩, b, q0, q1, q2, q3⟩, S, O, f, T⟩, hP, hs, hK⟩ := ab_so_el hT
    have hA := sr_el hP
    obtain ⟨D, D0, D1, D2, D3, -⟩ := id hA
    dsimp only at D D0 D1 D2 D3
    try dsimp only at hK hs
    show V 0 [some (.inr (.inl (some a))), some (.inl rain)] [] h 0 0
    have hu : isUpToF rain 9 = true := decide_eq_true (by omega)
    have a1 : ∀ h2, srAt h2 a (((r, ns), (t, ms), (c, n), b, q0, q1, q2, q3), (S, O, rdL S f 96, T)) → ab_fr h h2 [c, n] → V 30 [some (.inr (.inl (some a))), some (.inl rain)] [] h2 0 0 := by
      intro h2 g fr
      have hk3 := hK h2 (sr_of g) fr
      obtain ⟨d, d0, d1, d2, -, -⟩ := g
      dsimp only at d d2
      obtain ⟨-, -, e8, -⟩ := cov_el d2
      dsimp only at e8
      refine hV (fun _ => false) 80 _ _ _ _ _ _ ?_
      simp only [d, d2, e8, bI_in, bI_0, bI_1, bI_t, bI_f, bI_01, Tr_X0_comesInAtAll, ae_aload_n, ae_bipush, ae_dup, ae_getfield, ae_ifCond, ae_iload_n, ae_invokespecial, ae_invokestatic, ae_invokevirtual, ae_ireturn, ae_ldc, ae_new, dX3_leaks_0, dX3_leaks_1, dX3_leaks_3, dX3_leaks_6, dX3_leaks_9, dX3_leaks_12, dX3_leaks_13, dX3_leaks_15, dX3_leaks_18, dX3_leaks_19, dX3_leaks_20, dX3_leaks_23, dX3_leaks_24, dX3_leaks_27, dX3_leaks_30, dX3_leaks_31, dX3_leaks_34, dX3_leaks_35, dX3_leaks_38, tbX3_g12, tbX3_g22, ca_X3_leaks_113, ca_X3_leaks_181, ca_X3_leaks_188, ab_wp0, ab_wps, ab_stp, ab_g, ab_st, ab_k2, ab_cl, ab_pop, ab_sz, ab_2, ab_ret, ab_f4, ab_tg, ab_I, ab_II, ab_A, ab_Rf, ab_VR, ab_IR, ab_VIR, ab_1, ab_LL, ab_DD, ab_ob, ab_pr, ab_qr, ab_ln, ab_so, ab_vI, ab_vA, ab_vD, ab_vL, ab_v2, ab_c, ab_fit, ab_rv, ab_tsw, ab_lsw, ab_up_eq, Fin.isValue, ab_f0, ab_f1, ab_f2, ab_f3, List.getElem?_cons_zero, List.getElem?_cons_succ, List.set_cons_zero, List.set_cons_succ, List.length_cons, List.length_nil, List.size_toArray, List.head?_cons, List.tail_cons, Option.map_some, cond_true, cond_false, true_and, and_true, false_and, and_false, not_true_eq_false, not_false_eq_true, true_imp_iff, false_imp_iff, if_true, if_false, ite_true, ite_false, ↓reduceIte, Nat.reduceAdd, Nat.reduceEqDiff, Nat.reduceLeDiff, Nat.reduceLT, Nat.reduceBEq, Nat.reduceBNe, Int.reduceAdd, Int.reduceNeg, Int.reduceSub, Int.reduceLE, Int.reduceLT, Int.reduceToNat, Int.reduceEq, Int.reduceMul, Int.cast_ofNat_Int, Nat.zero_add, Nat.add_zero, Nat.le_refl, eq_self, ne_eq, reduceCtorEq, or_true, true_or, or_false, false_or, Bool.or_true, Bool.or_false, Bool.true_or, Bool.false_or, Nat.zero_le, Int.le_refl, Int.ofNat_zero, Int.ofNat_one, Bool.false_eq_true]
      try simp only [ab_in]
      (repeat' (first | intro _ | refine And.intro ?_ ?_)) <;> (first | exact hk3 | contradiction | omega | (exfalso; omega))
    have a1' := fun h3 q5 q6 => a1 h3 (sr_cov hA q5 q6) q6
    obtain ⟨-, -, e8, -⟩ := cov_el D2
    dsimp only at e8
    refine hV (fun p => p == 30) 80 _ _ _ _ _ _ ?_
    simp only [D, D0, D2, e8, hu, bI_in, bI_0, bI_1, bI_t, bI_f, bI_01, Tr_X3_isUpTo, Tr_X0_readFrom, ae_aload_n, ae_bipush, ae_dup, ae_getfield, ae_ifCond, ae_iload_n, ae_invokespecial, ae_invokestatic, ae_invokevirtual, ae_ireturn, ae_ldc, ae_new, dX3_leaks_0, dX3_leaks_1, dX3_leaks_3, dX3_leaks_6, dX3_leaks_9, dX3_leaks_12, dX3_leaks_13, dX3_leaks_15, dX3_leaks_18, dX3_leaks_19, dX3_leaks_20, dX3_leaks_23, dX3_leaks_24, dX3_leaks_27, dX3_leaks_30, dX3_leaks_31, dX3_leaks_34, dX3_leaks_35, dX3_leaks_38, tbX3_g12, tbX3_g22, ca_X3_leaks_113, ca_X3_leaks_181, ca_X3_leaks_188, ab_wp0, ab_wps, ab_stp, ab_g, ab_st, ab_k2, ab_cl, ab_pop, ab_sz, ab_2, ab_ret, ab_f4, ab_tg, ab_I, ab_II, ab_A, ab_Rf, ab_VR, ab_IR, ab_VIR, ab_1, ab_LL, ab_DD, ab_ob, ab_pr, ab_qr, ab_ln, ab_so, ab_vI, ab_vA, ab_vD, ab_vL, ab_v2, ab_c, ab_fit, ab_rv, ab_tsw, ab_lsw, ab_up_eq, Fin.isValue, ab_f0, ab_f1, ab_f2, ab_f3, List.getElem?_cons_zero, List.getElem?_cons_succ, List.set_cons_zero, List.set_cons_succ, List.length_cons, List.length_nil, List.size_toArray, List.head?_cons, List.tail_cons, Option.map_some, cond_true, cond_false, true_and, and_true, false_and, and_false, not_true_eq_false, not_false_eq_true, true_imp_iff, false_imp_iff, if_true, if_false, ite_true, ite_false, ↓reduceIte, Nat.reduceAdd, Nat.reduceEqDiff, Nat.reduceLeDiff, Nat.reduceLT, Nat.reduceBEq, Nat.reduceBNe, Int.reduceAdd, Int.reduceNeg, Int.reduceSub, Int.reduceLE, Int.reduceLT, Int.reduceToNat, Int.reduceEq, Int.reduceMul, Int.cast_ofNat_Int, Nat.zero_add, Nat.add_zero, Nat.le_refl, eq_self, ne_eq, reduceCtorEq, or_true, true_or, or_false, false_or, Bool.or_true, Bool.or_false, Bool.true_or, Bool.false_or, Nat.zero_le, Int.le_refl, Int.ofNat_zero, Int.ofNat_one, Bool.false_eq_true]
    try simp only [ab_in]
    (repeat' (first | intro _ | refine And.intro ?_ ?_)) <;> (first | exact a1' _ (by assumption) (by assumption) | contradiction | omega | (exfalso; omega))
  · exact hT.elim
set_option maxRecDepth 100000 in
theorem con_X3_leaks (l : Launch) (D : va_G) (ty : Nat → ClassId) (base : Nat) : ab_Con l D vwCl ty lw_ts base lw_wd yX3_leaks cX3_leaks 2 (some .int) 4 90 0 0 Tr_X3_leaks :=
  ab_con_of (own := RX3) (rt := 1) (tb := tbX3) (ini := false) (ca := ca_X3_leaks) (by decide +kernel) rfl (fun h => by cases h) rfl lw_wd_ok wtbX3 lw_ar cm_X3_leaks
    (fun p e R s m args below meth c K hcx => by
      obtain ⟨hx, hb, hml, hown, hF, rfl⟩ := hcx
      exact ab_lk_all (ab_all_c (ab_tc_S hx hb hml hown lw_wd_ok hF ⟨rfl, rfl⟩ (con_X3_isUpTo l D ty base) (lw_wi (by decide +kernel) (by decide +kernel)) (lw_wi (by decide +kernel) (by decide +kernel)) (lw_wi (by decide +kernel) (by decide +kernel)) (lw_wi (by decide +kernel) (by decide +kernel)) (by decide +kernel) ⟨by decide, by decide⟩) (ab_all_c (ab_tc_V hx hb hml hown lw_wd_ok hF ⟨rfl, rfl⟩ (con_X0_readFrom l D ty base) rfl (lw_wi (by decide +kernel) (by decide +kernel)) (lw_wi (by decide +kernel) (by decide +kernel)) (lw_wi (by decide +kernel) (by decide +kernel)) (lw_wi (by decide +kernel) (by decide +kernel)) (lw_wi (by decide +kernel) (by decide +kernel)) (by decide +kernel) ⟨by decide, by decide⟩) (ab_all_c (ab_tc_V hx hb hml hown lw_wd_ok hF ⟨rfl, rfl⟩ (con_X0_comesInAtAll l D ty base) rfl (lw_wi (by decide +kernel) (by decide +kernel)) (lw_wi (by decide +kernel) (by decide +kernel)) (lw_wi (by decide +kernel) (by decide +kernel)) (lw_wi (by decide +kernel) (by decide +kernel)) (lw_wi (by decide +kernel) (by decide +kernel)) (by decide +kernel) ⟨by decide, by decide⟩) (ab_all_n)))))
    (by intro as h K ht; unfold Tr_X3_leaks at ht; split at ht <;> first | exact ht.elim | exact Nat.le_of_ble_eq_true rfl) (sem_X3_leaks base)
noncomputable def Tr_X3_comes : ATr := fun as h K => match as with
  | [.inr (.inl (some a)), .inl rain, .inl x, .inl y] => ab_so (ab_sr h a) fun P => ((0 ≤ rain ∧ rain ≤ 9) ∧ 0 ≤ x ∧ x < 12 ∧ 0 ≤ y ∧ y < 8) ∧ ∀ h', ab_sr h' a = some (P.1, (P.2.1, P.2.2.1, rdL P.2.1 P.2.2.2.1 96, P.2.2.2.2)) → ab_fr h h' ([P.1.2.2.1.1, P.1.2.2.1.2]) → K (some (.inl (colL (rdL P.2.1 P.2.2.2.1 96) rain x (8 - y).toNat 7 0))) h'
  | _ => False
theorem mo_X3_comes : ab_mo Tr_X3_comes := by
  intro as h K K' hk ht
  unfold Tr_X3_comes at ht ⊢
  split at ht
  · exact ab_so_mo (fun P q => ⟨q.1, fun h' e1 e2 => hk _ _ (q.2 h' e1 e2)⟩) ht
  · exact ht.elim
def ca_X3_comes : Nat → Option ACS := ab_lk [(113, (2, 0, 2, 0, 0, Tr_X3_isUpTo)), (94, (2, 0, 2, 0, 0, Tr_X3_isPlace)), (181, (0, 0, 2, 0, 0, Tr_X0_readFrom)), (184, (0, 0, 4, 0, 0, Tr_X0_comesInAt))]
theorem ca_X3_comes_113 : ca_X3_comes 113 = some (2, 0, 2, 0, 0, Tr_X3_isUpTo) := rfl
theorem ca_X3_comes_94 : ca_X3_comes 94 = some (2, 0, 2, 0, 0, Tr_X3_isPlace) := rfl
theorem ca_X3_comes_181 : ca_X3_comes 181 = some (0, 0, 2, 0, 0, Tr_X0_readFrom) := rfl
theorem ca_X3_comes_184 : ca_X3_comes 184 = some (0, 0, 4, 0, 0, Tr_X0_comesInAt) := rfl
theorem cm_X3_comes : ∀ i q, ca_X3_comes i = some q → ab_moq i q := ab_lk_all (ab_all_c mo_X3_isUpTo (ab_all_c mo_X3_isPlace (ab_all_c mo_X0_readFrom (ab_all_c mo_X0_comesInAt (ab_all_n)))))
set_option maxRecDepth 100000 in
set_option maxHeartbeats 4000000 in
theorem sem_X3_comes (base : Nat) : ab_Sem tbX3 lw_ts base cX3_comes ca_X3_comes 1 4 0 0 (fun as => ab_en as 4) Tr_X3_comes := by
  intro as h K hT V hV
  unfold Tr_X3_comes at hT
  split at hT
  · rename_i a rain x y
    obtain ⟨⟨⟨⟨r, ns⟩, ⟨t, ms⟩, ⟨c, n⟩, b, q0, q1, q2, q3⟩, S, O, f, T⟩, hP, hs, hK⟩ := ab_so_el hT
    have hA := sr_el hP
    obtain ⟨D, D0, D1, D2, D3, -⟩ := id hA
    dsimp only at D D0 D1 D2 D3
    try dsimp only at hK hs
    show V 0 [some (.inr (.inl (some a))), some (.inl rain), some (.inl x), some (.inl y)] [] h 0 0
    have hu : isUpToF rain 9 = true := decide_eq_true (by omega)
    have hp : isPlaceF x y = true := decide_eq_true (by omega)
    have a1 : ∀ h2, srAt h2 a (((r, ns), (t, ms), (c, n), b, q0, q1, q2, q3), (S, O, rdL S f 96, T)) → ab_fr h h2 [c, n] → V 48 [some (.inr (.inl (some a))), some (.inl rain), some (.inl x), some (.inl y)] [] h2 0 0 := by
      intro h2 g fr
      have hk3 := hK h2 (sr_of g) fr
      obtain ⟨d, d0, d1, d2, -, -⟩ := g
      dsimp only at d d2
      obtain ⟨-, -, e8, -⟩ := cov_el d2
      dsimp only at e8
      refine hV (fun _ => false) 80 _ _ _ _ _ _ ?_
      simp only [d, d2, e8, bI_in, bI_0, bI_1, bI_t, bI_f, bI_01, Tr_X0_comesInAt, ae_aload_n, ae_getfield, ae_iload_n, ae_invokevirtual, ae_ireturn, dX3_comes_48, dX3_comes_49, dX3_comes_52, dX3_comes_53, dX3_comes_54, dX3_comes_55, dX3_comes_58, tbX3_g22, ca_X3_comes_113, ca_X3_comes_94, ca_X3_comes_181, ca_X3_comes_184, ab_wp0, ab_wps, ab_stp, ab_g, ab_st, ab_k2, ab_cl, ab_pop, ab_sz, ab_2, ab_ret, ab_f4, ab_tg, ab_I, ab_II, ab_A, ab_Rf, ab_VR, ab_IR, ab_VIR, ab_1, ab_LL, ab_DD, ab_ob, ab_pr, ab_qr, ab_ln, ab_so, ab_vI, ab_vA, ab_vD, ab_vL, ab_v2, ab_c, ab_fit, ab_rv, ab_tsw, ab_lsw, ab_up_eq, Fin.isValue, ab_f0, ab_f1, ab_f2, ab_f3, List.getElem?_cons_zero, List.getElem?_cons_succ, List.set_cons_zero, List.set_cons_succ, List.length_cons, List.length_nil, List.size_toArray, List.head?_cons, List.tail_cons, Option.map_some, cond_true, cond_false, true_and, and_true, false_and, and_false, not_true_eq_false, not_false_eq_true, true_imp_iff, false_imp_iff, if_true, if_false, ite_true, ite_false, ↓reduceIte, Nat.reduceAdd, Nat.reduceEqDiff, Nat.reduceLeDiff, Nat.reduceLT, Nat.reduceBEq, Nat.reduceBNe, Int.reduceAdd, Int.reduceNeg, Int.reduceSub, Int.reduceLE, Int.reduceLT, Int.reduceToNat, Int.reduceEq, Int.reduceMul, Int.cast_ofNat_Int, Nat.zero_add, Nat.add_zero, Nat.le_refl, eq_self, ne_eq, reduceCtorEq, or_true, true_or, or_false, false_or, Bool.or_true, Bool.or_false, Bool.true_or, Bool.false_or, Nat.zero_le, Int.le_refl, Int.ofNat_zero, Int.ofNat_one, Bool.false_eq_true]
      try simp only [ab_in]
      (repeat' (first | intro _ | refine And.intro ?_ ?_)) <;> (first | exact hk3 | contradiction | omega | (exfalso; omega))
    have a1' := fun h3 q5 q6 => a1 h3 (sr_cov hA q5 q6) q6
    obtain ⟨-, -, e8, -⟩ := cov_el D2
    dsimp only at e8
    refine hV (fun p => p == 48) 80 _ _ _ _ _ _ ?_
    simp only [D, D0, D2, e8, hu, hp, bI_in, bI_0, bI_1, bI_t, bI_f, bI_01, Tr_X3_isUpTo, Tr_X3_isPlace, Tr_X0_readFrom, ae_aload_n, ae_bipush, ae_dup, ae_getfield, ae_ifCond, ae_iload_n, ae_invokespecial, ae_invokestatic, ae_invokevirtual, ae_ldc, ae_new, dX3_comes_0, dX3_comes_1, dX3_comes_3, dX3_comes_6, dX3_comes_9, dX3_comes_12, dX3_comes_13, dX3_comes_15, dX3_comes_18, dX3_comes_19, dX3_comes_20, dX3_comes_21, dX3_comes_24, dX3_comes_27, dX3_comes_30, dX3_comes_31, dX3_comes_33, dX3_comes_36, dX3_comes_37, dX3_comes_38, dX3_comes_41, dX3_comes_42, dX3_comes_45, tbX3_g12, tbX3_g22, ca_X3_comes_113, ca_X3_comes_94, ca_X3_comes_181, ca_X3_comes_184, ab_wp0, ab_wps, ab_stp, ab_g, ab_st, ab_k2, ab_cl, ab_pop, ab_sz, ab_2, ab_ret, ab_f4, ab_tg, ab_I, ab_II, ab_A, ab_Rf, ab_VR, ab_IR, ab_VIR, ab_1, ab_LL, ab_DD, ab_ob, ab_pr, ab_qr, ab_ln, ab_so, ab_vI, ab_vA, ab_vD, ab_vL, ab_v2, ab_c, ab_fit, ab_rv, ab_tsw, ab_lsw, ab_up_eq, Fin.isValue, ab_f0, ab_f1, ab_f2, ab_f3, List.getElem?_cons_zero, List.getElem?_cons_succ, List.set_cons_zero, List.set_cons_succ, List.length_cons, List.length_nil, List.size_toArray, List.head?_cons, List.tail_cons, Option.map_some, cond_true, cond_false, true_and, and_true, false_and, and_false, not_true_eq_false, not_false_eq_true, true_imp_iff, false_imp_iff, if_true, if_false, ite_true, ite_false, ↓reduceIte, Nat.reduceAdd, Nat.reduceEqDiff, Nat.reduceLeDiff, Nat.reduceLT, Nat.reduceBEq, Nat.reduceBNe, Int.reduceAdd, Int.reduceNeg, Int.reduceSub, Int.reduceLE, Int.reduceLT, Int.reduceToNat, Int.reduceEq, Int.reduceMul, Int.cast_ofNat_Int, Nat.zero_add, Nat.add_zero, Nat.le_refl, eq_self, ne_eq, reduceCtorEq, or_true, true_or, or_false, false_or, Bool.or_true, Bool.or_false, Bool.true_or, Bool.false_or, Nat.zero_le, Int.le_refl, Int.ofNat_zero, Int.ofNat_one, Bool.false_eq_true]
    try simp only [ab_in]
    (repeat' (first | intro _ | refine And.intro ?_ ?_)) <;> (first | exact a1' _ (by assumption) (by assumption) | contradiction | omega | (exfalso; omega))
  · exact hT.elim
set_option maxRecDepth 100000 in
theorem con_X3_comes (l : Launch) (D : va_G) (ty : Nat → ClassId) (base : Nat) : ab_Con l D vwCl ty lw_ts base lw_wd yX3_comes cX3_comes 4 (some .int) 4 90 0 0 Tr_X3_comes :=
  ab_con_of (own := RX3) (rt := 1) (tb := tbX3) (ini := false) (ca := ca_X3_comes) (by decide +kernel) rfl (fun h => by cases h) rfl lw_wd_ok wtbX3 lw_ar cm_X3_comes
    (fun p e R s m args below meth c K hcx => by
      obtain ⟨hx, hb, hml, hown, hF, rfl⟩ := hcx
      exact ab_lk_all (ab_all_c (ab_tc_S hx hb hml hown lw_wd_ok hF ⟨rfl, rfl⟩ (con_X3_isUpTo l D ty base) (lw_wi (by decide +kernel) (by decide +kernel)) (lw_wi (by decide +kernel) (by decide +kernel)) (lw_wi (by decide +kernel) (by decide +kernel)) (lw_wi (by decide +kernel) (by decide +kernel)) (by decide +kernel) ⟨by decide, by decide⟩) (ab_all_c (ab_tc_S hx hb hml hown lw_wd_ok hF ⟨rfl, rfl⟩ (con_X3_isPlace l D ty base) (lw_wi (by decide +kernel) (by decide +kernel)) (lw_wi (by decide +kernel) (by decide +kernel)) (lw_wi (by decide +kernel) (by decide +kernel)) (lw_wi (by decide +kernel) (by decide +kernel)) (by decide +kernel) ⟨by decide, by decide⟩) (ab_all_c (ab_tc_V hx hb hml hown lw_wd_ok hF ⟨rfl, rfl⟩ (con_X0_readFrom l D ty base) rfl (lw_wi (by decide +kernel) (by decide +kernel)) (lw_wi (by decide +kernel) (by decide +kernel)) (lw_wi (by decide +kernel) (by decide +kernel)) (lw_wi (by decide +kernel) (by decide +kernel)) (lw_wi (by decide +kernel) (by decide +kernel)) (by decide +kernel) ⟨by decide, by decide⟩) (ab_all_c (ab_tc_V hx hb hml hown lw_wd_ok hF ⟨rfl, rfl⟩ (con_X0_comesInAt l D ty base) rfl (lw_wi (by decide +kernel) (by decide +kernel)) (lw_wi (by decide +kernel) (by decide +kernel)) (lw_wi (by decide +kernel) (by decide +kernel)) (lw_wi (by decide +kernel) (by decide +kernel)) (lw_wi (by decide +kernel) (by decide +kernel)) (by decide +kernel) ⟨by decide, by decide⟩) (ab_all_n))))))
    (by intro as h K ht; unfold Tr_X3_comes at ht; split at ht <;> first | exact ht.elim | exact Nat.le_of_ble_eq_true rfl) (sem_X3_comes base)
noncomputable def Tr_X3_needs : ATr := fun as h K => match as with
  | [.inr (.inl (some a)), .inl row, .inl from9, .inl wide] => ab_so (ab_sr h a) fun P => (fitsF row from9 wide = true) ∧ ∀ h', ab_sr h' a = some (P.1, ((wayF P.2.1 row from9 wide).2, P.2.2)) → ab_fr h h' (P.1.1.1 :: P.1.1.2) → K (some (.inl ((wayF P.2.1 row from9 wide).1))) h'
  | _ => False
theorem mo_X3_needs : ab_mo Tr_X3_needs := by
  intro as h K K' hk ht
  unfold Tr_X3_needs at ht ⊢
  split at ht
  · exact ab_so_mo (fun P q => ⟨q.1, fun h' e1 e2 => hk _ _ (q.2 h' e1 e2)⟩) ht
  · exact ht.elim
def ca_X3_needs : Nat → Option ACS := ab_lk [(33, (2, 0, 3, 0, 0, Tr_X3_fits)), (193, (0, 1, 4, 0, 0, Tr_X1_inTheWay))]
theorem ca_X3_needs_33 : ca_X3_needs 33 = some (2, 0, 3, 0, 0, Tr_X3_fits) := rfl
theorem ca_X3_needs_193 : ca_X3_needs 193 = some (0, 1, 4, 0, 0, Tr_X1_inTheWay) := rfl
theorem cm_X3_needs : ∀ i q, ca_X3_needs i = some q → ab_moq i q := ab_lk_all (ab_all_c mo_X3_fits (ab_all_c mo_X1_inTheWay (ab_all_n)))
set_option maxRecDepth 100000 in
set_option maxHeartbeats 4000000 in
theorem sem_X3_needs (base : Nat) : ab_Sem tbX3 lw_ts base cX3_needs ca_X3_needs 1 4 0 0 (fun as => ab_en as 4) Tr_X3_needs := by
  intro as h K hT V hV
  unfold Tr_X3_needs at hT
  split at hT
  · rename_i a row from9 wide
    obtain ⟨⟨⟨⟨r, ns⟩, ⟨t, ms⟩, ⟨c, n⟩, b, q0, q1, q2, q3⟩, S, O, f, T⟩, hP, hs, hK⟩ := ab_so_el hT
    have hA := sr_el hP
    obtain ⟨D, D0, D1, D2, D3, -⟩ := id hA
    dsimp only at D D0 D1 D2 D3
    try dsimp only at hK hs
    show V 0 [some (.inr (.inl (some a))), some (.inl row), some (.inl from9), some (.inl wide)] [] h 0 0
    have hf : (0 ≤ from9 ∧ from9 < 12 ∧ 0 ≤ row ∧ row < 8) ∧ 1 ≤ wide ∧ wide ≤ 4 ∧ wide ≤ 12 - from9 := of_decide_eq_true hs
    have a1' := fun h3 q5 q6 => hK h3 (sr_of (sr_roof hA q5 q6)) q6
    obtain ⟨-, m0, m1, m2, m3, m4, m5, m6, m7, m8, -, -, e9, -⟩ := roof_el D0
    refine hV (fun _ => false) 80 _ _ _ _ _ _ ?_
    simp only [D, D0, e9, hs, bI_in, bI_0, bI_1, bI_t, bI_f, bI_01, Tr_X3_fits, Tr_X1_inTheWay, ae_aload_n, ae_dup, ae_getfield, ae_ifCond, ae_iload_n, ae_invokespecial, ae_invokestatic, ae_invokevirtual, ae_ireturn, ae_ldc, ae_new, dX3_needs_0, dX3_needs_1, dX3_needs_2, dX3_needs_3, dX3_needs_6, dX3_needs_9, dX3_needs_12, dX3_needs_13, dX3_needs_15, dX3_needs_18, dX3_needs_19, dX3_needs_20, dX3_needs_23, dX3_needs_24, dX3_needs_25, dX3_needs_26, dX3_needs_29, tbX3_g12, ca_X3_needs_33, ca_X3_needs_193, ab_wp0, ab_wps, ab_stp, ab_g, ab_st, ab_k2, ab_cl, ab_pop, ab_sz, ab_2, ab_ret, ab_f4, ab_tg, ab_I, ab_II, ab_A, ab_Rf, ab_VR, ab_IR, ab_VIR, ab_1, ab_LL, ab_DD, ab_ob, ab_pr, ab_qr, ab_ln, ab_so, ab_vI, ab_vA, ab_vD, ab_vL, ab_v2, ab_c, ab_fit, ab_rv, ab_tsw, ab_lsw, ab_up_eq, Fin.isValue, ab_f0, ab_f1, ab_f2, ab_f3, List.getElem?_cons_zero, List.getElem?_cons_succ, List.set_cons_zero, List.set_cons_succ, List.length_cons, List.length_nil, List.size_toArray, List.head?_cons, List.tail_cons, Option.map_some, cond_true, cond_false, true_and, and_true, false_and, and_false, not_true_eq_false, not_false_eq_true, true_imp_iff, false_imp_iff, if_true, if_false, ite_true, ite_false, ↓reduceIte, Nat.reduceAdd, Nat.reduceEqDiff, Nat.reduceLeDiff, Nat.reduceLT, Nat.reduceBEq, Nat.reduceBNe, Int.reduceAdd, Int.reduceNeg, Int.reduceSub, Int.reduceLE, Int.reduceLT, Int.reduceToNat, Int.reduceEq, Int.reduceMul, Int.cast_ofNat_Int, Nat.zero_add, Nat.add_zero, Nat.le_refl, eq_self, ne_eq, reduceCtorEq, or_true, true_or, or_false, false_or, Bool.or_true, Bool.or_false, Bool.true_or, Bool.false_or, Nat.zero_le, Int.le_refl, Int.ofNat_zero, Int.ofNat_one, Bool.false_eq_true]
    try simp only [ab_in]
    (repeat' (first | intro _ | refine And.intro ?_ ?_)) <;> (first | exact a1' _ (by assumption) (by assumption) | contradiction | omega | (exfalso; omega))
  · exact hT.elim
set_option maxRecDepth 100000 in
theorem con_X3_needs (l : Launch) (D : va_G) (ty : Nat → ClassId) (base : Nat) : ab_Con l D vwCl ty lw_ts base lw_wd yX3_needs cX3_needs 4 (some .int) 3 68 0 0 Tr_X3_needs :=
  ab_con_of (own := RX3) (rt := 1) (tb := tbX3) (ini := false) (ca := ca_X3_needs) (by decide +kernel) rfl (fun h => by cases h) rfl lw_wd_ok wtbX3 lw_ar cm_X3_needs
    (fun p e R s m args below meth c K hcx => by
      obtain ⟨hx, hb, hml, hown, hF, rfl⟩ := hcx
      exact ab_lk_all (ab_all_c (ab_tc_S hx hb hml hown lw_wd_ok hF ⟨rfl, rfl⟩ (con_X3_fits l D ty base) (lw_wi (by decide +kernel) (by decide +kernel)) (lw_wi (by decide +kernel) (by decide +kernel)) (lw_wi (by decide +kernel) (by decide +kernel)) (lw_wi (by decide +kernel) (by decide +kernel)) (by decide +kernel) ⟨by decide, by decide⟩) (ab_all_c (ab_tc_V hx hb hml hown lw_wd_ok hF ⟨rfl, rfl⟩ (con_X1_inTheWay l D ty base) rfl (lw_wi (by decide +kernel) (by decide +kernel)) (lw_wi (by decide +kernel) (by decide +kernel)) (lw_wi (by decide +kernel) (by decide +kernel)) (lw_wi (by decide +kernel) (by decide +kernel)) (lw_wi (by decide +kernel) (by decide +kernel)) (by decide +kernel) ⟨by decide, by decide⟩) (ab_all_n))))
    (by intro as h K ht; unfold Tr_X3_needs at ht; split at ht <;> first | exact ht.elim | exact Nat.le_of_ble_eq_true rfl) (sem_X3_needs base)
theorem sr_rc {h h' : AH} {a : Nat} {A : SA} {v : SV} {S : RS} {f : Int → Int} (h1 : srAt h a (A, v)) (h2 : ab_roof h' A.1.1 = some (A.1.2, S)) (h2' : ab_cov h' A.2.2.1.1 = some (A.2.2.1.2, f)) (h3 : ab_fr h h' ((A.1.1 :: A.1.2) ++ [A.2.2.1.1, A.2.2.1.2])) : srAt h' a (A, (S, v.2.1, f, v.2.2.2)) := by
  obtain ⟨⟨r, ns⟩, ⟨t, ms⟩, ⟨c, n⟩, b, q⟩ := A
  obtain ⟨S0, O, f0, T⟩ := v
  obtain ⟨d, d0, d1, d2, d3, d4⟩ := h1
  dsimp only at d d0 d1 d2 d3 d4 h2 h2' h3 ⊢
  have k1 := cov_roof d2 d1
  dsimp only at k1
  have k3 := tab_roof d3 d0
  have k4 := tab_cov d3 d2
  have hn : ∀ x, ¬ x = c ∧ ¬ x = n → x ∉ [c, n] := fun x hx hm => by
    simp only [List.mem_cons, List.not_mem_nil, or_false] at hm
    exact hm.elim hx.1 hx.2
  have ap : ∀ x, x ∉ r :: ns → x ∉ [c, n] → h' x = h x := fun x x1 x2 => h3 x (fun e => (List.mem_append.mp e).elim x1 x2)
  exact ⟨(ap a (obj_roof d d0) (obj_cov d d2)).trans d, h2, roof_fr d1 (fun x hx => ap x (fun hr => d4 x hr (List.mem_cons.mpr hx)) (hn x (k1 x hx))), h2', tab_fr d3 (fun x hx => ap x (fun hr => k3 x hr hx) (fun hr => k4 x hr hx)), d4⟩
noncomputable def Tr_X3_pass : ATr := fun as h K => match as with
  | [.inr (.inl (some a)), .inl days] => ab_so (ab_sr h a) fun P => ((1 ≤ days ∧ days ≤ 60) ∧ P.2.1.day + days ≤ 2000000000) ∧ ∀ h', ab_sr h' a = some (P.1, ((goL P.2.2.2.2 days.toNat (P.2.2.2.1, P.2.1)).2, P.2.2.1, (goL P.2.2.2.2 days.toNat (P.2.2.2.1, P.2.1)).1, P.2.2.2.2)) → ab_fr h h' ((P.1.1.1 :: P.1.1.2) ++ [P.1.2.2.1.1, P.1.2.2.1.2]) → K (some (.inl ((goL P.2.2.2.2 days.toNat (P.2.2.2.1, P.2.1)).2.blown - P.2.1.blown))) h'
  | _ => False
theorem mo_X3_pass : ab_mo Tr_X3_pass := by
  intro as h K K' hk ht
  unfold Tr_X3_pass at ht ⊢
  split at ht
  · exact ab_so_mo (fun P q => ⟨q.1, fun h' e1 e2 => hk _ _ (q.2 h' e1 e2)⟩) ht
  · exact ht.elim
def ca_X3_pass : Nat → Option ACS := ab_lk [(199, (2, 0, 1, 0, 0, Tr_X3_isDays)), (204, (0, 3, 3, 0, 0, Tr_X3_letGoBy))]
theorem ca_X3_pass_199 : ca_X3_pass 199 = some (2, 0, 1, 0, 0, Tr_X3_isDays) := rfl
theorem ca_X3_pass_204 : ca_X3_pass 204 = some (0, 3, 3, 0, 0, Tr_X3_letGoBy) := rfl
theorem cm_X3_pass : ∀ i q, ca_X3_pass i = some q → ab_moq i q := ab_lk_all (ab_all_c mo_X3_isDays (ab_all_c mo_X3_letGoBy (ab_all_n)))
set_option maxRecDepth 100000 in
set_option maxHeartbeats 4000000 in
theorem sem_X3_pass (base : Nat) : ab_Sem tbX3 lw_ts base cX3_pass ca_X3_pass 1 3 0 0 (fun as => ab_en as 3) Tr_X3_pass := by
  intro as h K hT V hV
  unfold Tr_X3_pass at hT
  split at hT
  · rename_i a days
    obtain ⟨⟨⟨⟨r, ns⟩, ⟨t, ms⟩, ⟨c, n⟩, b, q0, q1, q2, q3⟩, S, O, f, T⟩, hP, hs, hK⟩ := ab_so_el hT
    have hA := sr_el hP
    obtain ⟨D, D0, D1, D2, D3, -⟩ := id hA
    dsimp only at D D0 D1 D2 D3
    try dsimp only at hK hs
    show V 0 [some (.inr (.inl (some a))), some (.inl days), none] [] h 0 0
    have a1 : ∀ h2, srAt h2 a (((r, ns), (t, ms), (c, n), b, q0, q1, q2, q3), ((goL T days.toNat (f, S)).2, O, (goL T days.toNat (f, S)).1, T)) → ab_fr h h2 ((r :: ns) ++ [c, n]) → V 34 [some (.inr (.inl (some a))), some (.inl days), some (.inl S.blown)] [] h2 0 0 := by
      intro h2 g fr
      have hk3 := hK h2 (sr_of g) fr
      obtain ⟨d, d0, d1, d2, -, -⟩ := g
      dsimp only at d d0
      obtain ⟨-, m0, m1, m2, m3, m4, m5, m6, m7, m8, -, -, e9, -⟩ := roof_el d0
      refine hV (fun _ => false) 80 _ _ _ _ _ _ ?_
      simp only [d, e9, bI_in, bI_0, bI_1, bI_t, bI_f, bI_01, ae_aload_n, ae_getfield, ae_iload_n, ae_ireturn, ae_isub, dX3_pass_34, dX3_pass_35, dX3_pass_38, dX3_pass_41, dX3_pass_42, dX3_pass_43, tbX3_g12, tbX3_g149, ca_X3_pass_199, ca_X3_pass_204, ab_wp0, ab_wps, ab_stp, ab_g, ab_st, ab_k2, ab_cl, ab_pop, ab_sz, ab_2, ab_ret, ab_f4, ab_tg, ab_I, ab_II, ab_A, ab_Rf, ab_VR, ab_IR, ab_VIR, ab_1, ab_LL, ab_DD, ab_ob, ab_pr, ab_qr, ab_ln, ab_so, ab_vI, ab_vA, ab_vD, ab_vL, ab_v2, ab_c, ab_fit, ab_rv, ab_tsw, ab_lsw, ab_up_eq, Fin.isValue, ab_f0, ab_f1, ab_f2, ab_f3, List.getElem?_cons_zero, List.getElem?_cons_succ, List.set_cons_zero, List.set_cons_succ, List.length_cons, List.length_nil, List.size_toArray, List.head?_cons, List.tail_cons, Option.map_some, cond_true, cond_false, true_and, and_true, false_and, and_false, not_true_eq_false, not_false_eq_true, true_imp_iff, false_imp_iff, if_true, if_false, ite_true, ite_false, ↓reduceIte, Nat.reduceAdd, Nat.reduceEqDiff, Nat.reduceLeDiff, Nat.reduceLT, Nat.reduceBEq, Nat.reduceBNe, Int.reduceAdd, Int.reduceNeg, Int.reduceSub, Int.reduceLE, Int.reduceLT, Int.reduceToNat, Int.reduceEq, Int.reduceMul, Int.cast_ofNat_Int, Nat.zero_add, Nat.add_zero, Nat.le_refl, eq_self, ne_eq, reduceCtorEq, or_true, true_or, or_false, false_or, Bool.or_true, Bool.or_false, Bool.true_or, Bool.false_or, Nat.zero_le, Int.le_refl, Int.ofNat_zero, Int.ofNat_one, Bool.false_eq_true]
      try simp only [ab_in]
      (repeat' (first | intro _ | refine And.intro ?_ ?_)) <;> (first | exact hk3 | contradiction | omega | (exfalso; omega))
    have a1' := fun h3 q5 q6 q7 => a1 h3 (sr_rc hA q5 q6 q7) q7
    obtain ⟨-, m0, m1, m2, m3, m4, m5, m6, m7, m8, -, -, e9, -⟩ := roof_el D0
    have hd9 : decide (1 ≤ days ∧ days ≤ 60) = true := decide_eq_true hs.1
    refine hV (fun p => p == 34) 80 _ _ _ _ _ _ ?_
    simp only [D, D0, hP, e9, hd9, bI_in, bI_0, bI_1, bI_t, bI_f, bI_01, Tr_X3_isDays, Tr_X3_letGoBy, ae_aload_n, ae_dup, ae_getfield, ae_ifCond, ae_iload_n, ae_invokespecial, ae_invokestatic, ae_invokevirtual, ae_istore_n, ae_ldc, ae_new, dX3_pass_0, dX3_pass_1, dX3_pass_4, dX3_pass_7, dX3_pass_10, dX3_pass_11, dX3_pass_13, dX3_pass_16, dX3_pass_17, dX3_pass_18, dX3_pass_21, dX3_pass_24, dX3_pass_25, dX3_pass_26, dX3_pass_27, dX3_pass_30, dX3_pass_31, tbX3_g12, tbX3_g149, ca_X3_pass_199, ca_X3_pass_204, ab_wp0, ab_wps, ab_stp, ab_g, ab_st, ab_k2, ab_cl, ab_pop, ab_sz, ab_2, ab_ret, ab_f4, ab_tg, ab_I, ab_II, ab_A, ab_Rf, ab_VR, ab_IR, ab_VIR, ab_1, ab_LL, ab_DD, ab_ob, ab_pr, ab_qr, ab_ln, ab_so, ab_vI, ab_vA, ab_vD, ab_vL, ab_v2, ab_c, ab_fit, ab_rv, ab_tsw, ab_lsw, ab_up_eq, Fin.isValue, ab_f0, ab_f1, ab_f2, ab_f3, List.getElem?_cons_zero, List.getElem?_cons_succ, List.set_cons_zero, List.set_cons_succ, List.length_cons, List.length_nil, List.size_toArray, List.head?_cons, List.tail_cons, Option.map_some, cond_true, cond_false, true_and, and_true, false_and, and_false, not_true_eq_false, not_false_eq_true, true_imp_iff, false_imp_iff, if_true, if_false, ite_true, ite_false, ↓reduceIte, Nat.reduceAdd, Nat.reduceEqDiff, Nat.reduceLeDiff, Nat.reduceLT, Nat.reduceBEq, Nat.reduceBNe, Int.reduceAdd, Int.reduceNeg, Int.reduceSub, Int.reduceLE, Int.reduceLT, Int.reduceToNat, Int.reduceEq, Int.reduceMul, Int.cast_ofNat_Int, Nat.zero_add, Nat.add_zero, Nat.le_refl, eq_self, ne_eq, reduceCtorEq, or_true, true_or, or_false, false_or, Bool.or_true, Bool.or_false, Bool.true_or, Bool.false_or, Nat.zero_le, Int.le_refl, Int.ofNat_zero, Int.ofNat_one, Bool.false_eq_true]
    try simp only [ab_in]
    (repeat' (first | intro _ | refine And.intro ?_ ?_)) <;> (first | exact a1' _ (by assumption) (by assumption) (by assumption) | contradiction | omega | (exfalso; omega))
  · exact hT.elim
set_option maxRecDepth 100000 in
theorem con_X3_pass (l : Launch) (D : va_G) (ty : Nat → ClassId) (base : Nat) : ab_Con l D vwCl ty lw_ts base lw_wd yX3_pass cX3_pass 3 (some .int) 6 141 0 0 Tr_X3_pass :=
  ab_con_of (own := RX3) (rt := 1) (tb := tbX3) (ini := false) (ca := ca_X3_pass) (by decide +kernel) rfl (fun h => by cases h) rfl lw_wd_ok wtbX3 lw_ar cm_X3_pass
    (fun p e R s m args below meth c K hcx => by
      obtain ⟨hx, hb, hml, hown, hF, rfl⟩ := hcx
      exact ab_lk_all (ab_all_c (ab_tc_S hx hb hml hown lw_wd_ok hF ⟨rfl, rfl⟩ (con_X3_isDays l D ty base) (lw_wi (by decide +kernel) (by decide +kernel)) (lw_wi (by decide +kernel) (by decide +kernel)) (lw_wi (by decide +kernel) (by decide +kernel)) (lw_wi (by decide +kernel) (by decide +kernel)) (by decide +kernel) ⟨by decide, by decide⟩) (ab_all_c (ab_tc_V hx hb hml hown lw_wd_ok hF ⟨rfl, rfl⟩ (con_X3_letGoBy l D ty base) rfl (lw_wi (by decide +kernel) (by decide +kernel)) (lw_wi (by decide +kernel) (by decide +kernel)) (lw_wi (by decide +kernel) (by decide +kernel)) (lw_wi (by decide +kernel) (by decide +kernel)) (lw_wi (by decide +kernel) (by decide +kernel)) (by decide +kernel) ⟨by decide, by decide⟩) (ab_all_n))))
    (by intro as h K ht; unfold Tr_X3_pass at ht; split at ht <;> first | exact ht.elim | exact Nat.le_of_ble_eq_true rfl) (sem_X3_pass base)
