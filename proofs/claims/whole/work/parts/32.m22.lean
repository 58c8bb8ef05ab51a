/-! ===== SlateRoofs: questions, legal arguments ===== -/
noncomputable def Tr_X3_leaks : ATr := fun as h K => match as with
  | [.inr (.inl (some a)), .inl rain] => ab_so (ab_sr h a) fun P => (0 ≤ rain ∧ rain ≤ 9) ∧ ∀ h', ab_sr h' a = some (P.1, (P.2.1, P.2.2.1, rdL P.2.1 P.2.2.2.1 96, P.2.2.2.2)) → ab_fr h h' ([P.1.2.2.1.1, P.1.2.2.1.2]) → K (some (.inl (inAllF (rdL P.2.1 P.2.2.2.1 96) rain))) h'
  | _ => False
theorem mo_X3_leaks : ab_mo Tr_X3_leaks := by
  intro as h K K' hk ht
  unfold Tr_X3_leaks at ht ⊢
  split at ht
  · exact ab_so_mo (fun P q => ⟨q.1, fun h' e1 e2 => hk _ _ (q.2 h' e1 e2)⟩) ht
  · exact ht.elim
def ca_X3_leaks : Nat → Option ACS := ab_lk [(113, (2, 0, 2, 0, 0, Tr_X3_isUpTo)), (181, (0, 0, 2, 0, 0, Tr_X0_readFrom)), (188, (0, 0, 2, 0, 0, Tr_X0_comesInAtAll))]
theorem ca_X3_leaks_113 : ca_X3_leaks 113 = some (2, 0, 2, 0, 0, Tr_X3_isUpTo) := rfl
theorem ca_X3_leaks_181 : ca_X3_leaks 181 = some (0, 0, 2, 0, 0, Tr_X0_readFrom) := rfl
theorem ca_X3_leaks_188 : ca_X3_leaks 188 = some (0, 0, 2, 0, 0, Tr_X0_comesInAtAll) := rfl
theorem cm_X3_leaks : ∀ i q, ca_X3_leaks i = some q → ab_moq i q := ab_lk_all (ab_all_c mo_X3_isUpTo (ab_all_c mo_X0_readFrom (ab_all_c mo_X0_comesInAtAll (ab_all_n))))
set_option maxRecDepth 100000 in
set_option maxHeartbeats 4000000 in
theorem sem_X3_leaks (base : Nat) : ab_Sem tbX3 lw_ts base cX3_leaks ca_X3_leaks 1 2 0 0 (fun as => ab_en as 2) Tr_X3_leaks := by
  intro as h K hT V hV
  unfold Tr_X3_leaks at hT
  split at hT
  · rename_i a rain
    obtain ⟨⟨⟨⟨r, ns⟩, ⟨t, ms⟩, ⟨c, n⟩, b, q0, q1, q2, q3⟩, S, O, f, T⟩, hP, hs, hK⟩ := ab_so_el hT
    have hA := sr_el hP
    obtain ⟨D, D0, D1, D2, D3, -⟩ := id hA
    dsimp only at D D0 D1 D2 D3
    try dsimp only at hK hs
    show V 0 [some (.inr (.inl (some a))), some (.inl rain)] [] h 0 0
    have hu : isUpToF rain 9 = true := decide_eq_true (by omega)
    have a1 : ∀ h2, srAt h2 a (((r, ns), (t, ms), (c, n), b, q0, q1, q2, q3), (S, O, rdL S f 96, T)) → ab_fr h h2 [c, n] → V 30 [some (.inr (.inl (some a))), some (.inl rain)] [] h2 0 0 := by
      intro h2 g fr
      have hk3 := hK h2 (sr_of g) fr
      obtain ⟨d, d0, d1, d2, -, -⟩ := g
      dsimp only at d d2
      obtain ⟨-, -, e8, -⟩ := cov_el d2
      dsimp only at e8
      refine hV (fun _ => false) 80 _ _ _ _ _ _ ?_
      simp only [d, d2, e8, bI_in, bI_0, bI_1, bI_t, bI_f, bI_01, Tr_X0_comesInAtAll, ae_aload_n, ae_bipush, ae_dup, ae_getfield, ae_ifCond, ae_iload_n, ae_invokespecial, ae_invokestatic, ae_invokevirtual, ae_ireturn, ae_ldc, ae_new, dX3_leaks_0, dX3_leaks_1, dX3_leaks_3, dX3_leaks_6, dX3_leaks_9, dX3_leaks_12, dX3_leaks_13, dX3_leaks_15, dX3_leaks_18, dX3_leaks_19, dX3_leaks_20, dX3_leaks_23, dX3_leaks_24, dX3_leaks_27, dX3_leaks_30, dX3_leaks_31, dX3_leaks_34, dX3_leaks_35, dX3_leaks_38, tbX3_g12, tbX3_g22, ca_X3_leaks_113, ca_X3_leaks_181, ca_X3_leaks_188, ab_wp0, ab_wps, ab_stp, ab_g, ab_st, ab_k2, ab_pop, ab_sz, ab_2, ab_ret, ab_f4, ab_tg, ab_I, ab_II, ab_A, ab_Rf, ab_VR, ab_IR, ab_VIR, ab_1, ab_LL, ab_DD, ab_ob, ab_pr, ab_qr, ab_ln, ab_so, ab_vI, ab_vA, ab_vD, ab_vL, ab_v2, ab_c, ab_fit, ab_rv, ab_tsw, ab_lsw, ab_up_eq, Fin.isValue, ab_f0, ab_f1, ab_f2, ab_f3, List.getElem?_cons_zero, List.getElem?_cons_succ, List.set_cons_zero, List.set_cons_succ, List.length_cons, List.length_nil, List.size_toArray, List.head?_cons, List.tail_cons, Option.map_some, cond_true, cond_false, true_and, and_true, false_and, and_false, not_true_eq_false, not_false_eq_true, true_imp_iff, false_imp_iff, if_true, if_false, ite_true, ite_false, ↓reduceIte, Nat.reduceAdd, Nat.reduceEqDiff, Nat.reduceLeDiff, Nat.reduceLT, Nat.reduceBEq, Nat.reduceBNe, Int.reduceAdd, Int.reduceNeg, Int.reduceSub, Int.reduceLE, Int.reduceLT, Int.reduceToNat, Int.reduceEq, Int.reduceMul, Int.cast_ofNat_Int, Nat.zero_add, Nat.add_zero, Nat.le_refl, eq_self, ne_eq, reduceCtorEq, or_true, true_or, or_false, false_or, Bool.or_true, Bool.or_false, Bool.true_or, Bool.false_or, Nat.zero_le, Int.le_refl, Int.ofNat_zero, Int.ofNat_one, Bool.false_eq_true]
      try simp only [ab_in]
      (repeat' (first | intro _ | refine And.intro ?_ ?_)) <;> (first | exact hk3 | contradiction | omega | (exfalso; omega))
    have a1' := fun h3 q5 q6 => a1 h3 (sr_cov hA q5 q6) q6
    obtain ⟨-, -, e8, -⟩ := cov_el D2
    dsimp only at e8
    refine hV (fun p => p == 30) 80 _ _ _ _ _ _ ?_
    simp only [D, D0, D2, e8, hu, bI_in, bI_0, bI_1, bI_t, bI_f, bI_01, Tr_X3_isUpTo, Tr_X0_readFrom, ae_aload_n, ae_bipush, ae_dup, ae_getfield, ae_ifCond, ae_iload_n, ae_invokespecial, ae_invokestatic, ae_invokevirtual, ae_ireturn, ae_ldc, ae_new, dX3_leaks_0, dX3_leaks_1, dX3_leaks_3, dX3_leaks_6, dX3_leaks_9, dX3_leaks_12, dX3_leaks_13, dX3_leaks_15, dX3_leaks_18, dX3_leaks_19, dX3_leaks_20, dX3_leaks_23, dX3_leaks_24, dX3_leaks_27, dX3_leaks_30, dX3_leaks_31, dX3_leaks_34, dX3_leaks_35, dX3_leaks_38, tbX3_g12, tbX3_g22, ca_X3_leaks_113, ca_X3_leaks_181, ca_X3_leaks_188, ab_wp0, ab_wps, ab_stp, ab_g, ab_st, ab_k2, ab_pop, ab_sz, ab_2, ab_ret, ab_f4, ab_tg, ab_I, ab_II, ab_A, ab_Rf, ab_VR, ab_IR, ab_VIR, ab_1, ab_LL, ab_DD, ab_ob, ab_pr, ab_qr, ab_ln, ab_so, ab_vI, ab_vA, ab_vD, ab_vL, ab_v2, ab_c, ab_fit, ab_rv, ab_tsw, ab_lsw, ab_up_eq, Fin.isValue, ab_f0, ab_f1, ab_f2, ab_f3, List.getElem?_cons_zero, List.getElem?_cons_succ, List.set_cons_zero, List.set_cons_succ, List.length_cons, List.length_nil, List.size_toArray, List.head?_cons, List.tail_cons, Option.map_some, cond_true, cond_false, true_and, and_true, false_and, and_false, not_true_eq_false, not_false_eq_true, true_imp_iff, false_imp_iff, if_true, if_false, ite_true, ite_false, ↓reduceIte, Nat.reduceAdd, Nat.reduceEqDiff, Nat.reduceLeDiff, Nat.reduceLT, Nat.reduceBEq, Nat.reduceBNe, Int.reduceAdd, Int.reduceNeg, Int.reduceSub, Int.reduceLE, Int.reduceLT, Int.reduceToNat, Int.reduceEq, Int.reduceMul, Int.cast_ofNat_Int, Nat.zero_add, Nat.add_zero, Nat.le_refl, eq_self, ne_eq, reduceCtorEq, or_true, true_or, or_false, false_or, Bool.or_true, Bool.or_false, Bool.true_or, Bool.false_or, Nat.zero_le, Int.le_refl, Int.ofNat_zero, Int.ofNat_one, Bool.false_eq_true]
    try simp only [ab_in]
    (repeat' (first | intro _ | refine And.intro ?_ ?_)) <;> (first | exact a1' _ (by assumption) (by assumption) | contradiction | omega | (exfalso; omega))
  · exact hT.elim
set_option maxRecDepth 100000 in
theorem con_X3_leaks (l : Launch) (D : va_G) (ty : Nat → ClassId) (base : Nat) : ab_Con l D vwCl ty lw_ts base lw_wd yX3_leaks cX3_leaks 2 (some .int) 4 90 0 0 Tr_X3_leaks :=
  ab_con_of (own := RX3) (rt := 1) (tb := tbX3) (ini := false) (ca := ca_X3_leaks) (by decide +kernel) rfl (fun h => by cases h) rfl lw_wd_ok wtbX3 lw_ar cm_X3_leaks
    (fun p e R s m args below meth c K hcx => by
      obtain ⟨hx, hb, hml, hown, hF, rfl⟩ := hcx
      exact ab_lk_all (ab_all_c (ab_tc_S hx hb hml hown lw_wd_ok hF ⟨rfl, rfl⟩ (con_X3_isUpTo l D ty base) (lw_wi (by decide +kernel) (by decide +kernel)) (lw_wi (by decide +kernel) (by decide +kernel)) (lw_wi (by decide +kernel) (by decide +kernel)) (lw_wi (by decide +kernel) (by decide +kernel)) (by decide +kernel) ⟨by decide, by decide⟩) (ab_all_c (ab_tc_V hx hb hml hown lw_wd_ok hF ⟨rfl, rfl⟩ (con_X0_readFrom l D ty base) rfl (lw_wi (by decide +kernel) (by decide +kernel)) (lw_wi (by decide +kernel) (by decide +kernel)) (lw_wi (by decide +kernel) (by decide +kernel)) (lw_wi (by decide +kernel) (by decide +kernel)) (lw_wi (by decide +kernel) (by decide +kernel)) (by decide +kernel) ⟨by decide, by decide⟩) (ab_all_c (ab_tc_V hx hb hml hown lw_wd_ok hF ⟨rfl, rfl⟩ (con_X0_comesInAtAll l D ty base) rfl (lw_wi (by decide +kernel) (by decide +kernel)) (lw_wi (by decide +kernel) (by decide +kernel)) (lw_wi (by decide +kernel) (by decide +kernel)) (lw_wi (by decide +kernel) (by decide +kernel)) (lw_wi (by decide +kernel) (by decide +kernel)) (by decide +kernel) ⟨by decide, by decide⟩) (ab_all_n)))))
    (by intro as h K ht; unfold Tr_X3_leaks at ht; split at ht <;> first | exact ht.elim | exact Nat.le_of_ble_eq_true rfl) (sem_X3_leaks base)
