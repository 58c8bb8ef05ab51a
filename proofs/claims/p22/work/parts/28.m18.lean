/-! ===== SlateRoofs: its methods ===== -/
def ciwC (S : RS) (f : Int → Int) (row from9 wide : Int) : Int → Int := covAddL row wide.toNat from9 (rdL S f 96)
noncomputable def Tr_X3_comesInWith : ATr := fun as h K => match as with
  | [.inr (.inl (some a)), .inl row, .inl from9, .inl wide] => ab_so (ab_sr h a) fun P => ((0 ≤ row ∧ row ≤ 7) ∧ (0 ≤ from9 ∧ from9 ≤ 12) ∧ (0 ≤ wide ∧ wide ≤ 4)) ∧ ∀ h', ab_sr h' a = some (P.1, (P.2.1, P.2.2.1, ciwC P.2.1 P.2.2.2.1 row from9 wide, P.2.2.2.2)) → ab_fr h h' ([P.1.2.2.1.1, P.1.2.2.1.2]) → K (some (.inl (inAllF (ciwC P.2.1 P.2.2.2.1 row from9 wide) 9))) h'
  | _ => False
theorem mo_X3_comesInWith : ab_mo Tr_X3_comesInWith := by
  intro as h K K' hk ht
  unfold Tr_X3_comesInWith at ht ⊢
  split at ht
  · exact ab_so_mo (fun P q => ⟨q.1, fun h' e1 e2 => hk _ _ (q.2 h' e1 e2)⟩) ht
  · exact ht.elim
def ca_X3_comesInWith : Nat → Option ACS := ab_lk [(181, (0, 0, 2, 0, 0, Tr_X0_readFrom)), (228, (0, 0, 4, 0, 0, Tr_X0_addSlate)), (188, (0, 0, 2, 0, 0, Tr_X0_comesInAtAll))]
theorem ca_X3_comesInWith_181 : ca_X3_comesInWith 181 = some (0, 0, 2, 0, 0, Tr_X0_readFrom) := rfl
theorem ca_X3_comesInWith_228 : ca_X3_comesInWith 228 = some (0, 0, 4, 0, 0, Tr_X0_addSlate) := rfl
theorem ca_X3_comesInWith_188 : ca_X3_comesInWith 188 = some (0, 0, 2, 0, 0, Tr_X0_comesInAtAll) := rfl
theorem cm_X3_comesInWith : ∀ i q, ca_X3_comesInWith i = some q → ab_moq i q := ab_lk_all (ab_all_c mo_X0_readFrom (ab_all_c mo_X0_addSlate (ab_all_c mo_X0_comesInAtAll (ab_all_n))))
set_option maxRecDepth 100000 in
set_option maxHeartbeats 4000000 in
theorem sem_X3_comesInWith (base : Nat) : ab_Sem tbX3 lw_ts base cX3_comesInWith ca_X3_comesInWith 1 4 0 0 (fun as => ab_en as 4) Tr_X3_comesInWith := by
  intro as h K hT V hV
  unfold Tr_X3_comesInWith at hT
  split at hT
  · rename_i a row from9 wide
    obtain ⟨⟨⟨⟨r, ns⟩, ⟨t, ms⟩, ⟨c, n⟩, b, q0, q1, q2, q3⟩, S, O, f, T⟩, hP, hs, hK⟩ := ab_so_el hT
    have hA := sr_el hP
    obtain ⟨D, D0, D1, D2, D3, -⟩ := id hA
    dsimp only at D D0 D1 D2 D3
    try dsimp only at hK hs
    show V 0 [some (.inr (.inl (some a))), some (.inl row), some (.inl from9), some (.inl wide)] [] h 0 0
    have a2 : ∀ h2, srAt h2 a (((r, ns), (t, ms), (c, n), b, q0, q1, q2, q3), (S, O, ciwC S f row from9 wide, T)) → ab_fr h h2 [c, n] → V 21 [some (.inr (.inl (some a))), some (.inl row), some (.inl from9), some (.inl wide)] [] h2 0 0 := by
      intro h2 g fr
      have hk3 := hK h2 (sr_of g) fr
      obtain ⟨d, d0, d1, d2, d3, -⟩ := g
      dsimp only at d d0 d1 d2 d3
      obtain ⟨-, -, e8, -⟩ := cov_el d2
      dsimp only at e8
      refine hV (fun _ => false) 80 _ _ _ _ _ _ ?_
      simp only [d, d2, e8, bI_in, bI_0, bI_1, bI_t, bI_f, bI_01, Tr_X0_comesInAtAll, ae_aload_n, ae_bipush, ae_getfield, ae_invokevirtual, ae_ireturn, dX3_comesInWith_21, dX3_comesInWith_22, dX3_comesInWith_25, dX3_comesInWith_27, dX3_comesInWith_30, tbX3_g22, ca_X3_comesInWith_181, ca_X3_comesInWith_228, ca_X3_comesInWith_188, ab_wp0, ab_wps, ab_stp, ab_g, ab_st, ab_k2, ab_cl, ab_pop, ab_sz, ab_2, ab_ret, ab_f4, ab_tg, ab_I, ab_II, ab_A, ab_Rf, ab_VR, ab_IR, ab_VIR, ab_1, ab_LL, ab_DD, ab_ob, ab_pr, ab_qr, ab_ln, ab_so, ab_vI, ab_vA, ab_vD, ab_vL, ab_v2, ab_c, ab_fit, ab_rv, ab_tsw, ab_lsw, ab_up_eq, Fin.isValue, ab_f0, ab_f1, ab_f2, ab_f3, List.getElem?_cons_zero, List.getElem?_cons_succ, List.set_cons_zero, List.set_cons_succ, List.length_cons, List.length_nil, List.size_toArray, List.head?_cons, List.tail_cons, Option.map_some, cond_true, cond_false, true_and, and_true, false_and, and_false, not_true_eq_false, not_false_eq_true, true_imp_iff, false_imp_iff, if_true, if_false, ite_true, ite_false, ↓reduceIte, Nat.reduceAdd, Nat.reduceEqDiff, Nat.reduceLeDiff, Nat.reduceLT, Nat.reduceBEq, Nat.reduceBNe, Int.reduceAdd, Int.reduceNeg, Int.reduceSub, Int.reduceLE, Int.reduceLT, Int.reduceToNat, Int.reduceEq, Int.reduceMul, Int.cast_ofNat_Int, Nat.zero_add, Nat.add_zero, Nat.le_refl, eq_self, ne_eq, reduceCtorEq, or_true, true_or, or_false, false_or, Bool.or_true, Bool.or_false, Bool.true_or, Bool.false_or, Nat.zero_le, Int.le_refl, Int.ofNat_zero, Int.ofNat_one, Bool.false_eq_true]
      try simp only [ab_in]
      (repeat' (first | intro _ | refine And.intro ?_ ?_)) <;> (first | exact hk3 | contradiction | omega | (exfalso; omega))
    have a1 : ∀ h2, srAt h2 a (((r, ns), (t, ms), (c, n), b, q0, q1, q2, q3), (S, O, rdL S f 96, T)) → ab_fr h h2 [c, n] → V 11 [some (.inr (.inl (some a))), some (.inl row), some (.inl from9), some (.inl wide)] [] h2 0 0 := by
      intro h2 g fr
      have a2' := fun h3 q5 q6 => a2 h3 (sr_cov g q5 q6) (fr.tr q6)
      obtain ⟨d, d0, d1, d2, d3, -⟩ := g
      dsimp only at d d0 d1 d2 d3
      obtain ⟨-, -, e8, -⟩ := cov_el d2
      dsimp only at e8
      simp only [ciwC] at a2'
      refine hV (fun p => p == 21) 80 _ _ _ _ _ _ ?_
      simp only [d, d2, e8, bI_in, bI_0, bI_1, bI_t, bI_f, bI_01, Tr_X0_addSlate, ae_aload_n, ae_getfield, ae_iload_n, ae_invokevirtual, dX3_comesInWith_11, dX3_comesInWith_12, dX3_comesInWith_15, dX3_comesInWith_16, dX3_comesInWith_17, dX3_comesInWith_18, tbX3_g22, ca_X3_comesInWith_181, ca_X3_comesInWith_228, ca_X3_comesInWith_188, ab_wp0, ab_wps, ab_stp, ab_g, ab_st, ab_k2, ab_cl, ab_pop, ab_sz, ab_2, ab_ret, ab_f4, ab_tg, ab_I, ab_II, ab_A, ab_Rf, ab_VR, ab_IR, ab_VIR, ab_1, ab_LL, ab_DD, ab_ob, ab_pr, ab_qr, ab_ln, ab_so, ab_vI, ab_vA, ab_vD, ab_vL, ab_v2, ab_c, ab_fit, ab_rv, ab_tsw, ab_lsw, ab_up_eq, Fin.isValue, ab_f0, ab_f1, ab_f2, ab_f3, List.getElem?_cons_zero, List.getElem?_cons_succ, List.set_cons_zero, List.set_cons_succ, List.length_cons, List.length_nil, List.size_toArray, List.head?_cons, List.tail_cons, Option.map_some, cond_true, cond_false, true_and, and_true, false_and, and_false, not_true_eq_false, not_false_eq_true, true_imp_iff, false_imp_iff, if_true, if_false, ite_true, ite_false, ↓reduceIte, Nat.reduceAdd, Nat.reduceEqDiff, Nat.reduceLeDiff, Nat.reduceLT, Nat.reduceBEq, Nat.reduceBNe, Int.reduceAdd, Int.reduceNeg, Int.reduceSub, Int.reduceLE, Int.reduceLT, Int.reduceToNat, Int.reduceEq, Int.reduceMul, Int.cast_ofNat_Int, Nat.zero_add, Nat.add_zero, Nat.le_refl, eq_self, ne_eq, reduceCtorEq, or_true, true_or, or_false, false_or, Bool.or_true, Bool.or_false, Bool.true_or, Bool.false_or, Nat.zero_le, Int.le_refl, Int.ofNat_zero, Int.ofNat_one, Bool.false_eq_true]
      try simp only [ab_in] at hs ⊢
      (repeat' (first | intro _ | refine And.intro ?_ ?_)) <;> (first | exact a2' _ (by assumption) (by assumption) | contradiction | omega | (exfalso; omega))
    have a1' := fun h3 q5 q6 => a1 h3 (sr_cov hA q5 q6) q6
    obtain ⟨-, -, e8, -⟩ := cov_el D2
    dsimp only at e8
    refine hV (fun p => p == 11) 80 _ _ _ _ _ _ ?_
    simp only [D, D2, D0, e8, bI_in, bI_0, bI_1, bI_t, bI_f, bI_01, Tr_X0_readFrom, ae_aload_n, ae_getfield, ae_invokevirtual, dX3_comesInWith_0, dX3_comesInWith_1, dX3_comesInWith_4, dX3_comesInWith_5, dX3_comesInWith_8, tbX3_g12, tbX3_g22, ca_X3_comesInWith_181, ca_X3_comesInWith_228, ca_X3_comesInWith_188, ab_wp0, ab_wps, ab_stp, ab_g, ab_st, ab_k2, ab_cl, ab_pop, ab_sz, ab_2, ab_ret, ab_f4, ab_tg, ab_I, ab_II, ab_A, ab_Rf, ab_VR, ab_IR, ab_VIR, ab_1, ab_LL, ab_DD, ab_ob, ab_pr, ab_qr, ab_ln, ab_so, ab_vI, ab_vA, ab_vD, ab_vL, ab_v2, ab_c, ab_fit, ab_rv, ab_tsw, ab_lsw, ab_up_eq, Fin.isValue, ab_f0, ab_f1, ab_f2, ab_f3, List.getElem?_cons_zero, List.getElem?_cons_succ, List.set_cons_zero, List.set_cons_succ, List.length_cons, List.length_nil, List.size_toArray, List.head?_cons, List.tail_cons, Option.map_some, cond_true, cond_false, true_and, and_true, false_and, and_false, not_true_eq_false, not_false_eq_true, true_imp_iff, false_imp_iff, if_true, if_false, ite_true, ite_false, ↓reduceIte, Nat.reduceAdd, Nat.reduceEqDiff, Nat.reduceLeDiff, Nat.reduceLT, Nat.reduceBEq, Nat.reduceBNe, Int.reduceAdd, Int.reduceNeg, Int.reduceSub, Int.reduceLE, Int.reduceLT, Int.reduceToNat, Int.reduceEq, Int.reduceMul, Int.cast_ofNat_Int, Nat.zero_add, Nat.add_zero, Nat.le_refl, eq_self, ne_eq, reduceCtorEq, or_true, true_or, or_false, false_or, Bool.or_true, Bool.or_false, Bool.true_or, Bool.false_or, Nat.zero_le, Int.le_refl, Int.ofNat_zero, Int.ofNat_one, Bool.false_eq_true]
    (repeat' (first | intro _ | refine And.intro ?_ ?_)) <;> (first | exact a1' _ (by assumption) (by assumption) | contradiction | omega | (exfalso; omega))
  · exact hT.elim
set_option maxRecDepth 100000 in
theorem con_X3_comesInWith (l : Launch) (D : va_G) (ty : Nat → ClassId) (base : Nat) : ab_Con l D vwCl ty lw_ts base lw_wd yX3_comesInWith cX3_comesInWith 4 (some .int) 4 90 0 0 Tr_X3_comesInWith :=
  ab_con_of (own := RX3) (rt := 1) (tb := tbX3) (ini := false) (ca := ca_X3_comesInWith) (by decide +kernel) rfl (fun h => by cases h) rfl lw_wd_ok wtbX3 lw_ar cm_X3_comesInWith
    (fun p e R s m args below meth c K hcx => by
      obtain ⟨hx, hb, hml, hown, hF, rfl⟩ := hcx
      exact ab_lk_all (ab_all_c (ab_tc_V hx hb hml hown lw_wd_ok hF ⟨rfl, rfl⟩ (con_X0_readFrom l D ty base) rfl (lw_wi (by decide +kernel) (by decide +kernel)) (lw_wi (by decide +kernel) (by decide +kernel)) (lw_wi (by decide +kernel) (by decide +kernel)) (lw_wi (by decide +kernel) (by decide +kernel)) (lw_wi (by decide +kernel) (by decide +kernel)) (by decide +kernel) ⟨by decide, by decide⟩) (ab_all_c (ab_tc_V hx hb hml hown lw_wd_ok hF ⟨rfl, rfl⟩ (con_X0_addSlate l D ty base) rfl (lw_wi (by decide +kernel) (by decide +kernel)) (lw_wi (by decide +kernel) (by decide +kernel)) (lw_wi (by decide +kernel) (by decide +kernel)) (lw_wi (by decide +kernel) (by decide +kernel)) (lw_wi (by decide +kernel) (by decide +kernel)) (by decide +kernel) ⟨by decide, by decide⟩) (ab_all_c (ab_tc_V hx hb hml hown lw_wd_ok hF ⟨rfl, rfl⟩ (con_X0_comesInAtAll l D ty base) rfl (lw_wi (by decide +kernel) (by decide +kernel)) (lw_wi (by decide +kernel) (by decide +kernel)) (lw_wi (by decide +kernel) (by decide +kernel)) (lw_wi (by decide +kernel) (by decide +kernel)) (lw_wi (by decide +kernel) (by decide +kernel)) (by decide +kernel) ⟨by decide, by decide⟩) (ab_all_n)))))
    (by intro as h K ht; unfold Tr_X3_comesInWith at ht; split at ht <;> first | exact ht.elim | exact Nat.le_of_ble_eq_true rfl) (sem_X3_comesInWith base)
def bearL (right : Int) : Nat → Int → RS → Int × RS
  | 0, _, S => (20, S)
  | n + 1, fo, S => if 0 < manyF S fo right then (fo - 1, markF S fo right) else bearL right n (fo + 1) (markF S fo right)
def bearsF (right : Int) (S : RS) : Int × RS := bearL right 20 1 S
noncomputable def Tr_X3_bears : ATr := fun as h K => match as with
  | [.inr (.inl (some a)), .inl right] => ab_so (ab_sr h a) fun P => (right = 0 ∨ right = 1) ∧ ∀ h', ab_sr h' a = some (P.1, ((bearsF right P.2.1).2, P.2.2)) → ab_fr h h' (P.1.1.1 :: P.1.1.2) → K (some (.inl ((bearsF right P.2.1).1))) h'
  | _ => False
theorem mo_X3_bears : ab_mo Tr_X3_bears := by
  intro as h K K' hk ht
  unfold Tr_X3_bears at ht ⊢
  split at ht
  · exact ab_so_mo (fun P q => ⟨q.1, fun h' e1 e2 => hk _ _ (q.2 h' e1 e2)⟩) ht
  · exact ht.elim
def ca_X3_bears : Nat → Option ACS := ab_lk [(176, (0, 1, 3, 0, 0, Tr_X1_markLifted))]
theorem ca_X3_bears_176 : ca_X3_bears 176 = some (0, 1, 3, 0, 0, Tr_X1_markLifted) := rfl
theorem cm_X3_bears : ∀ i q, ca_X3_bears i = some q → ab_moq i q := ab_lk_all (ab_all_c mo_X1_markLifted (ab_all_n))
set_option maxRecDepth 100000 in
set_option maxHeartbeats 4000000 in
theorem sem_X3_bears (base : Nat) : ab_Sem tbX3 lw_ts base cX3_bears ca_X3_bears 1 3 0 0 (fun as => ab_en as 3) Tr_X3_bears := by
  intro as h K hT V hV
  unfold Tr_X3_bears at hT
  split at hT
  · rename_i a right
    obtain ⟨⟨⟨⟨r, ns⟩, ⟨t, ms⟩, ⟨c, n⟩, b, q0, q1, q2, q3⟩, S, O, f, T⟩, hP, hs, hK⟩ := ab_so_el hT
    have hA := sr_el hP
    obtain ⟨D, D0, D1, D2, D3, -⟩ := id hA
    dsimp only at D D0 D1 D2 D3
    try dsimp only at hK hs
    show V 0 [some (.inr (.inl (some a))), some (.inl right), none] [] h 0 0
    have loop : ∀ (k : Nat) (fo : Int) (h1 : AH) (S1 : RS), fo + k = 21 → 1 ≤ fo → srAt h1 a (((r, ns), (t, ms), (c, n), b, q0, q1, q2, q3), (S1, O, f, T)) → ab_fr h h1 (r :: ns) → bearL right k fo S1 = bearsF right S → V 2 [some (.inr (.inl (some a))), some (.inl right), some (.inl fo)] [] h1 0 0 := by
      intro k
      induction k with
      | zero =>
        intro fo h1 S1 hf0 hf1 g fr hr
        have he : fo = 21 := by omega
        subst he
        simp only [bearL] at hr
        rw [← hr] at hK
        have hk3 := hK h1 (sr_of g) fr
        refine hV (fun p => p == 2) 80 _ _ _ _ _ _ ?_
        simp only [bI_in, bI_0, bI_1, bI_t, bI_f, bI_01, ae_aload_n, ae_bipush, ae_getfield, ae_goto, ae_iconst, ae_ifCond, ae_if_icmp, ae_iinc, ae_iload_n, ae_invokevirtual, ae_ireturn, ae_istore_n, ae_isub, dX3_bears_0, dX3_bears_1, dX3_bears_2, dX3_bears_3, dX3_bears_5, dX3_bears_8, dX3_bears_9, dX3_bears_12, dX3_bears_13, dX3_bears_14, dX3_bears_17, dX3_bears_20, dX3_bears_21, dX3_bears_22, dX3_bears_23, dX3_bears_24, dX3_bears_27, dX3_bears_30, dX3_bears_32, tbX3_g12, ca_X3_bears_176, ab_wp0, ab_wps, ab_stp, ab_g, ab_st, ab_k2, ab_cl, ab_pop, ab_sz, ab_2, ab_ret, ab_f4, ab_tg, ab_I, ab_II, ab_A, ab_Rf, ab_VR, ab_IR, ab_VIR, ab_1, ab_LL, ab_DD, ab_ob, ab_pr, ab_qr, ab_ln, ab_so, ab_vI, ab_vA, ab_vD, ab_vL, ab_v2, ab_c, ab_fit, ab_rv, ab_tsw, ab_lsw, ab_up_eq, Fin.isValue, ab_f0, ab_f1, ab_f2, ab_f3, List.getElem?_cons_zero, List.getElem?_cons_succ, List.set_cons_zero, List.set_cons_succ, List.length_cons, List.length_nil, List.size_toArray, List.head?_cons, List.tail_cons, Option.map_some, cond_true, cond_false, true_and, and_true, false_and, and_false, not_true_eq_false, not_false_eq_true, true_imp_iff, false_imp_iff, if_true, if_false, ite_true, ite_false, ↓reduceIte, Nat.reduceAdd, Nat.reduceEqDiff, Nat.reduceLeDiff, Nat.reduceLT, Nat.reduceBEq, Nat.reduceBNe, Int.reduceAdd, Int.reduceNeg, Int.reduceSub, Int.reduceLE, Int.reduceLT, Int.reduceToNat, Int.reduceEq, Int.reduceMul, Int.cast_ofNat_Int, Nat.zero_add, Nat.add_zero, Nat.le_refl, eq_self, ne_eq, reduceCtorEq, or_true, true_or, or_false, false_or, Bool.or_true, Bool.or_false, Bool.true_or, Bool.false_or, Nat.zero_le, Int.le_refl, Int.ofNat_zero, Int.ofNat_one, Bool.false_eq_true]
        simp only [ab_in]
        (repeat' (first | intro _ | refine And.intro ?_ ?_)) <;> (first | exact hk3 | contradiction | omega | (exfalso; omega))
      | succ k ih =>
        intro fo h1 S1 hf0 hf1 g fr hr
        have he : ¬ 20 < fo := by omega
        simp only [bearL] at hr
        have hmr : 0 ≤ manyF S1 fo right ∧ manyF S1 fo right ≤ S1.laid.toNat := manyF_r S1 fo right S1.laid.toNat 0
        have aft : ∀ h2, srAt h2 a (((r, ns), (t, ms), (c, n), b, q0, q1, q2, q3), (markF S1 fo right, O, f, T)) → ab_fr h h2 (r :: ns) → V 17 [some (.inr (.inl (some a))), some (.inl right), some (.inl fo)] [.inl (manyF S1 fo right)] h2 0 0 := by
          intro h2 g2 fr2
          have hla := (roof_el g.2.1).1.laid_r
          dsimp only at hla
          by_cases hm : 0 < manyF S1 fo right
          · rw [if_pos hm] at hr
            rw [← hr] at hK
            have hk3 := hK h2 (sr_of g2) fr2
            refine hV (fun p => p == 2) 80 _ _ _ _ _ _ ?_
            simp only [ae_goto, ae_iconst, ae_ifCond, ae_iinc, ae_iload_n, ae_ireturn, ae_isub, dX3_bears_17, dX3_bears_20, dX3_bears_21, dX3_bears_22, dX3_bears_23, dX3_bears_24, dX3_bears_27, ca_X3_bears_176, ab_wp0, ab_wps, ab_stp, ab_g, ab_st, ab_k2, ab_cl, ab_pop, ab_sz, ab_2, ab_ret, ab_f4, ab_tg, ab_I, ab_II, ab_A, ab_Rf, ab_VR, ab_IR, ab_VIR, ab_1, ab_LL, ab_DD, ab_ob, ab_pr, ab_qr, ab_ln, ab_so, ab_vI, ab_vA, ab_vD, ab_vL, ab_v2, ab_c, ab_fit, ab_rv, ab_tsw, ab_lsw, ab_up_eq, Fin.isValue, ab_f0, ab_f1, ab_f2, ab_f3, List.getElem?_cons_zero, List.getElem?_cons_succ, List.set_cons_zero, List.set_cons_succ, List.length_cons, List.length_nil, List.size_toArray, List.head?_cons, List.tail_cons, Option.map_some, cond_true, cond_false, true_and, and_true, false_and, and_false, not_true_eq_false, not_false_eq_true, true_imp_iff, false_imp_iff, if_true, if_false, ite_true, ite_false, ↓reduceIte, Nat.reduceAdd, Nat.reduceEqDiff, Nat.reduceLeDiff, Nat.reduceLT, Nat.reduceBEq, Nat.reduceBNe, Int.reduceAdd, Int.reduceNeg, Int.reduceSub, Int.reduceLE, Int.reduceLT, Int.reduceToNat, Int.reduceEq, Int.reduceMul, Int.cast_ofNat_Int, Nat.zero_add, Nat.add_zero, Nat.le_refl, eq_self, ne_eq, reduceCtorEq, or_true, true_or, or_false, false_or, Bool.or_true, Bool.or_false, Bool.true_or, Bool.false_or, Nat.zero_le, Int.le_refl, Int.ofNat_zero, Int.ofNat_one, Bool.false_eq_true]
            simp only [ab_in]
            (repeat' (first | intro _ | refine And.intro ?_ ?_)) <;> (first | exact hk3 | contradiction | omega | (exfalso; omega))
          · rw [if_neg hm] at hr
            have ih1 := ih (fo + 1) h2 _ (by omega) (by omega) g2 fr2 hr
            refine hV (fun p => p == 2) 80 _ _ _ _ _ _ ?_
            simp only [ae_goto, ae_iconst, ae_ifCond, ae_iinc, ae_iload_n, ae_ireturn, ae_isub, dX3_bears_17, dX3_bears_20, dX3_bears_21, dX3_bears_22, dX3_bears_23, dX3_bears_24, dX3_bears_27, ca_X3_bears_176, ab_wp0, ab_wps, ab_stp, ab_g, ab_st, ab_k2, ab_cl, ab_pop, ab_sz, ab_2, ab_ret, ab_f4, ab_tg, ab_I, ab_II, ab_A, ab_Rf, ab_VR, ab_IR, ab_VIR, ab_1, ab_LL, ab_DD, ab_ob, ab_pr, ab_qr, ab_ln, ab_so, ab_vI, ab_vA, ab_vD, ab_vL, ab_v2, ab_c, ab_fit, ab_rv, ab_tsw, ab_lsw, ab_up_eq, Fin.isValue, ab_f0, ab_f1, ab_f2, ab_f3, List.getElem?_cons_zero, List.getElem?_cons_succ, List.set_cons_zero, List.set_cons_succ, List.length_cons, List.length_nil, List.size_toArray, List.head?_cons, List.tail_cons, Option.map_some, cond_true, cond_false, true_and, and_true, false_and, and_false, not_true_eq_false, not_false_eq_true, true_imp_iff, false_imp_iff, if_true, if_false, ite_true, ite_false, ↓reduceIte, Nat.reduceAdd, Nat.reduceEqDiff, Nat.reduceLeDiff, Nat.reduceLT, Nat.reduceBEq, Nat.reduceBNe, Int.reduceAdd, Int.reduceNeg, Int.reduceSub, Int.reduceLE, Int.reduceLT, Int.reduceToNat, Int.reduceEq, Int.reduceMul, Int.cast_ofNat_Int, Nat.zero_add, Nat.add_zero, Nat.le_refl, eq_self, ne_eq, reduceCtorEq, or_true, true_or, or_false, false_or, Bool.or_true, Bool.or_false, Bool.true_or, Bool.false_or, Nat.zero_le, Int.le_refl, Int.ofNat_zero, Int.ofNat_one, Bool.false_eq_true]
            simp only [ab_in]
            (repeat' (first | intro _ | refine And.intro ?_ ?_)) <;> (first | exact ih1 | contradiction | omega | (exfalso; omega))
        have aft' := fun h3 q5 q6 => aft h3 (sr_roof g q5 q6) (fr.tr q6)
        obtain ⟨d, d0, -, -, -, -⟩ := g
        dsimp only at d d0
        obtain ⟨-, m0, m1, m2, m3, m4, m5, m6, m7, m8, -, -, e9, -⟩ := roof_el d0
        refine hV (fun p => bif p == 2 then true else p == 17) 80 _ _ _ _ _ _ ?_
        simp only [d, d0, e9, he, bI_in, bI_0, bI_1, bI_t, bI_f, bI_01, Tr_X1_markLifted, ae_aload_n, ae_bipush, ae_getfield, ae_if_icmp, ae_iload_n, ae_invokevirtual, dX3_bears_2, dX3_bears_3, dX3_bears_5, dX3_bears_8, dX3_bears_9, dX3_bears_12, dX3_bears_13, dX3_bears_14, tbX3_g12, ca_X3_bears_176, ab_wp0, ab_wps, ab_stp, ab_g, ab_st, ab_k2, ab_cl, ab_pop, ab_sz, ab_2, ab_ret, ab_f4, ab_tg, ab_I, ab_II, ab_A, ab_Rf, ab_VR, ab_IR, ab_VIR, ab_1, ab_LL, ab_DD, ab_ob, ab_pr, ab_qr, ab_ln, ab_so, ab_vI, ab_vA, ab_vD, ab_vL, ab_v2, ab_c, ab_fit, ab_rv, ab_tsw, ab_lsw, ab_up_eq, Fin.isValue, ab_f0, ab_f1, ab_f2, ab_f3, List.getElem?_cons_zero, List.getElem?_cons_succ, List.set_cons_zero, List.set_cons_succ, List.length_cons, List.length_nil, List.size_toArray, List.head?_cons, List.tail_cons, Option.map_some, cond_true, cond_false, true_and, and_true, false_and, and_false, not_true_eq_false, not_false_eq_true, true_imp_iff, false_imp_iff, if_true, if_false, ite_true, ite_false, ↓reduceIte, Nat.reduceAdd, Nat.reduceEqDiff, Nat.reduceLeDiff, Nat.reduceLT, Nat.reduceBEq, Nat.reduceBNe, Int.reduceAdd, Int.reduceNeg, Int.reduceSub, Int.reduceLE, Int.reduceLT, Int.reduceToNat, Int.reduceEq, Int.reduceMul, Int.cast_ofNat_Int, Nat.zero_add, Nat.add_zero, Nat.le_refl, eq_self, ne_eq, reduceCtorEq, or_true, true_or, or_false, false_or, Bool.or_true, Bool.or_false, Bool.true_or, Bool.false_or, Nat.zero_le, Int.le_refl, Int.ofNat_zero, Int.ofNat_one, Bool.false_eq_true]
        simp only [ab_in]
        (repeat' (first | intro _ | refine And.intro ?_ ?_)) <;> (first | exact aft' _ (by assumption) (by assumption) | contradiction | omega | (exfalso; omega))
    have l0 := loop 20 1 h S (by omega) (by omega) hA ab_fr.rf rfl
    refine hV (fun p => p == 2) 80 _ _ _ _ _ _ ?_
    simp only [bI_in, bI_0, bI_1, bI_t, bI_f, bI_01, ae_iconst, ae_istore_n, dX3_bears_0, dX3_bears_1, ca_X3_bears_176, ab_wp0, ab_wps, ab_stp, ab_g, ab_st, ab_k2, ab_cl, ab_pop, ab_sz, ab_2, ab_ret, ab_f4, ab_tg, ab_I, ab_II, ab_A, ab_Rf, ab_VR, ab_IR, ab_VIR, ab_1, ab_LL, ab_DD, ab_ob, ab_pr, ab_qr, ab_ln, ab_so, ab_vI, ab_vA, ab_vD, ab_vL, ab_v2, ab_c, ab_fit, ab_rv, ab_tsw, ab_lsw, ab_up_eq, Fin.isValue, ab_f0, ab_f1, ab_f2, ab_f3, List.getElem?_cons_zero, List.getElem?_cons_succ, List.set_cons_zero, List.set_cons_succ, List.length_cons, List.length_nil, List.size_toArray, List.head?_cons, List.tail_cons, Option.map_some, cond_true, cond_false, true_and, and_true, false_and, and_false, not_true_eq_false, not_false_eq_true, true_imp_iff, false_imp_iff, if_true, if_false, ite_true, ite_false, ↓reduceIte, Nat.reduceAdd, Nat.reduceEqDiff, Nat.reduceLeDiff, Nat.reduceLT, Nat.reduceBEq, Nat.reduceBNe, Int.reduceAdd, Int.reduceNeg, Int.reduceSub, Int.reduceLE, Int.reduceLT, Int.reduceToNat, Int.reduceEq, Int.reduceMul, Int.cast_ofNat_Int, Nat.zero_add, Nat.add_zero, Nat.le_refl, eq_self, ne_eq, reduceCtorEq, or_true, true_or, or_false, false_or, Bool.or_true, Bool.or_false, Bool.true_or, Bool.false_or, Nat.zero_le, Int.le_refl, Int.ofNat_zero, Int.ofNat_one, Bool.false_eq_true]
    exact l0
  · exact hT.elim
set_option maxRecDepth 100000 in
theorem con_X3_bears (l : Launch) (D : va_G) (ty : Nat → ClassId) (base : Nat) : ab_Con l D vwCl ty lw_ts base lw_wd yX3_bears cX3_bears 3 (some .int) 4 94 0 0 Tr_X3_bears :=
  ab_con_of (own := RX3) (rt := 1) (tb := tbX3) (ini := false) (ca := ca_X3_bears) (by decide +kernel) rfl (fun h => by cases h) rfl lw_wd_ok wtbX3 lw_ar cm_X3_bears
    (fun p e R s m args below meth c K hcx => by
      obtain ⟨hx, hb, hml, hown, hF, rfl⟩ := hcx
      exact ab_lk_all (ab_all_c (ab_tc_V hx hb hml hown lw_wd_ok hF ⟨rfl, rfl⟩ (con_X1_markLifted l D ty base) rfl (lw_wi (by decide +kernel) (by decide +kernel)) (lw_wi (by decide +kernel) (by decide +kernel)) (lw_wi (by decide +kernel) (by decide +kernel)) (lw_wi (by decide +kernel) (by decide +kernel)) (lw_wi (by decide +kernel) (by decide +kernel)) (by decide +kernel) ⟨by decide, by decide⟩) (ab_all_n)))
    (by intro as h K ht; unfold Tr_X3_bears at ht; split at ht <;> first | exact ht.elim | exact Nat.le_of_ble_eq_true rfl) (sem_X3_bears base)
