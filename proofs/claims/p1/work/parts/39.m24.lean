/-! ===== SlateRoofs: the other public methods, on a fresh object ===== -/
noncomputable def TrX_X3_storm : ATr := fun as h K => match as with
  | [.inr (.inl (some a)), .inl force, .inl right, .inl what] => ab_so (ab_sr h a) fun P => (P.2 = sv0 ∧ ab_in force ∧ ab_in right ∧ ab_in what ∧ (right = 0 ∨ right = 1)) ∧ (isUpToF force 20 = true ∧ isUpToF what 2 = true → ∀ h', ab_fr h h' (a :: srL P.1) → K (some (.inl (if what = 1 then (if force < 1 then 0 else 1) else 0))) h') ∧ (isUpToF force 20 = false → K (some (.inr (.inr (.inl (1 : Int))))) h) ∧ (isUpToF force 20 = true ∧ isUpToF what 2 = false → K (some (.inr (.inr (.inl (3 : Int))))) h)
  | _ => False
def ca_X3_storm : Nat → Option ACS := ab_lk [(113, (2, 0, 2, 0, 0, Tr_X3_isUpTo)), (168, (0, 1, 2, 0, 0, Tr_X1_copyFrom)), (172, (0, 1, 3, 0, 0, Tr_X1_blow)), (146, (0, 1, 1, 0, 0, Tr_X1_coveredPlaces))]
theorem ca_X3_storm_113 : ca_X3_storm 113 = some (2, 0, 2, 0, 0, Tr_X3_isUpTo) := rfl
theorem ca_X3_storm_168 : ca_X3_storm 168 = some (0, 1, 2, 0, 0, Tr_X1_copyFrom) := rfl
theorem ca_X3_storm_172 : ca_X3_storm 172 = some (0, 1, 3, 0, 0, Tr_X1_blow) := rfl
theorem ca_X3_storm_146 : ca_X3_storm 146 = some (0, 1, 1, 0, 0, Tr_X1_coveredPlaces) := rfl
theorem cm_X3_storm : ∀ i q, ca_X3_storm i = some q → ab_moq i q := ab_lk_all (ab_all_c mo_X3_isUpTo (ab_all_c mo_X1_copyFrom (ab_all_c mo_X1_blow (ab_all_c mo_X1_coveredPlaces (ab_all_n)))))
set_option maxRecDepth 100000 in
set_option maxHeartbeats 4000000 in
theorem semx_X3_storm (base : Nat) : ab_SemX tbX3 lw_ts base cX3_storm ca_X3_storm 1 5 1 6 (fun as => ab_en as 5) TrX_X3_storm [(9, 1), (27, 3)] := by
  intro as h K hT V hV hX
  unfold TrX_X3_storm at hT
  split at hT
  · rename_i a force right what
    obtain ⟨⟨⟨⟨r, ns⟩, ⟨t, ms⟩, ⟨c, n⟩, b, q0, q1, q2, q3⟩, v9⟩, hP, ⟨hv9, hs⟩, hK⟩ := ab_so_el hT
    dsimp only at hv9
    subst hv9
    have hA := sr_el hP
    obtain ⟨D, D0, D1, D2, D3, D4⟩ := id hA
    dsimp only [sv0] at D D0 D1 D2 D3
    dsimp only at D4
    try dsimp only at hK hs
    obtain ⟨-, m0, m1, m2, m3, m4, m5, m6, m7, m8, hm9, -, e9, -⟩ := roof_el D0
    rw [r0_laid, r0_there, r0_day, r0_blown] at e9
    show V 0 [some (.inr (.inl (some a))), some (.inl force), some (.inl right), some (.inl what), none] [] h 0 0
    obtain ⟨hK0, hK1, hK2⟩ := hK
    have x9 : ∀ ls st, ab_sz st ≤ 8 → K (some (.inr (.inr (.inl (1 : Int))))) h → V 9 ls st h 0 0 := fun ls st w1 w2 => hX (9, 1) (by simp) ls st h 0 0 w1 (by decide) (by decide) w2
    have x27 : ∀ ls st, ab_sz st ≤ 8 → K (some (.inr (.inr (.inl (3 : Int))))) h → V 27 ls st h 0 0 := fun ls st w1 w2 => hX (27, 3) (by simp) ls st h 0 0 w1 (by decide) (by decide) w2
    cases hu : isUpToF force 20
    · refine hV (fun p => p == 9 || p == 19) 80 _ _ _ _ _ _ ?_
      simp only [D, hu, bI_in, bI_0, bI_1, bI_t, bI_f, bI_01, r0_laid, r0_there, r0_day, r0_blown, br_known bareR0, br_there bareR0, br_num bareR0, br_rot bareR0, br_cov bareR0, br_free bareR0, br_covPl bareR0, br_crkTh bareR0, br_allRot bareR0, Tr_X3_isUpTo, ae_bipush, ae_dup, ae_ifCond, ae_iload_n, ae_invokespecial, ae_invokestatic, ae_ldc, ae_new, dX3_storm_0, dX3_storm_1, dX3_storm_3, dX3_storm_6, dX3_storm_9, dX3_storm_12, dX3_storm_13, dX3_storm_15, dX3_storm_18, ca_X3_storm_113, ca_X3_storm_168, ca_X3_storm_172, ca_X3_storm_146, ab_wp0, ab_wps, ab_stp, ab_g, ab_st, ab_k2, ab_cl, ab_pop, ab_sz, ab_2, ab_ret, ab_f4, ab_tg, ab_I, ab_II, ab_A, ab_Rf, ab_VR, ab_IR, ab_VIR, ab_1, ab_LL, ab_DD, ab_ob, ab_pr, ab_qr, ab_ln, ab_so, ab_vI, ab_vA, ab_vD, ab_vL, ab_v2, ab_c, ab_fit, ab_rv, ab_tsw, ab_lsw, ab_up_eq, Fin.isValue, ab_f0, ab_f1, ab_f2, ab_f3, List.getElem?_cons_zero, List.getElem?_cons_succ, List.set_cons_zero, List.set_cons_succ, List.length_cons, List.length_nil, List.size_toArray, List.head?_cons, List.tail_cons, Option.map_some, cond_true, cond_false, true_and, and_true, false_and, and_false, not_true_eq_false, not_false_eq_true, true_imp_iff, false_imp_iff, if_true, if_false, ite_true, ite_false, ↓reduceIte, Nat.reduceAdd, Nat.reduceEqDiff, Nat.reduceLeDiff, Nat.reduceLT, Nat.reduceBEq, Nat.reduceBNe, Int.reduceAdd, Int.reduceNeg, Int.reduceSub, Int.reduceLE, Int.reduceLT, Int.reduceToNat, Int.reduceEq, Int.reduceMul, Int.cast_ofNat_Int, Nat.zero_add, Nat.add_zero, Nat.le_refl, eq_self, ne_eq, reduceCtorEq, or_true, true_or, or_false, false_or, Bool.or_true, Bool.or_false, Bool.true_or, Bool.false_or, Nat.zero_le, Int.le_refl, Int.ofNat_zero, Int.ofNat_one, Bool.false_eq_true]
      try simp only [ab_in] at hs ⊢
      (repeat' (first | intro _ | refine And.intro ?_ ?_)) <;> (first | exact x9 _ _ (by decide) (hK1 hu) | contradiction | omega | (exfalso; omega))
    · cases hw : isUpToF what 2
      · refine hV (fun p => p == 27 || p == 37) 80 _ _ _ _ _ _ ?_
        simp only [D, hu, hw, bI_in, bI_0, bI_1, bI_t, bI_f, bI_01, r0_laid, r0_there, r0_day, r0_blown, br_known bareR0, br_there bareR0, br_num bareR0, br_rot bareR0, br_cov bareR0, br_free bareR0, br_covPl bareR0, br_crkTh bareR0, br_allRot bareR0, Tr_X3_isUpTo, ae_bipush, ae_dup, ae_iconst, ae_ifCond, ae_iload_n, ae_invokespecial, ae_invokestatic, ae_ldc, ae_new, dX3_storm_0, dX3_storm_1, dX3_storm_3, dX3_storm_6, dX3_storm_9, dX3_storm_12, dX3_storm_13, dX3_storm_15, dX3_storm_18, dX3_storm_19, dX3_storm_20, dX3_storm_21, dX3_storm_24, dX3_storm_27, dX3_storm_30, dX3_storm_31, dX3_storm_33, dX3_storm_36, ca_X3_storm_113, ca_X3_storm_168, ca_X3_storm_172, ca_X3_storm_146, ab_wp0, ab_wps, ab_stp, ab_g, ab_st, ab_k2, ab_cl, ab_pop, ab_sz, ab_2, ab_ret, ab_f4, ab_tg, ab_I, ab_II, ab_A, ab_Rf, ab_VR, ab_IR, ab_VIR, ab_1, ab_LL, ab_DD, ab_ob, ab_pr, ab_qr, ab_ln, ab_so, ab_vI, ab_vA, ab_vD, ab_vL, ab_v2, ab_c, ab_fit, ab_rv, ab_tsw, ab_lsw, ab_up_eq, Fin.isValue, ab_f0, ab_f1, ab_f2, ab_f3, List.getElem?_cons_zero, List.getElem?_cons_succ, List.set_cons_zero, List.set_cons_succ, List.length_cons, List.length_nil, List.size_toArray, List.head?_cons, List.tail_cons, Option.map_some, cond_true, cond_false, true_and, and_true, false_and, and_false, not_true_eq_false, not_false_eq_true, true_imp_iff, false_imp_iff, if_true, if_false, ite_true, ite_false, ↓reduceIte, Nat.reduceAdd, Nat.reduceEqDiff, Nat.reduceLeDiff, Nat.reduceLT, Nat.reduceBEq, Nat.reduceBNe, Int.reduceAdd, Int.reduceNeg, Int.reduceSub, Int.reduceLE, Int.reduceLT, Int.reduceToNat, Int.reduceEq, Int.reduceMul, Int.cast_ofNat_Int, Nat.zero_add, Nat.add_zero, Nat.le_refl, eq_self, ne_eq, reduceCtorEq, or_true, true_or, or_false, false_or, Bool.or_true, Bool.or_false, Bool.true_or, Bool.false_or, Nat.zero_le, Int.le_refl, Int.ofNat_zero, Int.ofNat_one, Bool.false_eq_true]
        try simp only [ab_in] at hs ⊢
        (repeat' (first | intro _ | refine And.intro ?_ ?_)) <;> (first | exact x27 _ _ (by decide) (hK2 ⟨hu, hw⟩) | contradiction | omega | (exfalso; omega))
      · have hu2 : 0 ≤ force ∧ force ≤ 20 := of_decide_eq_true hu
        have hw2 : 0 ≤ what ∧ what ≤ 2 := of_decide_eq_true hw
        have hO := br_cp (O := roof0 96) bareR0
        have a2 : ∀ h3, srAt h3 a (((r, ns), (t, ms), (c, n), b, q0, q1, q2, q3), (roof0 96, (blowF (cpF (roof0 96) (roof0 96)) force right).2, (fun _ => 0), T00)) → ab_fr h h3 (t :: ms) → V 59 [some (.inr (.inl (some a))), some (.inl force), some (.inl right), some (.inl what), some (.inl (blowF (cpF (roof0 96) (roof0 96)) force right).1)] [] h3 0 0 := by
          intro h3 g fr
          have hB2 : bareR (blowF (cpF (roof0 96) (roof0 96)) force right).2 ∧ (blowF (cpF (roof0 96) (roof0 96)) force right).2.blown = 0 ∧ (blowF (cpF (roof0 96) (roof0 96)) force right).1 = (if force < 1 then 0 else 1) := by
            rw [br_blow hO]
            split
            · exact ⟨hO, rfl, rfl⟩
            · exact ⟨hO, rfl, rfl⟩
          revert g
          generalize blowF (cpF (roof0 96) (roof0 96)) force right = B at hB2 ⊢
          intro g
          obtain ⟨hb1, hb2, hb3⟩ := hB2
          obtain ⟨d, d0, d1, -⟩ := g
          dsimp only at d d0 d1
          obtain ⟨-, w0, w1, w2, w3, w4, w5, w6, w7, w8, w9, -, e6, -⟩ := roof_el d0
          obtain ⟨-, u0, u1, u2, u3, u4, u5, u6, u7, u8, u9, -, e5, -⟩ := roof_el d1
          rw [r0_laid, r0_there, r0_day, r0_blown] at e6
          rw [hb2] at e5
          have kk := hK0 ⟨hu, hw⟩ h3 (fr.sub (by intro q hq; simp only [srL]; exact List.mem_cons_of_mem _ (List.mem_append.mpr (Or.inr (List.mem_append.mpr (Or.inl hq))))))
          have k0 : what = 0 → K (some (.inl 0)) h3 := fun q => by rw [if_neg (by omega)] at kk; exact kk
          have k1 : what = 1 → K (some (.inl (if force < 1 then 0 else 1))) h3 := fun q => by rw [if_pos q] at kk; exact kk
          have k2 : ¬ what = 0 → ¬ what = 1 → K (some (.inl 0)) h3 := fun q q9 => by rw [if_neg q9] at kk; exact kk
          rw [hb3]
          refine hV (fun _ => false) 80 _ _ _ _ _ _ ?_
          simp only [d, d1, e6, e5, br_covPl hb1, bI_in, bI_0, bI_1, bI_t, bI_f, bI_01, Tr_X1_coveredPlaces, ae_aload_n, ae_getfield, ae_iload, ae_iload_n, ae_invokevirtual, ae_ireturn, ae_isub, ae_lookupswitch, dX3_storm_59, dX3_storm_60, dX3_storm_88, dX3_storm_89, dX3_storm_92, dX3_storm_95, dX3_storm_96, dX3_storm_99, dX3_storm_102, dX3_storm_103, dX3_storm_104, dX3_storm_106, dX3_storm_107, dX3_storm_108, dX3_storm_111, dX3_storm_114, tbX3_g12, tbX3_g149, tbX3_g16, ca_X3_storm_113, ca_X3_storm_168, ca_X3_storm_172, ca_X3_storm_146, ab_wp0, ab_wps, ab_stp, ab_g, ab_st, ab_k2, ab_cl, ab_pop, ab_sz, ab_2, ab_ret, ab_f4, ab_tg, ab_I, ab_II, ab_A, ab_Rf, ab_VR, ab_IR, ab_VIR, ab_1, ab_LL, ab_DD, ab_ob, ab_pr, ab_qr, ab_ln, ab_so, ab_vI, ab_vA, ab_vD, ab_vL, ab_v2, ab_c, ab_fit, ab_rv, ab_tsw, ab_lsw, ab_up_eq, Fin.isValue, ab_f0, ab_f1, ab_f2, ab_f3, List.getElem?_cons_zero, List.getElem?_cons_succ, List.set_cons_zero, List.set_cons_succ, List.length_cons, List.length_nil, List.size_toArray, List.head?_cons, List.tail_cons, Option.map_some, cond_true, cond_false, true_and, and_true, false_and, and_false, not_true_eq_false, not_false_eq_true, true_imp_iff, false_imp_iff, if_true, if_false, ite_true, ite_false, ↓reduceIte, Nat.reduceAdd, Nat.reduceEqDiff, Nat.reduceLeDiff, Nat.reduceLT, Nat.reduceBEq, Nat.reduceBNe, Int.reduceAdd, Int.reduceNeg, Int.reduceSub, Int.reduceLE, Int.reduceLT, Int.reduceToNat, Int.reduceEq, Int.reduceMul, Int.cast_ofNat_Int, Nat.zero_add, Nat.add_zero, Nat.le_refl, eq_self, ne_eq, reduceCtorEq, or_true, true_or, or_false, false_or, Bool.or_true, Bool.or_false, Bool.true_or, Bool.false_or, Nat.zero_le, Int.le_refl, Int.ofNat_zero, Int.ofNat_one, Bool.false_eq_true]
          try simp only [ab_in]
          (repeat' (first | intro _ | refine And.intro ?_ ?_)) <;> (first | exact k0 (by assumption) | exact k1 (by assumption) | exact k2 (by assumption) (by assumption) | exact rfl | contradiction | omega | (exfalso; omega))
        have a1 : ∀ h2, srAt h2 a (((r, ns), (t, ms), (c, n), b, q0, q1, q2, q3), (roof0 96, (cpF (roof0 96) (roof0 96)), (fun _ => 0), T00)) → ab_fr h h2 (t :: ms) → V 48 [some (.inr (.inl (some a))), some (.inl force), some (.inl right), some (.inl what), none] [] h2 0 0 := by
          intro h2 g fr
          have a2' := fun h4 q5 q6 => a2 h4 (sr_trial g q5 q6) (fr.tr q6)
          obtain ⟨d, d0, d1, -⟩ := g
          dsimp only at d d0 d1
          obtain ⟨-, u0, u1, u2, u3, u4, u5, u6, u7, u8, u9, -, e5, -⟩ := roof_el d1
          refine hV (fun p => p == 59) 80 _ _ _ _ _ _ ?_
          simp only [d, d1, e5, bI_in, bI_0, bI_1, bI_t, bI_f, bI_01, Tr_X1_blow, ae_aload_n, ae_getfield, ae_iload_n, ae_invokevirtual, ae_istore, dX3_storm_48, dX3_storm_49, dX3_storm_52, dX3_storm_53, dX3_storm_54, dX3_storm_57, tbX3_g16, ca_X3_storm_113, ca_X3_storm_168, ca_X3_storm_172, ca_X3_storm_146, ab_wp0, ab_wps, ab_stp, ab_g, ab_st, ab_k2, ab_cl, ab_pop, ab_sz, ab_2, ab_ret, ab_f4, ab_tg, ab_I, ab_II, ab_A, ab_Rf, ab_VR, ab_IR, ab_VIR, ab_1, ab_LL, ab_DD, ab_ob, ab_pr, ab_qr, ab_ln, ab_so, ab_vI, ab_vA, ab_vD, ab_vL, ab_v2, ab_c, ab_fit, ab_rv, ab_tsw, ab_lsw, ab_up_eq, Fin.isValue, ab_f0, ab_f1, ab_f2, ab_f3, List.getElem?_cons_zero, List.getElem?_cons_succ, List.set_cons_zero, List.set_cons_succ, List.length_cons, List.length_nil, List.size_toArray, List.head?_cons, List.tail_cons, Option.map_some, cond_true, cond_false, true_and, and_true, false_and, and_false, not_true_eq_false, not_false_eq_true, true_imp_iff, false_imp_iff, if_true, if_false, ite_true, ite_false, ↓reduceIte, Nat.reduceAdd, Nat.reduceEqDiff, Nat.reduceLeDiff, Nat.reduceLT, Nat.reduceBEq, Nat.reduceBNe, Int.reduceAdd, Int.reduceNeg, Int.reduceSub, Int.reduceLE, Int.reduceLT, Int.reduceToNat, Int.reduceEq, Int.reduceMul, Int.cast_ofNat_Int, Nat.zero_add, Nat.add_zero, Nat.le_refl, eq_self, ne_eq, reduceCtorEq, or_true, true_or, or_false, false_or, Bool.or_true, Bool.or_false, Bool.true_or, Bool.false_or, Nat.zero_le, Int.le_refl, Int.ofNat_zero, Int.ofNat_one, Bool.false_eq_true]
          try simp only [ab_in] at hs ⊢
          (repeat' (first | intro _ | refine And.intro ?_ ?_)) <;> (first | exact a2' _ (by assumption) (by assumption) | contradiction | omega | (exfalso; omega))
        have a1' := fun h4 q5 q6 => a1 h4 (sr_trial hA q5 q6) q6
        have hdis : ∀ q, q ∈ t :: ms → q ∈ r :: ns → False := fun q w1 w2 => D4 q w2 w1
        obtain ⟨-, u0, u1, u2, u3, u4, u5, u6, u7, u8, u9, -, e5, -⟩ := roof_el D1
        refine hV (fun p => p == 48) 80 _ _ _ _ _ _ ?_
        simp only [D, D0, D1, e9, e5, hu, hw, bI_in, bI_0, bI_1, bI_t, bI_f, bI_01, Tr_X3_isUpTo, Tr_X1_copyFrom, ae_aload_n, ae_bipush, ae_dup, ae_getfield, ae_iconst, ae_ifCond, ae_iload_n, ae_invokespecial, ae_invokestatic, ae_invokevirtual, ae_ldc, ae_new, dX3_storm_0, dX3_storm_1, dX3_storm_3, dX3_storm_6, dX3_storm_9, dX3_storm_12, dX3_storm_13, dX3_storm_15, dX3_storm_18, dX3_storm_19, dX3_storm_20, dX3_storm_21, dX3_storm_24, dX3_storm_27, dX3_storm_30, dX3_storm_31, dX3_storm_33, dX3_storm_36, dX3_storm_37, dX3_storm_38, dX3_storm_41, dX3_storm_42, dX3_storm_45, tbX3_g12, tbX3_g16, ca_X3_storm_113, ca_X3_storm_168, ca_X3_storm_172, ca_X3_storm_146, ab_wp0, ab_wps, ab_stp, ab_g, ab_st, ab_k2, ab_cl, ab_pop, ab_sz, ab_2, ab_ret, ab_f4, ab_tg, ab_I, ab_II, ab_A, ab_Rf, ab_VR, ab_IR, ab_VIR, ab_1, ab_LL, ab_DD, ab_ob, ab_pr, ab_qr, ab_ln, ab_so, ab_vI, ab_vA, ab_vD, ab_vL, ab_v2, ab_c, ab_fit, ab_rv, ab_tsw, ab_lsw, ab_up_eq, Fin.isValue, ab_f0, ab_f1, ab_f2, ab_f3, List.getElem?_cons_zero, List.getElem?_cons_succ, List.set_cons_zero, List.set_cons_succ, List.length_cons, List.length_nil, List.size_toArray, List.head?_cons, List.tail_cons, Option.map_some, cond_true, cond_false, true_and, and_true, false_and, and_false, not_true_eq_false, not_false_eq_true, true_imp_iff, false_imp_iff, if_true, if_false, ite_true, ite_false, ↓reduceIte, Nat.reduceAdd, Nat.reduceEqDiff, Nat.reduceLeDiff, Nat.reduceLT, Nat.reduceBEq, Nat.reduceBNe, Int.reduceAdd, Int.reduceNeg, Int.reduceSub, Int.reduceLE, Int.reduceLT, Int.reduceToNat, Int.reduceEq, Int.reduceMul, Int.cast_ofNat_Int, Nat.zero_add, Nat.add_zero, Nat.le_refl, eq_self, ne_eq, reduceCtorEq, or_true, true_or, or_false, false_or, Bool.or_true, Bool.or_false, Bool.true_or, Bool.false_or, Nat.zero_le, Int.le_refl, Int.ofNat_zero, Int.ofNat_one, Bool.false_eq_true]
        try simp only [ab_in] at hs ⊢
        (repeat' (first | intro _ | refine And.intro ?_ ?_)) <;> (first | exact hdis _ (by assumption) (by assumption) | exact a1' _ (by assumption) (by assumption) | contradiction | omega | (exfalso; omega))
  · exact hT.elim
set_option maxRecDepth 100000 in
theorem conx_X3_storm (l : Launch) (hl : l.stackTraces = false) (D : va_G) (ty : Nat → ClassId) (base : Nat) : ab_ConX l D vwCl ty lw_ts base lw_wd yX3_storm cX3_storm 5 (some .int) 6 117 1 6 TrX_X3_storm :=
  ab_conX_of hl (own := RX3) (rt := 1) (tb := tbX3) (ini := false) (ca := ca_X3_storm) (xs := [(9, 1), (27, 3)]) (by decide +kernel) rfl (fun h => by cases h) rfl lw_wd_ok wtbX3 lw_ar cm_X3_storm
    (fun p e R s m args below meth c K hcx => by
      obtain ⟨hx, hb, hml, hown, hF, rfl⟩ := hcx
      exact ab_lk_all (ab_all_c (ab_tc_S hx hb hml hown lw_wd_ok hF ⟨rfl, rfl⟩ (con_X3_isUpTo l D ty base) (lw_wi (by decide +kernel) (by decide +kernel)) (lw_wi (by decide +kernel) (by decide +kernel)) (lw_wi (by decide +kernel) (by decide +kernel)) (lw_wi (by decide +kernel) (by decide +kernel)) (by decide +kernel) ⟨by decide, by decide⟩) (ab_all_c (ab_tc_V hx hb hml hown lw_wd_ok hF ⟨rfl, rfl⟩ (con_X1_copyFrom l D ty base) rfl (lw_wi (by decide +kernel) (by decide +kernel)) (lw_wi (by decide +kernel) (by decide +kernel)) (lw_wi (by decide +kernel) (by decide +kernel)) (lw_wi (by decide +kernel) (by decide +kernel)) (lw_wi (by decide +kernel) (by decide +kernel)) (by decide +kernel) ⟨by decide, by decide⟩) (ab_all_c (ab_tc_V hx hb hml hown lw_wd_ok hF ⟨rfl, rfl⟩ (con_X1_blow l D ty base) rfl (lw_wi (by decide +kernel) (by decide +kernel)) (lw_wi (by decide +kernel) (by decide +kernel)) (lw_wi (by decide +kernel) (by decide +kernel)) (lw_wi (by decide +kernel) (by decide +kernel)) (lw_wi (by decide +kernel) (by decide +kernel)) (by decide +kernel) ⟨by decide, by decide⟩) (ab_all_c (ab_tc_V hx hb hml hown lw_wd_ok hF ⟨rfl, rfl⟩ (con_X1_coveredPlaces l D ty base) rfl (lw_wi (by decide +kernel) (by decide +kernel)) (lw_wi (by decide +kernel) (by decide +kernel)) (lw_wi (by decide +kernel) (by decide +kernel)) (lw_wi (by decide +kernel) (by decide +kernel)) (lw_wi (by decide +kernel) (by decide +kernel)) (by decide +kernel) ⟨by decide, by decide⟩) (ab_all_n))))))
    (by intro as h K ht; unfold TrX_X3_storm at ht; split at ht <;> first | exact ht.elim | exact Nat.le_of_ble_eq_true rfl)
    (List.forall_mem_cons.mpr ⟨⟨Or.inl rfl, 41, 155, 45, "no such force", dX3_storm_9, dX3_storm_12, dX3_storm_13, dX3_storm_15, dX3_storm_18, (lw_wi (by decide +kernel) (by decide +kernel)), (lw_wi (by decide +kernel) (by decide +kernel)), (lw_wi (by decide +kernel) (by decide +kernel)), lw_wa (by decide +kernel) (by decide +kernel), by decide +kernel⟩, List.forall_mem_cons.mpr ⟨⟨Or.inr (Or.inr rfl), 70, 166, 74, "nothing to tell by this number", dX3_storm_27, dX3_storm_30, dX3_storm_31, dX3_storm_33, dX3_storm_36, (lw_wi (by decide +kernel) (by decide +kernel)), (lw_wi (by decide +kernel) (by decide +kernel)), (lw_wi (by decide +kernel) (by decide +kernel)), lw_wa (by decide +kernel) (by decide +kernel), by decide +kernel⟩, fun _ h => absurd h List.not_mem_nil⟩⟩) ⟨by decide, by decide⟩ (by decide) (semx_X3_storm base)
noncomputable def TrX_X3_foresee : ATr := fun as h K => match as with
  | [.inr (.inl (some a)), .inl days, .inl what] => ab_so (ab_sr h a) fun P => (P.2 = sv0 ∧ ab_in days ∧ ab_in what) ∧ (decide (1 ≤ days ∧ days ≤ 60) = true ∧ isUpToF what 2 = true → ∀ h', ab_fr h h' (a :: srL P.1) → K (some (.inl (0))) h') ∧ (decide (1 ≤ days ∧ days ≤ 60) = false → K (some (.inr (.inr (.inl (1 : Int))))) h) ∧ (decide (1 ≤ days ∧ days ≤ 60) = true ∧ isUpToF what 2 = false → K (some (.inr (.inr (.inl (3 : Int))))) h)
  | _ => False
def ca_X3_foresee : Nat → Option ACS := ab_lk [(199, (2, 0, 1, 0, 0, Tr_X3_isDays)), (113, (2, 0, 2, 0, 0, Tr_X3_isUpTo)), (168, (0, 1, 2, 0, 0, Tr_X1_copyFrom)), (204, (0, 3, 3, 0, 0, Tr_X3_letGoBy)), (142, (0, 1, 1, 0, 0, Tr_X1_crackedThere)), (152, (0, 1, 1, 0, 0, Tr_X1_allRot))]
theorem ca_X3_foresee_199 : ca_X3_foresee 199 = some (2, 0, 1, 0, 0, Tr_X3_isDays) := rfl
theorem ca_X3_foresee_113 : ca_X3_foresee 113 = some (2, 0, 2, 0, 0, Tr_X3_isUpTo) := rfl
theorem ca_X3_foresee_168 : ca_X3_foresee 168 = some (0, 1, 2, 0, 0, Tr_X1_copyFrom) := rfl
theorem ca_X3_foresee_204 : ca_X3_foresee 204 = some (0, 3, 3, 0, 0, Tr_X3_letGoBy) := rfl
theorem ca_X3_foresee_142 : ca_X3_foresee 142 = some (0, 1, 1, 0, 0, Tr_X1_crackedThere) := rfl
theorem ca_X3_foresee_152 : ca_X3_foresee 152 = some (0, 1, 1, 0, 0, Tr_X1_allRot) := rfl
theorem cm_X3_foresee : ∀ i q, ca_X3_foresee i = some q → ab_moq i q := ab_lk_all (ab_all_c mo_X3_isDays (ab_all_c mo_X3_isUpTo (ab_all_c mo_X1_copyFrom (ab_all_c mo_X3_letGoBy (ab_all_c mo_X1_crackedThere (ab_all_c mo_X1_allRot (ab_all_n)))))))
set_option maxRecDepth 100000 in
set_option maxHeartbeats 4000000 in
theorem semx_X3_foresee (base : Nat) : ab_SemX tbX3 lw_ts base cX3_foresee ca_X3_foresee 1 3 1 6 (fun as => ab_en as 3) TrX_X3_foresee [(7, 1), (25, 3)] := by
  intro as h K hT V hV hX
  unfold TrX_X3_foresee at hT
  split at hT
  · rename_i a days what
    obtain ⟨⟨⟨⟨r, ns⟩, ⟨t, ms⟩, ⟨c, n⟩, b, q0, q1, q2, q3⟩, v9⟩, hP, ⟨hv9, hs⟩, hK⟩ := ab_so_el hT
    dsimp only at hv9
    subst hv9
    have hA := sr_el hP
    obtain ⟨D, D0, D1, D2, D3, D4⟩ := id hA
    dsimp only [sv0] at D D0 D1 D2 D3
    dsimp only at D4
    try dsimp only at hK hs
    obtain ⟨-, m0, m1, m2, m3, m4, m5, m6, m7, m8, hm9, -, e9, -⟩ := roof_el D0
    rw [r0_laid, r0_there, r0_day, r0_blown] at e9
    show V 0 [some (.inr (.inl (some a))), some (.inl days), some (.inl what)] [] h 0 0
    obtain ⟨hK0, hK1, hK2⟩ := hK
    have x7 : ∀ ls st, ab_sz st ≤ 8 → K (some (.inr (.inr (.inl (1 : Int))))) h → V 7 ls st h 0 0 := fun ls st w1 w2 => hX (7, 1) (by simp) ls st h 0 0 w1 (by decide) (by decide) w2
    have x25 : ∀ ls st, ab_sz st ≤ 8 → K (some (.inr (.inr (.inl (3 : Int))))) h → V 25 ls st h 0 0 := fun ls st w1 w2 => hX (25, 3) (by simp) ls st h 0 0 w1 (by decide) (by decide) w2
    cases hd : decide (1 ≤ days ∧ days ≤ 60)
    · refine hV (fun p => p == 7 || p == 17) 80 _ _ _ _ _ _ ?_
      simp only [D, hd, bI_in, bI_0, bI_1, bI_t, bI_f, bI_01, r0_laid, r0_there, r0_day, r0_blown, br_known bareR0, br_there bareR0, br_num bareR0, br_rot bareR0, br_cov bareR0, br_free bareR0, br_covPl bareR0, br_crkTh bareR0, br_allRot bareR0, Tr_X3_isDays, ae_dup, ae_ifCond, ae_iload_n, ae_invokespecial, ae_invokestatic, ae_ldc, ae_new, dX3_foresee_0, dX3_foresee_1, dX3_foresee_4, dX3_foresee_7, dX3_foresee_10, dX3_foresee_11, dX3_foresee_13, dX3_foresee_16, ca_X3_foresee_199, ca_X3_foresee_113, ca_X3_foresee_168, ca_X3_foresee_204, ca_X3_foresee_142, ca_X3_foresee_152, ab_wp0, ab_wps, ab_stp, ab_g, ab_st, ab_k2, ab_cl, ab_pop, ab_sz, ab_2, ab_ret, ab_f4, ab_tg, ab_I, ab_II, ab_A, ab_Rf, ab_VR, ab_IR, ab_VIR, ab_1, ab_LL, ab_DD, ab_ob, ab_pr, ab_qr, ab_ln, ab_so, ab_vI, ab_vA, ab_vD, ab_vL, ab_v2, ab_c, ab_fit, ab_rv, ab_tsw, ab_lsw, ab_up_eq, Fin.isValue, ab_f0, ab_f1, ab_f2, ab_f3, List.getElem?_cons_zero, List.getElem?_cons_succ, List.set_cons_zero, List.set_cons_succ, List.length_cons, List.length_nil, List.size_toArray, List.head?_cons, List.tail_cons, Option.map_some, cond_true, cond_false, true_and, and_true, false_and, and_false, not_true_eq_false, not_false_eq_true, true_imp_iff, false_imp_iff, if_true, if_false, ite_true, ite_false, ↓reduceIte, Nat.reduceAdd, Nat.reduceEqDiff, Nat.reduceLeDiff, Nat.reduceLT, Nat.reduceBEq, Nat.reduceBNe, Int.reduceAdd, Int.reduceNeg, Int.reduceSub, Int.reduceLE, Int.reduceLT, Int.reduceToNat, Int.reduceEq, Int.reduceMul, Int.cast_ofNat_Int, Nat.zero_add, Nat.add_zero, Nat.le_refl, eq_self, ne_eq, reduceCtorEq, or_true, true_or, or_false, false_or, Bool.or_true, Bool.or_false, Bool.true_or, Bool.false_or, Nat.zero_le, Int.le_refl, Int.ofNat_zero, Int.ofNat_one, Bool.false_eq_true]
      try simp only [ab_in] at hs ⊢
      (repeat' (first | intro _ | refine And.intro ?_ ?_)) <;> (first | exact x7 _ _ (by decide) (hK1 hd) | contradiction | omega | (exfalso; omega))
    · cases hw : isUpToF what 2
      · refine hV (fun p => p == 25 || p == 35) 80 _ _ _ _ _ _ ?_
        simp only [D, hd, hw, bI_in, bI_0, bI_1, bI_t, bI_f, bI_01, r0_laid, r0_there, r0_day, r0_blown, br_known bareR0, br_there bareR0, br_num bareR0, br_rot bareR0, br_cov bareR0, br_free bareR0, br_covPl bareR0, br_crkTh bareR0, br_allRot bareR0, Tr_X3_isDays, Tr_X3_isUpTo, ae_dup, ae_iconst, ae_ifCond, ae_iload_n, ae_invokespecial, ae_invokestatic, ae_ldc, ae_new, dX3_foresee_0, dX3_foresee_1, dX3_foresee_4, dX3_foresee_7, dX3_foresee_10, dX3_foresee_11, dX3_foresee_13, dX3_foresee_16, dX3_foresee_17, dX3_foresee_18, dX3_foresee_19, dX3_foresee_22, dX3_foresee_25, dX3_foresee_28, dX3_foresee_29, dX3_foresee_31, dX3_foresee_34, ca_X3_foresee_199, ca_X3_foresee_113, ca_X3_foresee_168, ca_X3_foresee_204, ca_X3_foresee_142, ca_X3_foresee_152, ab_wp0, ab_wps, ab_stp, ab_g, ab_st, ab_k2, ab_cl, ab_pop, ab_sz, ab_2, ab_ret, ab_f4, ab_tg, ab_I, ab_II, ab_A, ab_Rf, ab_VR, ab_IR, ab_VIR, ab_1, ab_LL, ab_DD, ab_ob, ab_pr, ab_qr, ab_ln, ab_so, ab_vI, ab_vA, ab_vD, ab_vL, ab_v2, ab_c, ab_fit, ab_rv, ab_tsw, ab_lsw, ab_up_eq, Fin.isValue, ab_f0, ab_f1, ab_f2, ab_f3, List.getElem?_cons_zero, List.getElem?_cons_succ, List.set_cons_zero, List.set_cons_succ, List.length_cons, List.length_nil, List.size_toArray, List.head?_cons, List.tail_cons, Option.map_some, cond_true, cond_false, true_and, and_true, false_and, and_false, not_true_eq_false, not_false_eq_true, true_imp_iff, false_imp_iff, if_true, if_false, ite_true, ite_false, ↓reduceIte, Nat.reduceAdd, Nat.reduceEqDiff, Nat.reduceLeDiff, Nat.reduceLT, Nat.reduceBEq, Nat.reduceBNe, Int.reduceAdd, Int.reduceNeg, Int.reduceSub, Int.reduceLE, Int.reduceLT, Int.reduceToNat, Int.reduceEq, Int.reduceMul, Int.cast_ofNat_Int, Nat.zero_add, Nat.add_zero, Nat.le_refl, eq_self, ne_eq, reduceCtorEq, or_true, true_or, or_false, false_or, Bool.or_true, Bool.or_false, Bool.true_or, Bool.false_or, Nat.zero_le, Int.le_refl, Int.ofNat_zero, Int.ofNat_one, Bool.false_eq_true]
        try simp only [ab_in] at hs ⊢
        (repeat' (first | intro _ | refine And.intro ?_ ?_)) <;> (first | exact x25 _ _ (by decide) (hK2 ⟨hd, hw⟩) | contradiction | omega | (exfalso; omega))
      · have hd2 : 1 ≤ days ∧ days ≤ 60 := of_decide_eq_true hd
        have hw2 : 0 ≤ what ∧ what ≤ 2 := of_decide_eq_true hw
        have hO := br_cp (O := roof0 96) bareR0
        have a2 : ∀ h3, h3 a = h a → ab_roof h3 t = some (ms, (goL T00 days.toNat ((fun _ => 0), (cpF (roof0 96) (roof0 96)))).2) → ab_fr h h3 ((t :: ms) ++ [c, n]) → V 55 [some (.inr (.inl (some a))), some (.inl days), some (.inl what)] [] h3 0 0 := by
          intro h3 d d1 fr
          rw [D] at d
          obtain ⟨hb1, hb2, -⟩ := br_goL days.toNat (fun _ => 0) (cpF (roof0 96) (roof0 96)) hO
          obtain ⟨-, u0, u1, u2, u3, u4, u5, u6, u7, u8, u9, -, e5, -⟩ := roof_el d1
          rw [hb2, show (cpF (roof0 96) (roof0 96)).there = 0 from rfl] at e5
          have kk := hK0 ⟨hd, hw⟩ h3 (fr.sub (by
            intro q hq
            simp only [srL]
            refine List.mem_cons_of_mem _ (List.mem_append.mpr (Or.inr ?_))
            rcases List.mem_append.mp hq with hq | hq
            · exact List.mem_append.mpr (Or.inl hq)
            · refine List.mem_append.mpr (Or.inr ?_)
              simp only [List.mem_cons, List.not_mem_nil, or_false] at hq ⊢
              rcases hq with rfl | rfl
              · exact Or.inl rfl
              · exact Or.inr (Or.inl rfl)))
          refine hV (fun _ => false) 80 _ _ _ _ _ _ ?_
          simp only [d, d1, e5, br_crkTh hb1, br_allRot hb1, bI_in, bI_0, bI_1, bI_t, bI_f, bI_01, Tr_X1_crackedThere, Tr_X1_allRot, ae_aload_n, ae_getfield, ae_iload_n, ae_invokevirtual, ae_ireturn, ae_lookupswitch, dX3_foresee_55, dX3_foresee_56, dX3_foresee_84, dX3_foresee_85, dX3_foresee_88, dX3_foresee_91, dX3_foresee_92, dX3_foresee_93, dX3_foresee_96, dX3_foresee_99, dX3_foresee_100, dX3_foresee_101, dX3_foresee_104, dX3_foresee_107, tbX3_g16, tbX3_g48, ca_X3_foresee_199, ca_X3_foresee_113, ca_X3_foresee_168, ca_X3_foresee_204, ca_X3_foresee_142, ca_X3_foresee_152, ab_wp0, ab_wps, ab_stp, ab_g, ab_st, ab_k2, ab_cl, ab_pop, ab_sz, ab_2, ab_ret, ab_f4, ab_tg, ab_I, ab_II, ab_A, ab_Rf, ab_VR, ab_IR, ab_VIR, ab_1, ab_LL, ab_DD, ab_ob, ab_pr, ab_qr, ab_ln, ab_so, ab_vI, ab_vA, ab_vD, ab_vL, ab_v2, ab_c, ab_fit, ab_rv, ab_tsw, ab_lsw, ab_up_eq, Fin.isValue, ab_f0, ab_f1, ab_f2, ab_f3, List.getElem?_cons_zero, List.getElem?_cons_succ, List.set_cons_zero, List.set_cons_succ, List.length_cons, List.length_nil, List.size_toArray, List.head?_cons, List.tail_cons, Option.map_some, cond_true, cond_false, true_and, and_true, false_and, and_false, not_true_eq_false, not_false_eq_true, true_imp_iff, false_imp_iff, if_true, if_false, ite_true, ite_false, ↓reduceIte, Nat.reduceAdd, Nat.reduceEqDiff, Nat.reduceLeDiff, Nat.reduceLT, Nat.reduceBEq, Nat.reduceBNe, Int.reduceAdd, Int.reduceNeg, Int.reduceSub, Int.reduceLE, Int.reduceLT, Int.reduceToNat, Int.reduceEq, Int.reduceMul, Int.cast_ofNat_Int, Nat.zero_add, Nat.add_zero, Nat.le_refl, eq_self, ne_eq, reduceCtorEq, or_true, true_or, or_false, false_or, Bool.or_true, Bool.or_false, Bool.true_or, Bool.false_or, Nat.zero_le, Int.le_refl, Int.ofNat_zero, Int.ofNat_one, Bool.false_eq_true]
          try simp only [ab_in]
          (repeat' (first | intro _ | refine And.intro ?_ ?_)) <;> (first | exact kk | exact rfl | contradiction | omega | (exfalso; omega))
        have a1 : ∀ h2, srAt h2 a (((r, ns), (t, ms), (c, n), b, q0, q1, q2, q3), (roof0 96, (cpF (roof0 96) (roof0 96)), (fun _ => 0), T00)) → ab_fr h h2 (t :: ms) → V 46 [some (.inr (.inl (some a))), some (.inl days), some (.inl what)] [] h2 0 0 := by
          intro h2 g fr
          have hsr := sr_of g
          obtain ⟨d, d0, d1, d2, -⟩ := g
          dsimp only at d d0 d1 d2
          have a2' : ∀ h4, ab_roof h4 t = some (ms, (goL T00 days.toNat ((fun _ => 0), (cpF (roof0 96) (roof0 96)))).2) → ab_fr h2 h4 ((t :: ms) ++ [c, n]) → V 55 [some (.inr (.inl (some a))), some (.inl days), some (.inl what)] [] h4 0 0 := fun h4 q5 q6 => a2 h4 (by
            rw [q6 a (fun hm => (List.mem_append.mp hm).elim (fun w => obj_roof d d1 w) (fun w => obj_cov d d2 w))]
            exact d.trans D.symm) q5 ((fr.sub (fun q hq => List.mem_append.mpr (Or.inl hq))).tr q6)
          have hday : ((cpF (roof0 96) (roof0 96))).day = 0 := rfl
          refine hV (fun p => p == 55) 80 _ _ _ _ _ _ ?_
          simp only [d, d1, hsr, hday, bI_in, bI_0, bI_1, bI_t, bI_f, bI_01, Tr_X3_letGoBy, ae_aload_n, ae_getfield, ae_iload_n, ae_invokevirtual, dX3_foresee_46, dX3_foresee_47, dX3_foresee_48, dX3_foresee_51, dX3_foresee_52, tbX3_g16, ca_X3_foresee_199, ca_X3_foresee_113, ca_X3_foresee_168, ca_X3_foresee_204, ca_X3_foresee_142, ca_X3_foresee_152, ab_wp0, ab_wps, ab_stp, ab_g, ab_st, ab_k2, ab_cl, ab_pop, ab_sz, ab_2, ab_ret, ab_f4, ab_tg, ab_I, ab_II, ab_A, ab_Rf, ab_VR, ab_IR, ab_VIR, ab_1, ab_LL, ab_DD, ab_ob, ab_pr, ab_qr, ab_ln, ab_so, ab_vI, ab_vA, ab_vD, ab_vL, ab_v2, ab_c, ab_fit, ab_rv, ab_tsw, ab_lsw, ab_up_eq, Fin.isValue, ab_f0, ab_f1, ab_f2, ab_f3, List.getElem?_cons_zero, List.getElem?_cons_succ, List.set_cons_zero, List.set_cons_succ, List.length_cons, List.length_nil, List.size_toArray, List.head?_cons, List.tail_cons, Option.map_some, cond_true, cond_false, true_and, and_true, false_and, and_false, not_true_eq_false, not_false_eq_true, true_imp_iff, false_imp_iff, if_true, if_false, ite_true, ite_false, ↓reduceIte, Nat.reduceAdd, Nat.reduceEqDiff, Nat.reduceLeDiff, Nat.reduceLT, Nat.reduceBEq, Nat.reduceBNe, Int.reduceAdd, Int.reduceNeg, Int.reduceSub, Int.reduceLE, Int.reduceLT, Int.reduceToNat, Int.reduceEq, Int.reduceMul, Int.cast_ofNat_Int, Nat.zero_add, Nat.add_zero, Nat.le_refl, eq_self, ne_eq, reduceCtorEq, or_true, true_or, or_false, false_or, Bool.or_true, Bool.or_false, Bool.true_or, Bool.false_or, Nat.zero_le, Int.le_refl, Int.ofNat_zero, Int.ofNat_one, Bool.false_eq_true]
          try simp only [ab_in] at hs ⊢
          (repeat' (first | intro _ | refine And.intro ?_ ?_)) <;> (first | exact a2' _ (by assumption) (by assumption) | contradiction | omega | (exfalso; omega))
        have a1' := fun h4 q5 q6 => a1 h4 (sr_trial hA q5 q6) q6
        have hdis : ∀ q, q ∈ t :: ms → q ∈ r :: ns → False := fun q w1 w2 => D4 q w2 w1
        obtain ⟨-, u0, u1, u2, u3, u4, u5, u6, u7, u8, u9, -, e5, -⟩ := roof_el D1
        refine hV (fun p => p == 46) 80 _ _ _ _ _ _ ?_
        simp only [D, D0, D1, e9, e5, hd, hw, bI_in, bI_0, bI_1, bI_t, bI_f, bI_01, Tr_X3_isUpTo, Tr_X3_isDays, Tr_X1_copyFrom, ae_aload_n, ae_dup, ae_getfield, ae_iconst, ae_ifCond, ae_iload_n, ae_invokespecial, ae_invokestatic, ae_invokevirtual, ae_ldc, ae_new, dX3_foresee_0, dX3_foresee_1, dX3_foresee_4, dX3_foresee_7, dX3_foresee_10, dX3_foresee_11, dX3_foresee_13, dX3_foresee_16, dX3_foresee_17, dX3_foresee_18, dX3_foresee_19, dX3_foresee_22, dX3_foresee_25, dX3_foresee_28, dX3_foresee_29, dX3_foresee_31, dX3_foresee_34, dX3_foresee_35, dX3_foresee_36, dX3_foresee_39, dX3_foresee_40, dX3_foresee_43, tbX3_g12, tbX3_g16, ca_X3_foresee_199, ca_X3_foresee_113, ca_X3_foresee_168, ca_X3_foresee_204, ca_X3_foresee_142, ca_X3_foresee_152, ab_wp0, ab_wps, ab_stp, ab_g, ab_st, ab_k2, ab_cl, ab_pop, ab_sz, ab_2, ab_ret, ab_f4, ab_tg, ab_I, ab_II, ab_A, ab_Rf, ab_VR, ab_IR, ab_VIR, ab_1, ab_LL, ab_DD, ab_ob, ab_pr, ab_qr, ab_ln, ab_so, ab_vI, ab_vA, ab_vD, ab_vL, ab_v2, ab_c, ab_fit, ab_rv, ab_tsw, ab_lsw, ab_up_eq, Fin.isValue, ab_f0, ab_f1, ab_f2, ab_f3, List.getElem?_cons_zero, List.getElem?_cons_succ, List.set_cons_zero, List.set_cons_succ, List.length_cons, List.length_nil, List.size_toArray, List.head?_cons, List.tail_cons, Option.map_some, cond_true, cond_false, true_and, and_true, false_and, and_false, not_true_eq_false, not_false_eq_true, true_imp_iff, false_imp_iff, if_true, if_false, ite_true, ite_false, ↓reduceIte, Nat.reduceAdd, Nat.reduceEqDiff, Nat.reduceLeDiff, Nat.reduceLT, Nat.reduceBEq, Nat.reduceBNe, Int.reduceAdd, Int.reduceNeg, Int.reduceSub, Int.reduceLE, Int.reduceLT, Int.reduceToNat, Int.reduceEq, Int.reduceMul, Int.cast_ofNat_Int, Nat.zero_add, Nat.add_zero, Nat.le_refl, eq_self, ne_eq, reduceCtorEq, or_true, true_or, or_false, false_or, Bool.or_true, Bool.or_false, Bool.true_or, Bool.false_or, Nat.zero_le, Int.le_refl, Int.ofNat_zero, Int.ofNat_one, Bool.false_eq_true]
        try simp only [ab_in] at hs ⊢
        (repeat' (first | intro _ | refine And.intro ?_ ?_)) <;> (first | exact hdis _ (by assumption) (by assumption) | exact a1' _ (by assumption) (by assumption) | contradiction | omega | (exfalso; omega))
  · exact hT.elim
set_option maxRecDepth 100000 in
theorem conx_X3_foresee (l : Launch) (hl : l.stackTraces = false) (D : va_G) (ty : Nat → ClassId) (base : Nat) : ab_ConX l D vwCl ty lw_ts base lw_wd yX3_foresee cX3_foresee 3 (some .int) 6 141 1 6 TrX_X3_foresee :=
  ab_conX_of hl (own := RX3) (rt := 1) (tb := tbX3) (ini := false) (ca := ca_X3_foresee) (xs := [(7, 1), (25, 3)]) (by decide +kernel) rfl (fun h => by cases h) rfl lw_wd_ok wtbX3 lw_ar cm_X3_foresee
    (fun p e R s m args below meth c K hcx => by
      obtain ⟨hx, hb, hml, hown, hF, rfl⟩ := hcx
      exact ab_lk_all (ab_all_c (ab_tc_S hx hb hml hown lw_wd_ok hF ⟨rfl, rfl⟩ (con_X3_isDays l D ty base) (lw_wi (by decide +kernel) (by decide +kernel)) (lw_wi (by decide +kernel) (by decide +kernel)) (lw_wi (by decide +kernel) (by decide +kernel)) (lw_wi (by decide +kernel) (by decide +kernel)) (by decide +kernel) ⟨by decide, by decide⟩) (ab_all_c (ab_tc_S hx hb hml hown lw_wd_ok hF ⟨rfl, rfl⟩ (con_X3_isUpTo l D ty base) (lw_wi (by decide +kernel) (by decide +kernel)) (lw_wi (by decide +kernel) (by decide +kernel)) (lw_wi (by decide +kernel) (by decide +kernel)) (lw_wi (by decide +kernel) (by decide +kernel)) (by decide +kernel) ⟨by decide, by decide⟩) (ab_all_c (ab_tc_V hx hb hml hown lw_wd_ok hF ⟨rfl, rfl⟩ (con_X1_copyFrom l D ty base) rfl (lw_wi (by decide +kernel) (by decide +kernel)) (lw_wi (by decide +kernel) (by decide +kernel)) (lw_wi (by decide +kernel) (by decide +kernel)) (lw_wi (by decide +kernel) (by decide +kernel)) (lw_wi (by decide +kernel) (by decide +kernel)) (by decide +kernel) ⟨by decide, by decide⟩) (ab_all_c (ab_tc_V hx hb hml hown lw_wd_ok hF ⟨rfl, rfl⟩ (con_X3_letGoBy l D ty base) rfl (lw_wi (by decide +kernel) (by decide +kernel)) (lw_wi (by decide +kernel) (by decide +kernel)) (lw_wi (by decide +kernel) (by decide +kernel)) (lw_wi (by decide +kernel) (by decide +kernel)) (lw_wi (by decide +kernel) (by decide +kernel)) (by decide +kernel) ⟨by decide, by decide⟩) (ab_all_c (ab_tc_V hx hb hml hown lw_wd_ok hF ⟨rfl, rfl⟩ (con_X1_crackedThere l D ty base) rfl (lw_wi (by decide +kernel) (by decide +kernel)) (lw_wi (by decide +kernel) (by decide +kernel)) (lw_wi (by decide +kernel) (by decide +kernel)) (lw_wi (by decide +kernel) (by decide +kernel)) (lw_wi (by decide +kernel) (by decide +kernel)) (by decide +kernel) ⟨by decide, by decide⟩) (ab_all_c (ab_tc_V hx hb hml hown lw_wd_ok hF ⟨rfl, rfl⟩ (con_X1_allRot l D ty base) rfl (lw_wi (by decide +kernel) (by decide +kernel)) (lw_wi (by decide +kernel) (by decide +kernel)) (lw_wi (by decide +kernel) (by decide +kernel)) (lw_wi (by decide +kernel) (by decide +kernel)) (lw_wi (by decide +kernel) (by decide +kernel)) (by decide +kernel) ⟨by decide, by decide⟩) (ab_all_n))))))))
    (by intro as h K ht; unfold TrX_X3_foresee at ht; split at ht <;> first | exact ht.elim | exact Nat.le_of_ble_eq_true rfl)
    (List.forall_mem_cons.mpr ⟨⟨Or.inl rfl, 41, 202, 45, "days are 1 to 60", dX3_foresee_7, dX3_foresee_10, dX3_foresee_11, dX3_foresee_13, dX3_foresee_16, (lw_wi (by decide +kernel) (by decide +kernel)), (lw_wi (by decide +kernel) (by decide +kernel)), (lw_wi (by decide +kernel) (by decide +kernel)), lw_wa (by decide +kernel) (by decide +kernel), by decide +kernel⟩, List.forall_mem_cons.mpr ⟨⟨Or.inr (Or.inr rfl), 70, 208, 74, "nothing to foresee by this number", dX3_foresee_25, dX3_foresee_28, dX3_foresee_29, dX3_foresee_31, dX3_foresee_34, (lw_wi (by decide +kernel) (by decide +kernel)), (lw_wi (by decide +kernel) (by decide +kernel)), (lw_wi (by decide +kernel) (by decide +kernel)), lw_wa (by decide +kernel) (by decide +kernel), by decide +kernel⟩, fun _ h => absurd h List.not_mem_nil⟩⟩) ⟨by decide, by decide⟩ (by decide) (semx_X3_foresee base)
noncomputable def TrX_X3_leaks : ATr := fun as h K => match as with
  | [.inr (.inl (some a)), .inl rain] => ab_so (ab_sr h a) fun P => (P.2 = sv0 ∧ ab_in rain) ∧ (isUpToF rain 9 = true → ∀ h', ab_fr h h' (a :: srL P.1) → K (some (.inl (allIF rain))) h') ∧ (isUpToF rain 9 = false → K (some (.inr (.inr (.inl (1 : Int))))) h)
  | _ => False
/- -/
set_option maxRecDepth 100000 in
set_option maxHeartbeats 4000000 in
theorem semx_X3_leaks (base : Nat) : ab_SemX tbX3 lw_ts base cX3_leaks ca_X3_leaks 1 2 1 6 (fun as => ab_en as 2) TrX_X3_leaks [(9, 1)] := by
  intro as h K hT V hV hX
  unfold TrX_X3_leaks at hT
  split at hT
  · rename_i a rain
    obtain ⟨⟨⟨⟨r, ns⟩, ⟨t, ms⟩, ⟨c, n⟩, b, q0, q1, q2, q3⟩, v9⟩, hP, ⟨hv9, hs⟩, hK⟩ := ab_so_el hT
    dsimp only at hv9
    subst hv9
    have hA := sr_el hP
    obtain ⟨D, D0, D1, D2, D3, D4⟩ := id hA
    dsimp only [sv0] at D D0 D1 D2 D3
    dsimp only at D4
    try dsimp only at hK hs
    obtain ⟨-, m0, m1, m2, m3, m4, m5, m6, m7, m8, hm9, -, e9, -⟩ := roof_el D0
    rw [r0_laid, r0_there, r0_day, r0_blown] at e9
    show V 0 [some (.inr (.inl (some a))), some (.inl rain)] [] h 0 0
    obtain ⟨hK0, hK1⟩ := hK
    have x9 : ∀ ls st, ab_sz st ≤ 8 → K (some (.inr (.inr (.inl (1 : Int))))) h → V 9 ls st h 0 0 := fun ls st w1 w2 => hX (9, 1) (by simp) ls st h 0 0 w1 (by decide) (by decide) w2
    cases hu : isUpToF rain 9
    · refine hV (fun p => p == 9 || p == 19) 80 _ _ _ _ _ _ ?_
      simp only [D, hu, bI_in, bI_0, bI_1, bI_t, bI_f, bI_01, r0_laid, r0_there, r0_day, r0_blown, br_known bareR0, br_there bareR0, br_num bareR0, br_rot bareR0, br_cov bareR0, br_free bareR0, br_covPl bareR0, br_crkTh bareR0, br_allRot bareR0, Tr_X3_isUpTo, ae_bipush, ae_dup, ae_ifCond, ae_iload_n, ae_invokespecial, ae_invokestatic, ae_ldc, ae_new, dX3_leaks_0, dX3_leaks_1, dX3_leaks_3, dX3_leaks_6, dX3_leaks_9, dX3_leaks_12, dX3_leaks_13, dX3_leaks_15, dX3_leaks_18, ca_X3_leaks_113, ca_X3_leaks_181, ca_X3_leaks_188, ab_wp0, ab_wps, ab_stp, ab_g, ab_st, ab_k2, ab_cl, ab_pop, ab_sz, ab_2, ab_ret, ab_f4, ab_tg, ab_I, ab_II, ab_A, ab_Rf, ab_VR, ab_IR, ab_VIR, ab_1, ab_LL, ab_DD, ab_ob, ab_pr, ab_qr, ab_ln, ab_so, ab_vI, ab_vA, ab_vD, ab_vL, ab_v2, ab_c, ab_fit, ab_rv, ab_tsw, ab_lsw, ab_up_eq, Fin.isValue, ab_f0, ab_f1, ab_f2, ab_f3, List.getElem?_cons_zero, List.getElem?_cons_succ, List.set_cons_zero, List.set_cons_succ, List.length_cons, List.length_nil, List.size_toArray, List.head?_cons, List.tail_cons, Option.map_some, cond_true, cond_false, true_and, and_true, false_and, and_false, not_true_eq_false, not_false_eq_true, true_imp_iff, false_imp_iff, if_true, if_false, ite_true, ite_false, ↓reduceIte, Nat.reduceAdd, Nat.reduceEqDiff, Nat.reduceLeDiff, Nat.reduceLT, Nat.reduceBEq, Nat.reduceBNe, Int.reduceAdd, Int.reduceNeg, Int.reduceSub, Int.reduceLE, Int.reduceLT, Int.reduceToNat, Int.reduceEq, Int.reduceMul, Int.cast_ofNat_Int, Nat.zero_add, Nat.add_zero, Nat.le_refl, eq_self, ne_eq, reduceCtorEq, or_true, true_or, or_false, false_or, Bool.or_true, Bool.or_false, Bool.true_or, Bool.false_or, Nat.zero_le, Int.le_refl, Int.ofNat_zero, Int.ofNat_one, Bool.false_eq_true]
      try simp only [ab_in] at hs ⊢
      (repeat' (first | intro _ | refine And.intro ?_ ?_)) <;> (first | exact x9 _ _ (by decide) (hK1 hu) | contradiction | omega | (exfalso; omega))
    · have hu2 : 0 ≤ rain ∧ rain ≤ 9 := of_decide_eq_true hu
      refine ab_sem_rm cm_X3_leaks (Nat.zero_le _) (Nat.zero_le _) (sem_X3_leaks base) [.inr (.inl (some a)), .inl rain] h K ?_ V hV
      unfold Tr_X3_leaks
      simp only [hP, ab_so]
      refine ⟨hu2, fun h' e1 e2 => ?_⟩
      have kk := hK0 hu h' (e2.sub (by intro q hq; simp only [srL]; refine List.mem_cons_of_mem _ (List.mem_append.mpr (Or.inr (List.mem_append.mpr (Or.inr ?_)))); simp only [List.mem_cons, List.not_mem_nil, or_false] at hq ⊢; rcases hq with rfl | rfl; exact Or.inl rfl; exact Or.inr (Or.inl rfl)))
      rw [← allIF_eq hu2, ← br_inAll (br_rd bareR0 (fun _ => 0))] at kk
      exact kk
  · exact hT.elim
set_option maxRecDepth 100000 in
theorem conx_X3_leaks (l : Launch) (hl : l.stackTraces = false) (D : va_G) (ty : Nat → ClassId) (base : Nat) : ab_ConX l D vwCl ty lw_ts base lw_wd yX3_leaks cX3_leaks 2 (some .int) 6 90 1 6 TrX_X3_leaks :=
  ab_conX_of hl (own := RX3) (rt := 1) (tb := tbX3) (ini := false) (ca := ca_X3_leaks) (xs := [(9, 1)]) (by decide +kernel) rfl (fun h => by cases h) rfl lw_wd_ok wtbX3 lw_ar cm_X3_leaks
    (fun p e R s m args below meth c K hcx => by
      obtain ⟨hx, hb, hml, hown, hF, rfl⟩ := hcx
      exact ab_lk_all (ab_all_c (ab_tc_S hx hb hml hown lw_wd_ok hF ⟨rfl, rfl⟩ (con_X3_isUpTo l D ty base) (lw_wi (by decide +kernel) (by decide +kernel)) (lw_wi (by decide +kernel) (by decide +kernel)) (lw_wi (by decide +kernel) (by decide +kernel)) (lw_wi (by decide +kernel) (by decide +kernel)) (by decide +kernel) ⟨by decide, by decide⟩) (ab_all_c (ab_tc_V hx hb hml hown lw_wd_ok hF ⟨rfl, rfl⟩ (con_X0_readFrom l D ty base) rfl (lw_wi (by decide +kernel) (by decide +kernel)) (lw_wi (by decide +kernel) (by decide +kernel)) (lw_wi (by decide +kernel) (by decide +kernel)) (lw_wi (by decide +kernel) (by decide +kernel)) (lw_wi (by decide +kernel) (by decide +kernel)) (by decide +kernel) ⟨by decide, by decide⟩) (ab_all_c (ab_tc_V hx hb hml hown lw_wd_ok hF ⟨rfl, rfl⟩ (con_X0_comesInAtAll l D ty base) rfl (lw_wi (by decide +kernel) (by decide +kernel)) (lw_wi (by decide +kernel) (by decide +kernel)) (lw_wi (by decide +kernel) (by decide +kernel)) (lw_wi (by decide +kernel) (by decide +kernel)) (lw_wi (by decide +kernel) (by decide +kernel)) (by decide +kernel) ⟨by decide, by decide⟩) (ab_all_n)))))
    (by intro as h K ht; unfold TrX_X3_leaks at ht; split at ht <;> first | exact ht.elim | exact Nat.le_of_ble_eq_true rfl)
    (List.forall_mem_cons.mpr ⟨⟨Or.inl rfl, 41, 179, 45, "no such rain", dX3_leaks_9, dX3_leaks_12, dX3_leaks_13, dX3_leaks_15, dX3_leaks_18, (lw_wi (by decide +kernel) (by decide +kernel)), (lw_wi (by decide +kernel) (by decide +kernel)), (lw_wi (by decide +kernel) (by decide +kernel)), lw_wa (by decide +kernel) (by decide +kernel), by decide +kernel⟩, fun _ h => absurd h List.not_mem_nil⟩) ⟨by decide, by decide⟩ (by decide) (semx_X3_leaks base)
noncomputable def TrX_X3_comes : ATr := fun as h K => match as with
  | [.inr (.inl (some a)), .inl rain, .inl x, .inl y] => ab_so (ab_sr h a) fun P => (P.2 = sv0 ∧ ab_in rain ∧ ab_in x ∧ ab_in y) ∧ (isUpToF rain 9 = true ∧ isPlaceF x y = true → ∀ h', ab_fr h h' (a :: srL P.1) → K (some (.inl (cF rain (8 - y).toNat 0))) h') ∧ (isUpToF rain 9 = false → K (some (.inr (.inr (.inl (1 : Int))))) h) ∧ (isUpToF rain 9 = true ∧ isPlaceF x y = false → K (some (.inr (.inr (.inl (3 : Int))))) h)
  | _ => False
/- -/
set_option maxRecDepth 100000 in
set_option maxHeartbeats 4000000 in
theorem semx_X3_comes (base : Nat) : ab_SemX tbX3 lw_ts base cX3_comes ca_X3_comes 1 4 1 6 (fun as => ab_en as 4) TrX_X3_comes [(9, 1), (27, 3)] := by
  intro as h K hT V hV hX
  unfold TrX_X3_comes at hT
  split at hT
  · rename_i a rain x y
    obtain ⟨⟨⟨⟨r, ns⟩, ⟨t, ms⟩, ⟨c, n⟩, b, q0, q1, q2, q3⟩, v9⟩, hP, ⟨hv9, hs⟩, hK⟩ := ab_so_el hT
    dsimp only at hv9
    subst hv9
    have hA := sr_el hP
    obtain ⟨D, D0, D1, D2, D3, D4⟩ := id hA
    dsimp only [sv0] at D D0 D1 D2 D3
    dsimp only at D4
    try dsimp only at hK hs
    obtain ⟨-, m0, m1, m2, m3, m4, m5, m6, m7, m8, hm9, -, e9, -⟩ := roof_el D0
    rw [r0_laid, r0_there, r0_day, r0_blown] at e9
    show V 0 [some (.inr (.inl (some a))), some (.inl rain), some (.inl x), some (.inl y)] [] h 0 0
    obtain ⟨hK0, hK1, hK2⟩ := hK
    have x9 : ∀ ls st, ab_sz st ≤ 8 → K (some (.inr (.inr (.inl (1 : Int))))) h → V 9 ls st h 0 0 := fun ls st w1 w2 => hX (9, 1) (by simp) ls st h 0 0 w1 (by decide) (by decide) w2
    have x27 : ∀ ls st, ab_sz st ≤ 8 → K (some (.inr (.inr (.inl (3 : Int))))) h → V 27 ls st h 0 0 := fun ls st w1 w2 => hX (27, 3) (by simp) ls st h 0 0 w1 (by decide) (by decide) w2
    cases hu : isUpToF rain 9
    · refine hV (fun p => p == 9 || p == 19) 80 _ _ _ _ _ _ ?_
      simp only [D, hu, bI_in, bI_0, bI_1, bI_t, bI_f, bI_01, r0_laid, r0_there, r0_day, r0_blown, br_known bareR0, br_there bareR0, br_num bareR0, br_rot bareR0, br_cov bareR0, br_free bareR0, br_covPl bareR0, br_crkTh bareR0, br_allRot bareR0, Tr_X3_isUpTo, ae_bipush, ae_dup, ae_ifCond, ae_iload_n, ae_invokespecial, ae_invokestatic, ae_ldc, ae_new, dX3_comes_0, dX3_comes_1, dX3_comes_3, dX3_comes_6, dX3_comes_9, dX3_comes_12, dX3_comes_13, dX3_comes_15, dX3_comes_18, ca_X3_comes_113, ca_X3_comes_94, ca_X3_comes_181, ca_X3_comes_184, ab_wp0, ab_wps, ab_stp, ab_g, ab_st, ab_k2, ab_cl, ab_pop, ab_sz, ab_2, ab_ret, ab_f4, ab_tg, ab_I, ab_II, ab_A, ab_Rf, ab_VR, ab_IR, ab_VIR, ab_1, ab_LL, ab_DD, ab_ob, ab_pr, ab_qr, ab_ln, ab_so, ab_vI, ab_vA, ab_vD, ab_vL, ab_v2, ab_c, ab_fit, ab_rv, ab_tsw, ab_lsw, ab_up_eq, Fin.isValue, ab_f0, ab_f1, ab_f2, ab_f3, List.getElem?_cons_zero, List.getElem?_cons_succ, List.set_cons_zero, List.set_cons_succ, List.length_cons, List.length_nil, List.size_toArray, List.head?_cons, List.tail_cons, Option.map_some, cond_true, cond_false, true_and, and_true, false_and, and_false, not_true_eq_false, not_false_eq_true, true_imp_iff, false_imp_iff, if_true, if_false, ite_true, ite_false, ↓reduceIte, Nat.reduceAdd, Nat.reduceEqDiff, Nat.reduceLeDiff, Nat.reduceLT, Nat.reduceBEq, Nat.reduceBNe, Int.reduceAdd, Int.reduceNeg, Int.reduceSub, Int.reduceLE, Int.reduceLT, Int.reduceToNat, Int.reduceEq, Int.reduceMul, Int.cast_ofNat_Int, Nat.zero_add, Nat.add_zero, Nat.le_refl, eq_self, ne_eq, reduceCtorEq, or_true, true_or, or_false, false_or, Bool.or_true, Bool.or_false, Bool.true_or, Bool.false_or, Nat.zero_le, Int.le_refl, Int.ofNat_zero, Int.ofNat_one, Bool.false_eq_true]
      try simp only [ab_in] at hs ⊢
      (repeat' (first | intro _ | refine And.intro ?_ ?_)) <;> (first | exact x9 _ _ (by decide) (hK1 hu) | contradiction | omega | (exfalso; omega))
    · cases hp : isPlaceF x y
      · refine hV (fun p => p == 27 || p == 37) 80 _ _ _ _ _ _ ?_
        simp only [D, hu, hp, bI_in, bI_0, bI_1, bI_t, bI_f, bI_01, r0_laid, r0_there, r0_day, r0_blown, br_known bareR0, br_there bareR0, br_num bareR0, br_rot bareR0, br_cov bareR0, br_free bareR0, br_covPl bareR0, br_crkTh bareR0, br_allRot bareR0, Tr_X3_isUpTo, Tr_X3_isPlace, ae_bipush, ae_dup, ae_ifCond, ae_iload_n, ae_invokespecial, ae_invokestatic, ae_ldc, ae_new, dX3_comes_0, dX3_comes_1, dX3_comes_3, dX3_comes_6, dX3_comes_9, dX3_comes_12, dX3_comes_13, dX3_comes_15, dX3_comes_18, dX3_comes_19, dX3_comes_20, dX3_comes_21, dX3_comes_24, dX3_comes_27, dX3_comes_30, dX3_comes_31, dX3_comes_33, dX3_comes_36, ca_X3_comes_113, ca_X3_comes_94, ca_X3_comes_181, ca_X3_comes_184, ab_wp0, ab_wps, ab_stp, ab_g, ab_st, ab_k2, ab_cl, ab_pop, ab_sz, ab_2, ab_ret, ab_f4, ab_tg, ab_I, ab_II, ab_A, ab_Rf, ab_VR, ab_IR, ab_VIR, ab_1, ab_LL, ab_DD, ab_ob, ab_pr, ab_qr, ab_ln, ab_so, ab_vI, ab_vA, ab_vD, ab_vL, ab_v2, ab_c, ab_fit, ab_rv, ab_tsw, ab_lsw, ab_up_eq, Fin.isValue, ab_f0, ab_f1, ab_f2, ab_f3, List.getElem?_cons_zero, List.getElem?_cons_succ, List.set_cons_zero, List.set_cons_succ, List.length_cons, List.length_nil, List.size_toArray, List.head?_cons, List.tail_cons, Option.map_some, cond_true, cond_false, true_and, and_true, false_and, and_false, not_true_eq_false, not_false_eq_true, true_imp_iff, false_imp_iff, if_true, if_false, ite_true, ite_false, ↓reduceIte, Nat.reduceAdd, Nat.reduceEqDiff, Nat.reduceLeDiff, Nat.reduceLT, Nat.reduceBEq, Nat.reduceBNe, Int.reduceAdd, Int.reduceNeg, Int.reduceSub, Int.reduceLE, Int.reduceLT, Int.reduceToNat, Int.reduceEq, Int.reduceMul, Int.cast_ofNat_Int, Nat.zero_add, Nat.add_zero, Nat.le_refl, eq_self, ne_eq, reduceCtorEq, or_true, true_or, or_false, false_or, Bool.or_true, Bool.or_false, Bool.true_or, Bool.false_or, Nat.zero_le, Int.le_refl, Int.ofNat_zero, Int.ofNat_one, Bool.false_eq_true]
        try simp only [ab_in] at hs ⊢
        (repeat' (first | intro _ | refine And.intro ?_ ?_)) <;> (first | exact x27 _ _ (by decide) (hK2 ⟨hu, hp⟩) | contradiction | omega | (exfalso; omega))
      · have hu2 : 0 ≤ rain ∧ rain ≤ 9 := of_decide_eq_true hu
        have hp2 : 0 ≤ x ∧ x < 12 ∧ 0 ≤ y ∧ y < 8 := of_decide_eq_true hp
        refine ab_sem_rm cm_X3_comes (Nat.zero_le _) (Nat.zero_le _) (sem_X3_comes base) [.inr (.inl (some a)), .inl rain, .inl x, .inl y] h K ?_ V hV
        unfold Tr_X3_comes
        simp only [hP, ab_so]
        refine ⟨⟨hu2, hp2⟩, fun h' e1 e2 => ?_⟩
        have kk := hK0 ⟨hu, hp⟩ h' (e2.sub (by intro q hq; simp only [srL]; refine List.mem_cons_of_mem _ (List.mem_append.mpr (Or.inr (List.mem_append.mpr (Or.inr ?_)))); simp only [List.mem_cons, List.not_mem_nil, or_false] at hq ⊢; rcases hq with rfl | rfl; exact Or.inl rfl; exact Or.inr (Or.inl rfl)))
        rw [← br_col (br_rd bareR0 (fun _ => 0)) rain x (by omega) (8 - y).toNat 7 0 (by omega) (by omega)] at kk
        exact kk
  · exact hT.elim
set_option maxRecDepth 100000 in
theorem conx_X3_comes (l : Launch) (hl : l.stackTraces = false) (D : va_G) (ty : Nat → ClassId) (base : Nat) : ab_ConX l D vwCl ty lw_ts base lw_wd yX3_comes cX3_comes 4 (some .int) 6 90 1 6 TrX_X3_comes :=
  ab_conX_of hl (own := RX3) (rt := 1) (tb := tbX3) (ini := false) (ca := ca_X3_comes) (xs := [(9, 1), (27, 3)]) (by decide +kernel) rfl (fun h => by cases h) rfl lw_wd_ok wtbX3 lw_ar cm_X3_comes
    (fun p e R s m args below meth c K hcx => by
      obtain ⟨hx, hb, hml, hown, hF, rfl⟩ := hcx
      exact ab_lk_all (ab_all_c (ab_tc_S hx hb hml hown lw_wd_ok hF ⟨rfl, rfl⟩ (con_X3_isUpTo l D ty base) (lw_wi (by decide +kernel) (by decide +kernel)) (lw_wi (by decide +kernel) (by decide +kernel)) (lw_wi (by decide +kernel) (by decide +kernel)) (lw_wi (by decide +kernel) (by decide +kernel)) (by decide +kernel) ⟨by decide, by decide⟩) (ab_all_c (ab_tc_S hx hb hml hown lw_wd_ok hF ⟨rfl, rfl⟩ (con_X3_isPlace l D ty base) (lw_wi (by decide +kernel) (by decide +kernel)) (lw_wi (by decide +kernel) (by decide +kernel)) (lw_wi (by decide +kernel) (by decide +kernel)) (lw_wi (by decide +kernel) (by decide +kernel)) (by decide +kernel) ⟨by decide, by decide⟩) (ab_all_c (ab_tc_V hx hb hml hown lw_wd_ok hF ⟨rfl, rfl⟩ (con_X0_readFrom l D ty base) rfl (lw_wi (by decide +kernel) (by decide +kernel)) (lw_wi (by decide +kernel) (by decide +kernel)) (lw_wi (by decide +kernel) (by decide +kernel)) (lw_wi (by decide +kernel) (by decide +kernel)) (lw_wi (by decide +kernel) (by decide +kernel)) (by decide +kernel) ⟨by decide, by decide⟩) (ab_all_c (ab_tc_V hx hb hml hown lw_wd_ok hF ⟨rfl, rfl⟩ (con_X0_comesInAt l D ty base) rfl (lw_wi (by decide +kernel) (by decide +kernel)) (lw_wi (by decide +kernel) (by decide +kernel)) (lw_wi (by decide +kernel) (by decide +kernel)) (lw_wi (by decide +kernel) (by decide +kernel)) (lw_wi (by decide +kernel) (by decide +kernel)) (by decide +kernel) ⟨by decide, by decide⟩) (ab_all_n))))))
    (by intro as h K ht; unfold TrX_X3_comes at ht; split at ht <;> first | exact ht.elim | exact Nat.le_of_ble_eq_true rfl)
    (List.forall_mem_cons.mpr ⟨⟨Or.inl rfl, 41, 179, 45, "no such rain", dX3_comes_9, dX3_comes_12, dX3_comes_13, dX3_comes_15, dX3_comes_18, (lw_wi (by decide +kernel) (by decide +kernel)), (lw_wi (by decide +kernel) (by decide +kernel)), (lw_wi (by decide +kernel) (by decide +kernel)), lw_wa (by decide +kernel) (by decide +kernel), by decide +kernel⟩, List.forall_mem_cons.mpr ⟨⟨Or.inr (Or.inr rfl), 70, 98, 74, "no such place", dX3_comes_27, dX3_comes_30, dX3_comes_31, dX3_comes_33, dX3_comes_36, (lw_wi (by decide +kernel) (by decide +kernel)), (lw_wi (by decide +kernel) (by decide +kernel)), (lw_wi (by decide +kernel) (by decide +kernel)), lw_wa (by decide +kernel) (by decide +kernel), by decide +kernel⟩, fun _ h => absurd h List.not_mem_nil⟩⟩) ⟨by decide, by decide⟩ (by decide) (semx_X3_comes base)
noncomputable def TrX_X3_needs : ATr := fun as h K => match as with
  | [.inr (.inl (some a)), .inl row, .inl from9, .inl wide] => ab_so (ab_sr h a) fun P => (P.2 = sv0 ∧ ab_in row ∧ ab_in from9 ∧ ab_in wide) ∧ (fitsF row from9 wide = true → ∀ h', ab_fr h h' (a :: srL P.1) → K (some (.inl (0))) h') ∧ (fitsF row from9 wide = false → K (some (.inr (.inr (.inl (1 : Int))))) h)
  | _ => False
/- -/
set_option maxRecDepth 100000 in
set_option maxHeartbeats 4000000 in
theorem semx_X3_needs (base : Nat) : ab_SemX tbX3 lw_ts base cX3_needs ca_X3_needs 1 4 1 6 (fun as => ab_en as 4) TrX_X3_needs [(9, 1)] := by
  intro as h K hT V hV hX
  unfold TrX_X3_needs at hT
  split at hT
  · rename_i a row from9 wide
    obtain ⟨⟨⟨⟨r, ns⟩, ⟨t, ms⟩, ⟨c, n⟩, b, q0, q1, q2, q3⟩, v9⟩, hP, ⟨hv9, hs⟩, hK⟩ := ab_so_el hT
    dsimp only at hv9
    subst hv9
    have hA := sr_el hP
    obtain ⟨D, D0, D1, D2, D3, D4⟩ := id hA
    dsimp only [sv0] at D D0 D1 D2 D3
    dsimp only at D4
    try dsimp only at hK hs
    obtain ⟨-, m0, m1, m2, m3, m4, m5, m6, m7, m8, hm9, -, e9, -⟩ := roof_el D0
    rw [r0_laid, r0_there, r0_day, r0_blown] at e9
    show V 0 [some (.inr (.inl (some a))), some (.inl row), some (.inl from9), some (.inl wide)] [] h 0 0
    obtain ⟨hK0, hK1⟩ := hK
    have x9 : ∀ ls st, ab_sz st ≤ 8 → K (some (.inr (.inr (.inl (1 : Int))))) h → V 9 ls st h 0 0 := fun ls st w1 w2 => hX (9, 1) (by simp) ls st h 0 0 w1 (by decide) (by decide) w2
    cases hf : fitsF row from9 wide
    · refine hV (fun p => p == 9 || p == 19) 80 _ _ _ _ _ _ ?_
      simp only [D, hf, bI_in, bI_0, bI_1, bI_t, bI_f, bI_01, r0_laid, r0_there, r0_day, r0_blown, br_known bareR0, br_there bareR0, br_num bareR0, br_rot bareR0, br_cov bareR0, br_free bareR0, br_covPl bareR0, br_crkTh bareR0, br_allRot bareR0, Tr_X3_fits, ae_dup, ae_ifCond, ae_iload_n, ae_invokespecial, ae_invokestatic, ae_ldc, ae_new, dX3_needs_0, dX3_needs_1, dX3_needs_2, dX3_needs_3, dX3_needs_6, dX3_needs_9, dX3_needs_12, dX3_needs_13, dX3_needs_15, dX3_needs_18, ca_X3_needs_33, ca_X3_needs_193, ab_wp0, ab_wps, ab_stp, ab_g, ab_st, ab_k2, ab_cl, ab_pop, ab_sz, ab_2, ab_ret, ab_f4, ab_tg, ab_I, ab_II, ab_A, ab_Rf, ab_VR, ab_IR, ab_VIR, ab_1, ab_LL, ab_DD, ab_ob, ab_pr, ab_qr, ab_ln, ab_so, ab_vI, ab_vA, ab_vD, ab_vL, ab_v2, ab_c, ab_fit, ab_rv, ab_tsw, ab_lsw, ab_up_eq, Fin.isValue, ab_f0, ab_f1, ab_f2, ab_f3, List.getElem?_cons_zero, List.getElem?_cons_succ, List.set_cons_zero, List.set_cons_succ, List.length_cons, List.length_nil, List.size_toArray, List.head?_cons, List.tail_cons, Option.map_some, cond_true, cond_false, true_and, and_true, false_and, and_false, not_true_eq_false, not_false_eq_true, true_imp_iff, false_imp_iff, if_true, if_false, ite_true, ite_false, ↓reduceIte, Nat.reduceAdd, Nat.reduceEqDiff, Nat.reduceLeDiff, Nat.reduceLT, Nat.reduceBEq, Nat.reduceBNe, Int.reduceAdd, Int.reduceNeg, Int.reduceSub, Int.reduceLE, Int.reduceLT, Int.reduceToNat, Int.reduceEq, Int.reduceMul, Int.cast_ofNat_Int, Nat.zero_add, Nat.add_zero, Nat.le_refl, eq_self, ne_eq, reduceCtorEq, or_true, true_or, or_false, false_or, Bool.or_true, Bool.or_false, Bool.true_or, Bool.false_or, Nat.zero_le, Int.le_refl, Int.ofNat_zero, Int.ofNat_one, Bool.false_eq_true]
      try simp only [ab_in] at hs ⊢
      (repeat' (first | intro _ | refine And.intro ?_ ?_)) <;> (first | exact x9 _ _ (by decide) (hK1 hf) | contradiction | omega | (exfalso; omega))
    · refine ab_sem_rm cm_X3_needs (Nat.zero_le _) (Nat.zero_le _) (sem_X3_needs base) [.inr (.inl (some a)), .inl row, .inl from9, .inl wide] h K ?_ V hV
      unfold Tr_X3_needs
      simp only [hP, ab_so]
      refine ⟨hf, fun h' e1 e2 => ?_⟩
      have kk := hK0 hf h' (e2.sub (by intro q hq; simp only [srL]; exact List.mem_cons_of_mem _ (List.mem_append.mpr (Or.inl hq))))
      rw [← br_way bareR0 row from9 wide] at kk
      exact kk
  · exact hT.elim
set_option maxRecDepth 100000 in
theorem conx_X3_needs (l : Launch) (hl : l.stackTraces = false) (D : va_G) (ty : Nat → ClassId) (base : Nat) : ab_ConX l D vwCl ty lw_ts base lw_wd yX3_needs cX3_needs 4 (some .int) 6 90 1 6 TrX_X3_needs :=
  ab_conX_of hl (own := RX3) (rt := 1) (tb := tbX3) (ini := false) (ca := ca_X3_needs) (xs := [(9, 1)]) (by decide +kernel) rfl (fun h => by cases h) rfl lw_wd_ok wtbX3 lw_ar cm_X3_needs
    (fun p e R s m args below meth c K hcx => by
      obtain ⟨hx, hb, hml, hown, hF, rfl⟩ := hcx
      exact ab_lk_all (ab_all_c (ab_tc_S hx hb hml hown lw_wd_ok hF ⟨rfl, rfl⟩ (con_X3_fits l D ty base) (lw_wi (by decide +kernel) (by decide +kernel)) (lw_wi (by decide +kernel) (by decide +kernel)) (lw_wi (by decide +kernel) (by decide +kernel)) (lw_wi (by decide +kernel) (by decide +kernel)) (by decide +kernel) ⟨by decide, by decide⟩) (ab_all_c (ab_tc_V hx hb hml hown lw_wd_ok hF ⟨rfl, rfl⟩ (con_X1_inTheWay l D ty base) rfl (lw_wi (by decide +kernel) (by decide +kernel)) (lw_wi (by decide +kernel) (by decide +kernel)) (lw_wi (by decide +kernel) (by decide +kernel)) (lw_wi (by decide +kernel) (by decide +kernel)) (lw_wi (by decide +kernel) (by decide +kernel)) (by decide +kernel) ⟨by decide, by decide⟩) (ab_all_n))))
    (by intro as h K ht; unfold TrX_X3_needs at ht; split at ht <;> first | exact ht.elim | exact Nat.le_of_ble_eq_true rfl)
    (List.forall_mem_cons.mpr ⟨⟨Or.inl rfl, 41, 191, 45, "no such row, place or width", dX3_needs_9, dX3_needs_12, dX3_needs_13, dX3_needs_15, dX3_needs_18, (lw_wi (by decide +kernel) (by decide +kernel)), (lw_wi (by decide +kernel) (by decide +kernel)), (lw_wi (by decide +kernel) (by decide +kernel)), lw_wa (by decide +kernel) (by decide +kernel), by decide +kernel⟩, fun _ h => absurd h List.not_mem_nil⟩) ⟨by decide, by decide⟩ (by decide) (semx_X3_needs base)
noncomputable def TrX_X3_pass : ATr := fun as h K => match as with
  | [.inr (.inl (some a)), .inl days] => ab_so (ab_sr h a) fun P => (P.2 = sv0 ∧ ab_in days) ∧ (decide (1 ≤ days ∧ days ≤ 60) = true → ∀ h', ab_fr h h' (a :: srL P.1) → K (some (.inl (0))) h') ∧ (decide (1 ≤ days ∧ days ≤ 60) = false → K (some (.inr (.inr (.inl (1 : Int))))) h)
  | _ => False
/- -/
set_option maxRecDepth 100000 in
set_option maxHeartbeats 4000000 in
theorem semx_X3_pass (base : Nat) : ab_SemX tbX3 lw_ts base cX3_pass ca_X3_pass 1 3 1 6 (fun as => ab_en as 3) TrX_X3_pass [(7, 1)] := by
  intro as h K hT V hV hX
  unfold TrX_X3_pass at hT
  split at hT
  · rename_i a days
    obtain ⟨⟨⟨⟨r, ns⟩, ⟨t, ms⟩, ⟨c, n⟩, b, q0, q1, q2, q3⟩, v9⟩, hP, ⟨hv9, hs⟩, hK⟩ := ab_so_el hT
    dsimp only at hv9
    subst hv9
    have hA := sr_el hP
    obtain ⟨D, D0, D1, D2, D3, D4⟩ := id hA
    dsimp only [sv0] at D D0 D1 D2 D3
    dsimp only at D4
    try dsimp only at hK hs
    obtain ⟨-, m0, m1, m2, m3, m4, m5, m6, m7, m8, hm9, -, e9, -⟩ := roof_el D0
    rw [r0_laid, r0_there, r0_day, r0_blown] at e9
    show V 0 [some (.inr (.inl (some a))), some (.inl days), none] [] h 0 0
    obtain ⟨hK0, hK1⟩ := hK
    have x7 : ∀ ls st, ab_sz st ≤ 8 → K (some (.inr (.inr (.inl (1 : Int))))) h → V 7 ls st h 0 0 := fun ls st w1 w2 => hX (7, 1) (by simp) ls st h 0 0 w1 (by decide) (by decide) w2
    cases hd : decide (1 ≤ days ∧ days ≤ 60)
    · refine hV (fun p => p == 7 || p == 17) 80 _ _ _ _ _ _ ?_
      simp only [D, hd, bI_in, bI_0, bI_1, bI_t, bI_f, bI_01, r0_laid, r0_there, r0_day, r0_blown, br_known bareR0, br_there bareR0, br_num bareR0, br_rot bareR0, br_cov bareR0, br_free bareR0, br_covPl bareR0, br_crkTh bareR0, br_allRot bareR0, Tr_X3_isDays, ae_dup, ae_ifCond, ae_iload_n, ae_invokespecial, ae_invokestatic, ae_ldc, ae_new, dX3_pass_0, dX3_pass_1, dX3_pass_4, dX3_pass_7, dX3_pass_10, dX3_pass_11, dX3_pass_13, dX3_pass_16, ca_X3_pass_199, ca_X3_pass_204, ab_wp0, ab_wps, ab_stp, ab_g, ab_st, ab_k2, ab_cl, ab_pop, ab_sz, ab_2, ab_ret, ab_f4, ab_tg, ab_I, ab_II, ab_A, ab_Rf, ab_VR, ab_IR, ab_VIR, ab_1, ab_LL, ab_DD, ab_ob, ab_pr, ab_qr, ab_ln, ab_so, ab_vI, ab_vA, ab_vD, ab_vL, ab_v2, ab_c, ab_fit, ab_rv, ab_tsw, ab_lsw, ab_up_eq, Fin.isValue, ab_f0, ab_f1, ab_f2, ab_f3, List.getElem?_cons_zero, List.getElem?_cons_succ, List.set_cons_zero, List.set_cons_succ, List.length_cons, List.length_nil, List.size_toArray, List.head?_cons, List.tail_cons, Option.map_some, cond_true, cond_false, true_and, and_true, false_and, and_false, not_true_eq_false, not_false_eq_true, true_imp_iff, false_imp_iff, if_true, if_false, ite_true, ite_false, ↓reduceIte, Nat.reduceAdd, Nat.reduceEqDiff, Nat.reduceLeDiff, Nat.reduceLT, Nat.reduceBEq, Nat.reduceBNe, Int.reduceAdd, Int.reduceNeg, Int.reduceSub, Int.reduceLE, Int.reduceLT, Int.reduceToNat, Int.reduceEq, Int.reduceMul, Int.cast_ofNat_Int, Nat.zero_add, Nat.add_zero, Nat.le_refl, eq_self, ne_eq, reduceCtorEq, or_true, true_or, or_false, false_or, Bool.or_true, Bool.or_false, Bool.true_or, Bool.false_or, Nat.zero_le, Int.le_refl, Int.ofNat_zero, Int.ofNat_one, Bool.false_eq_true]
      try simp only [ab_in] at hs ⊢
      (repeat' (first | intro _ | refine And.intro ?_ ?_)) <;> (first | exact x7 _ _ (by decide) (hK1 hd) | contradiction | omega | (exfalso; omega))
    · have hd2 : 1 ≤ days ∧ days ≤ 60 := of_decide_eq_true hd
      refine ab_sem_rm cm_X3_pass (Nat.zero_le _) (Nat.zero_le _) (sem_X3_pass base) [.inr (.inl (some a)), .inl days] h K ?_ V hV
      unfold Tr_X3_pass
      simp only [hP, ab_so]
      refine ⟨⟨hd2, by show (0 : Int) + days ≤ 2000000000; omega⟩, fun h' e1 e2 => ?_⟩
      have kk := hK0 hd h' (e2.sub (by
          intro q hq
          simp only [srL]
          refine List.mem_cons_of_mem _ (List.mem_append.mpr ?_)
          rcases List.mem_append.mp hq with hq | hq
          · exact Or.inl hq
          · refine Or.inr (List.mem_append.mpr (Or.inr ?_))
            simp only [List.mem_cons, List.not_mem_nil, or_false] at hq ⊢
            rcases hq with rfl | rfl
            · exact Or.inl rfl
            · exact Or.inr (Or.inl rfl)))
      have hg := (br_goL days.toNat (fun _ => 0) (roof0 96) bareR0).2.2
      show K (some (.inl ((goL T00 days.toNat ((fun _ => 0), roof0 96)).2.blown - (roof0 96).blown))) h'
      rw [hg]
      exact kk
  · exact hT.elim
set_option maxRecDepth 100000 in
theorem conx_X3_pass (l : Launch) (hl : l.stackTraces = false) (D : va_G) (ty : Nat → ClassId) (base : Nat) : ab_ConX l D vwCl ty lw_ts base lw_wd yX3_pass cX3_pass 3 (some .int) 6 141 1 6 TrX_X3_pass :=
  ab_conX_of hl (own := RX3) (rt := 1) (tb := tbX3) (ini := false) (ca := ca_X3_pass) (xs := [(7, 1)]) (by decide +kernel) rfl (fun h => by cases h) rfl lw_wd_ok wtbX3 lw_ar cm_X3_pass
    (fun p e R s m args below meth c K hcx => by
      obtain ⟨hx, hb, hml, hown, hF, rfl⟩ := hcx
      exact ab_lk_all (ab_all_c (ab_tc_S hx hb hml hown lw_wd_ok hF ⟨rfl, rfl⟩ (con_X3_isDays l D ty base) (lw_wi (by decide +kernel) (by decide +kernel)) (lw_wi (by decide +kernel) (by decide +kernel)) (lw_wi (by decide +kernel) (by decide +kernel)) (lw_wi (by decide +kernel) (by decide +kernel)) (by decide +kernel) ⟨by decide, by decide⟩) (ab_all_c (ab_tc_V hx hb hml hown lw_wd_ok hF ⟨rfl, rfl⟩ (con_X3_letGoBy l D ty base) rfl (lw_wi (by decide +kernel) (by decide +kernel)) (lw_wi (by decide +kernel) (by decide +kernel)) (lw_wi (by decide +kernel) (by decide +kernel)) (lw_wi (by decide +kernel) (by decide +kernel)) (lw_wi (by decide +kernel) (by decide +kernel)) (by decide +kernel) ⟨by decide, by decide⟩) (ab_all_n))))
    (by intro as h K ht; unfold TrX_X3_pass at ht; split at ht <;> first | exact ht.elim | exact Nat.le_of_ble_eq_true rfl)
    (List.forall_mem_cons.mpr ⟨⟨Or.inl rfl, 41, 202, 45, "days are 1 to 60", dX3_pass_7, dX3_pass_10, dX3_pass_11, dX3_pass_13, dX3_pass_16, (lw_wi (by decide +kernel) (by decide +kernel)), (lw_wi (by decide +kernel) (by decide +kernel)), (lw_wi (by decide +kernel) (by decide +kernel)), lw_wa (by decide +kernel) (by decide +kernel), by decide +kernel⟩, fun _ h => absurd h List.not_mem_nil⟩) ⟨by decide, by decide⟩ (by decide) (semx_X3_pass base)
