/-! ===== the law's own roof: more questions ===== -/
noncomputable def Tr_X4_lift : ATr := fun as h K => match as with
  | [.inr (.inl (some a)), .inr (.inl (some q)), .inl force, .inl right] => ab_so (ab_sim h a) fun P => ab_pr (h q) fun t n f => (t = 0 ∧ n = 6 ∧ slB f ∧ (0 ≤ force ∧ force ≤ 20) ∧ (right = 0 ∨ right = 1)) ∧ K (some (.inl (liftS P.2 f force right))) h
  | _ => False
theorem mo_X4_lift : ab_mo Tr_X4_lift := by
  intro as h K K' hk ht
  unfold Tr_X4_lift at ht ⊢
  split at ht
  · exact ab_so_mo (fun _ q => ab_pr_mo (fun t n f w => ⟨w.1, hk _ _ w.2⟩) q) ht
  · exact ht.elim
def ca_X4_lift : Nat → Option ACS := ab_lk []
theorem cm_X4_lift : ∀ i q, ca_X4_lift i = some q → ab_moq i q := ab_lk_all (ab_all_n)
set_option maxRecDepth 100000 in
set_option maxHeartbeats 4000000 in
theorem sem_X4_lift (base : Nat) : ab_Sem tbX4 lw_ts base cX4_lift ca_X4_lift 1 9 0 0 (fun as => ab_en as 9) Tr_X4_lift := by
  intro as h K hT V hV
  unfold Tr_X4_lift at hT
  split at hT
  · rename_i a q force right
    obtain ⟨⟨⟨sA, fS, rA, fR, dA, fD⟩, M⟩, hP, hT2⟩ := ab_so_el hT
    have hA := sim_el hP
    obtain ⟨mb, D, nd, D0, D1, D2, r0, r1, r2⟩ := id hA
    obtain ⟨mb1, mb2, mb3, mb4, mb5, mb6⟩ := id mb
    dsimp only at D D0 D1 D2 r0 r1 r2 mb1 mb2 mb3 mb4 mb5 mb6
    obtain ⟨t, n0, f, hc, ⟨rfl, rfl, hB, hs⟩, hK⟩ := ab_pr_el hT2
    obtain ⟨b1, b2, b3, b4, b5⟩ := id hB
    show V 0 [some (.inr (.inl (some a))), some (.inr (.inl (some q))), some (.inl force), some (.inl right), none, none, none, none, none] [] h 0 0
    have loop : ∀ (m : Nat) (x acc : Int) (w : Option AV), x + m = M.n → 0 ≤ x → (-400 ≤ acc ∧ acc ≤ 30 ∧ - (2 * x) ≤ acc) → acc - 2 * sumR (fun k => bI (sideF (M.sl k) f right)) m x = liftS M f force right → V 21 [some (.inr (.inl (some a))), some (.inr (.inl (some q))), some (.inl force), some (.inl right), some (.inl (acc)), some (.inr (.inl (some sA))), some (.inl (M.n : Int)), some (.inl (x)), w] [] h 0 0 := by
      intro m
      induction m with
      | zero =>
        intro x acc w hx h0 ha he
        have hk2 : K (some (.inl acc)) h := by rw [← he] at hK; simpa [sumR] using hK
        have hle : (M.n : Int) ≤ x := by omega
        refine hV (fun p => p == 21) 80 _ _ _ _ _ _ ?_
        simp only [hle, bI_in, bI_0, bI_1, bI_t, bI_f, bI_01, ae_aaload, ae_aload, ae_aload_n, ae_astore, ae_goto, ae_iadd, ae_iaload, ae_iconst, ae_ifCond, ae_if_icmp, ae_iinc, ae_iload, ae_iload_n, ae_ireturn, dX4_lift_21, dX4_lift_23, dX4_lift_25, dX4_lift_28, dX4_lift_30, dX4_lift_32, dX4_lift_33, dX4_lift_35, dX4_lift_37, dX4_lift_38, dX4_lift_39, dX4_lift_40, dX4_lift_43, dX4_lift_45, dX4_lift_46, dX4_lift_47, dX4_lift_48, dX4_lift_49, dX4_lift_50, dX4_lift_53, dX4_lift_54, dX4_lift_57, dX4_lift_59, dX4_lift_60, dX4_lift_61, dX4_lift_62, dX4_lift_63, dX4_lift_64, dX4_lift_65, dX4_lift_66, dX4_lift_67, dX4_lift_68, dX4_lift_71, dX4_lift_74, dX4_lift_76, dX4_lift_77, dX4_lift_78, dX4_lift_80, dX4_lift_81, dX4_lift_82, dX4_lift_83, dX4_lift_84, dX4_lift_85, dX4_lift_86, dX4_lift_89, dX4_lift_92, dX4_lift_95, dX4_lift_98, dX4_lift_100, ab_wp0, ab_wps, ab_stp, ab_g, ab_st, ab_k2, ab_cl, ab_pop, ab_sz, ab_2, ab_ret, ab_f4, ab_tg, ab_I, ab_II, ab_A, ab_Rf, ab_VR, ab_IR, ab_VIR, ab_1, ab_LL, ab_DD, ab_ob, ab_pr, ab_qr, ab_ln, ab_so, ab_vI, ab_vA, ab_vD, ab_vL, ab_v2, ab_c, ab_fit, ab_rv, ab_tsw, ab_lsw, ab_up_eq, Fin.isValue, ab_f0, ab_f1, ab_f2, ab_f3, List.getElem?_cons_zero, List.getElem?_cons_succ, List.set_cons_zero, List.set_cons_succ, List.length_cons, List.length_nil, List.size_toArray, List.head?_cons, List.tail_cons, Option.map_some, cond_true, cond_false, true_and, and_true, false_and, and_false, not_true_eq_false, not_false_eq_true, true_imp_iff, false_imp_iff, if_true, if_false, ite_true, ite_false, ↓reduceIte, Nat.reduceAdd, Nat.reduceEqDiff, Nat.reduceLeDiff, Nat.reduceLT, Nat.reduceBEq, Nat.reduceBNe, Int.reduceAdd, Int.reduceNeg, Int.reduceSub, Int.reduceLE, Int.reduceLT, Int.reduceToNat, Int.reduceEq, Int.reduceMul, Int.cast_ofNat_Int, Nat.zero_add, Nat.add_zero, Nat.le_refl, eq_self, ne_eq, reduceCtorEq, or_true, true_or, or_false, false_or, Bool.or_true, Bool.or_false, Bool.true_or, Bool.false_or, Nat.zero_le, Int.le_refl, Int.ofNat_zero, Int.ofNat_one, Bool.false_eq_true]
        try simp only [ab_in]
        (repeat' (first | intro _ | refine And.intro ?_ ?_)) <;> (first | exact hk2 | contradiction | omega | (exfalso; omega))
      | succ m ih =>
        intro x acc w hx h0 ha he
        have hlt : ¬ (M.n : Int) ≤ x := by omega
        obtain ⟨p, hp, hpc⟩ := r0.1 x h0 (by omega)
        obtain ⟨c1, c2, c3, c4, c5⟩ := mb1 x
        simp only [sumR] at he
        by_cases hm : M.sl x 5 = 1 ∧ M.sl x 0 = f 0 ∧ (if right = 0 then M.sl x 1 + M.sl x 2 = f 1 else M.sl x 1 = f 1 + f 2)
        · rw [sideF, decide_eq_true hm, bI_t] at he
          have ih1 := ih (x + 1) (acc + -2) (some (.inr (.inl (some p)))) (by omega) (by omega) (by omega) (by omega)
          rcases hs.2 with rfl | rfl
          · simp only [if_true] at hm
            refine hV (fun p => p == 21) 80 _ _ _ _ _ _ ?_
            simp only [hlt, D0, hp, hpc, hc, bI_in, bI_0, bI_1, bI_t, bI_f, bI_01, ae_aaload, ae_aload, ae_aload_n, ae_astore, ae_goto, ae_iadd, ae_iaload, ae_iconst, ae_ifCond, ae_if_icmp, ae_iinc, ae_iload, ae_iload_n, dX4_lift_21, dX4_lift_23, dX4_lift_25, dX4_lift_28, dX4_lift_30, dX4_lift_32, dX4_lift_33, dX4_lift_35, dX4_lift_37, dX4_lift_38, dX4_lift_39, dX4_lift_40, dX4_lift_43, dX4_lift_45, dX4_lift_46, dX4_lift_47, dX4_lift_48, dX4_lift_49, dX4_lift_50, dX4_lift_53, dX4_lift_54, dX4_lift_57, dX4_lift_59, dX4_lift_60, dX4_lift_61, dX4_lift_62, dX4_lift_63, dX4_lift_64, dX4_lift_65, dX4_lift_66, dX4_lift_67, dX4_lift_68, dX4_lift_71, dX4_lift_74, dX4_lift_76, dX4_lift_77, dX4_lift_78, dX4_lift_80, dX4_lift_81, dX4_lift_82, dX4_lift_83, dX4_lift_84, dX4_lift_85, dX4_lift_86, dX4_lift_89, dX4_lift_92, dX4_lift_95, ab_wp0, ab_wps, ab_stp, ab_g, ab_st, ab_k2, ab_cl, ab_pop, ab_sz, ab_2, ab_ret, ab_f4, ab_tg, ab_I, ab_II, ab_A, ab_Rf, ab_VR, ab_IR, ab_VIR, ab_1, ab_LL, ab_DD, ab_ob, ab_pr, ab_qr, ab_ln, ab_so, ab_vI, ab_vA, ab_vD, ab_vL, ab_v2, ab_c, ab_fit, ab_rv, ab_tsw, ab_lsw, ab_up_eq, Fin.isValue, ab_f0, ab_f1, ab_f2, ab_f3, List.getElem?_cons_zero, List.getElem?_cons_succ, List.set_cons_zero, List.set_cons_succ, List.length_cons, List.length_nil, List.size_toArray, List.head?_cons, List.tail_cons, Option.map_some, cond_true, cond_false, true_and, and_true, false_and, and_false, not_true_eq_false, not_false_eq_true, true_imp_iff, false_imp_iff, if_true, if_false, ite_true, ite_false, ↓reduceIte, Nat.reduceAdd, Nat.reduceEqDiff, Nat.reduceLeDiff, Nat.reduceLT, Nat.reduceBEq, Nat.reduceBNe, Int.reduceAdd, Int.reduceNeg, Int.reduceSub, Int.reduceLE, Int.reduceLT, Int.reduceToNat, Int.reduceEq, Int.reduceMul, Int.cast_ofNat_Int, Nat.zero_add, Nat.add_zero, Nat.le_refl, eq_self, ne_eq, reduceCtorEq, or_true, true_or, or_false, false_or, Bool.or_true, Bool.or_false, Bool.true_or, Bool.false_or, Nat.zero_le, Int.le_refl, Int.ofNat_zero, Int.ofNat_one, Bool.false_eq_true]
            try simp only [ab_in]
            (repeat' (first | intro _ | refine And.intro ?_ ?_)) <;> (first | exact ih1 | exact rfl | contradiction | omega | (exfalso; omega))
          · simp only [Int.reduceEq, if_false] at hm
            refine hV (fun p => p == 21) 80 _ _ _ _ _ _ ?_
            simp only [hlt, D0, hp, hpc, hc, bI_in, bI_0, bI_1, bI_t, bI_f, bI_01, ae_aaload, ae_aload, ae_aload_n, ae_astore, ae_goto, ae_iadd, ae_iaload, ae_iconst, ae_ifCond, ae_if_icmp, ae_iinc, ae_iload, ae_iload_n, dX4_lift_21, dX4_lift_23, dX4_lift_25, dX4_lift_28, dX4_lift_30, dX4_lift_32, dX4_lift_33, dX4_lift_35, dX4_lift_37, dX4_lift_38, dX4_lift_39, dX4_lift_40, dX4_lift_43, dX4_lift_45, dX4_lift_46, dX4_lift_47, dX4_lift_48, dX4_lift_49, dX4_lift_50, dX4_lift_53, dX4_lift_54, dX4_lift_57, dX4_lift_59, dX4_lift_60, dX4_lift_61, dX4_lift_62, dX4_lift_63, dX4_lift_64, dX4_lift_65, dX4_lift_66, dX4_lift_67, dX4_lift_68, dX4_lift_71, dX4_lift_74, dX4_lift_76, dX4_lift_77, dX4_lift_78, dX4_lift_80, dX4_lift_81, dX4_lift_82, dX4_lift_83, dX4_lift_84, dX4_lift_85, dX4_lift_86, dX4_lift_89, dX4_lift_92, dX4_lift_95, ab_wp0, ab_wps, ab_stp, ab_g, ab_st, ab_k2, ab_cl, ab_pop, ab_sz, ab_2, ab_ret, ab_f4, ab_tg, ab_I, ab_II, ab_A, ab_Rf, ab_VR, ab_IR, ab_VIR, ab_1, ab_LL, ab_DD, ab_ob, ab_pr, ab_qr, ab_ln, ab_so, ab_vI, ab_vA, ab_vD, ab_vL, ab_v2, ab_c, ab_fit, ab_rv, ab_tsw, ab_lsw, ab_up_eq, Fin.isValue, ab_f0, ab_f1, ab_f2, ab_f3, List.getElem?_cons_zero, List.getElem?_cons_succ, List.set_cons_zero, List.set_cons_succ, List.length_cons, List.length_nil, List.size_toArray, List.head?_cons, List.tail_cons, Option.map_some, cond_true, cond_false, true_and, and_true, false_and, and_false, not_true_eq_false, not_false_eq_true, true_imp_iff, false_imp_iff, if_true, if_false, ite_true, ite_false, ↓reduceIte, Nat.reduceAdd, Nat.reduceEqDiff, Nat.reduceLeDiff, Nat.reduceLT, Nat.reduceBEq, Nat.reduceBNe, Int.reduceAdd, Int.reduceNeg, Int.reduceSub, Int.reduceLE, Int.reduceLT, Int.reduceToNat, Int.reduceEq, Int.reduceMul, Int.cast_ofNat_Int, Nat.zero_add, Nat.add_zero, Nat.le_refl, eq_self, ne_eq, reduceCtorEq, or_true, true_or, or_false, false_or, Bool.or_true, Bool.or_false, Bool.true_or, Bool.false_or, Nat.zero_le, Int.le_refl, Int.ofNat_zero, Int.ofNat_one, Bool.false_eq_true]
            try simp only [ab_in]
            (repeat' (first | intro _ | refine And.intro ?_ ?_)) <;> (first | exact ih1 | exact rfl | contradiction | omega | (exfalso; omega))
        · rw [sideF, decide_eq_false hm, bI_f] at he
          have ih1 := ih (x + 1) acc (some (.inr (.inl (some p)))) (by omega) (by omega) (by omega) (by omega)
          rcases hs.2 with rfl | rfl
          · simp only [if_true] at hm
            refine hV (fun p => p == 21) 80 _ _ _ _ _ _ ?_
            simp only [hlt, D0, hp, hpc, hc, bI_in, bI_0, bI_1, bI_t, bI_f, bI_01, ae_aaload, ae_aload, ae_aload_n, ae_astore, ae_goto, ae_iadd, ae_iaload, ae_iconst, ae_ifCond, ae_if_icmp, ae_iinc, ae_iload, ae_iload_n, dX4_lift_21, dX4_lift_23, dX4_lift_25, dX4_lift_28, dX4_lift_30, dX4_lift_32, dX4_lift_33, dX4_lift_35, dX4_lift_37, dX4_lift_38, dX4_lift_39, dX4_lift_40, dX4_lift_43, dX4_lift_45, dX4_lift_46, dX4_lift_47, dX4_lift_48, dX4_lift_49, dX4_lift_50, dX4_lift_53, dX4_lift_54, dX4_lift_57, dX4_lift_59, dX4_lift_60, dX4_lift_61, dX4_lift_62, dX4_lift_63, dX4_lift_64, dX4_lift_65, dX4_lift_66, dX4_lift_67, dX4_lift_68, dX4_lift_71, dX4_lift_74, dX4_lift_76, dX4_lift_77, dX4_lift_78, dX4_lift_80, dX4_lift_81, dX4_lift_82, dX4_lift_83, dX4_lift_84, dX4_lift_85, dX4_lift_86, dX4_lift_89, dX4_lift_92, dX4_lift_95, ab_wp0, ab_wps, ab_stp, ab_g, ab_st, ab_k2, ab_cl, ab_pop, ab_sz, ab_2, ab_ret, ab_f4, ab_tg, ab_I, ab_II, ab_A, ab_Rf, ab_VR, ab_IR, ab_VIR, ab_1, ab_LL, ab_DD, ab_ob, ab_pr, ab_qr, ab_ln, ab_so, ab_vI, ab_vA, ab_vD, ab_vL, ab_v2, ab_c, ab_fit, ab_rv, ab_tsw, ab_lsw, ab_up_eq, Fin.isValue, ab_f0, ab_f1, ab_f2, ab_f3, List.getElem?_cons_zero, List.getElem?_cons_succ, List.set_cons_zero, List.set_cons_succ, List.length_cons, List.length_nil, List.size_toArray, List.head?_cons, List.tail_cons, Option.map_some, cond_true, cond_false, true_and, and_true, false_and, and_false, not_true_eq_false, not_false_eq_true, true_imp_iff, false_imp_iff, if_true, if_false, ite_true, ite_false, ↓reduceIte, Nat.reduceAdd, Nat.reduceEqDiff, Nat.reduceLeDiff, Nat.reduceLT, Nat.reduceBEq, Nat.reduceBNe, Int.reduceAdd, Int.reduceNeg, Int.reduceSub, Int.reduceLE, Int.reduceLT, Int.reduceToNat, Int.reduceEq, Int.reduceMul, Int.cast_ofNat_Int, Nat.zero_add, Nat.add_zero, Nat.le_refl, eq_self, ne_eq, reduceCtorEq, or_true, true_or, or_false, false_or, Bool.or_true, Bool.or_false, Bool.true_or, Bool.false_or, Nat.zero_le, Int.le_refl, Int.ofNat_zero, Int.ofNat_one, Bool.false_eq_true]
            try simp only [ab_in]
            (repeat' (first | intro _ | refine And.intro ?_ ?_)) <;> (first | exact ih1 | exact rfl | contradiction | omega | (exfalso; omega))
          · simp only [Int.reduceEq, if_false] at hm
            refine hV (fun p => p == 21) 80 _ _ _ _ _ _ ?_
            simp only [hlt, D0, hp, hpc, hc, bI_in, bI_0, bI_1, bI_t, bI_f, bI_01, ae_aaload, ae_aload, ae_aload_n, ae_astore, ae_goto, ae_iadd, ae_iaload, ae_iconst, ae_ifCond, ae_if_icmp, ae_iinc, ae_iload, ae_iload_n, dX4_lift_21, dX4_lift_23, dX4_lift_25, dX4_lift_28, dX4_lift_30, dX4_lift_32, dX4_lift_33, dX4_lift_35, dX4_lift_37, dX4_lift_38, dX4_lift_39, dX4_lift_40, dX4_lift_43, dX4_lift_45, dX4_lift_46, dX4_lift_47, dX4_lift_48, dX4_lift_49, dX4_lift_50, dX4_lift_53, dX4_lift_54, dX4_lift_57, dX4_lift_59, dX4_lift_60, dX4_lift_61, dX4_lift_62, dX4_lift_63, dX4_lift_64, dX4_lift_65, dX4_lift_66, dX4_lift_67, dX4_lift_68, dX4_lift_71, dX4_lift_74, dX4_lift_76, dX4_lift_77, dX4_lift_78, dX4_lift_80, dX4_lift_81, dX4_lift_82, dX4_lift_83, dX4_lift_84, dX4_lift_85, dX4_lift_86, dX4_lift_89, dX4_lift_92, dX4_lift_95, ab_wp0, ab_wps, ab_stp, ab_g, ab_st, ab_k2, ab_cl, ab_pop, ab_sz, ab_2, ab_ret, ab_f4, ab_tg, ab_I, ab_II, ab_A, ab_Rf, ab_VR, ab_IR, ab_VIR, ab_1, ab_LL, ab_DD, ab_ob, ab_pr, ab_qr, ab_ln, ab_so, ab_vI, ab_vA, ab_vD, ab_vL, ab_v2, ab_c, ab_fit, ab_rv, ab_tsw, ab_lsw, ab_up_eq, Fin.isValue, ab_f0, ab_f1, ab_f2, ab_f3, List.getElem?_cons_zero, List.getElem?_cons_succ, List.set_cons_zero, List.set_cons_succ, List.length_cons, List.length_nil, List.size_toArray, List.head?_cons, List.tail_cons, Option.map_some, cond_true, cond_false, true_and, and_true, false_and, and_false, not_true_eq_false, not_false_eq_true, true_imp_iff, false_imp_iff, if_true, if_false, ite_true, ite_false, ↓reduceIte, Nat.reduceAdd, Nat.reduceEqDiff, Nat.reduceLeDiff, Nat.reduceLT, Nat.reduceBEq, Nat.reduceBNe, Int.reduceAdd, Int.reduceNeg, Int.reduceSub, Int.reduceLE, Int.reduceLT, Int.reduceToNat, Int.reduceEq, Int.reduceMul, Int.cast_ofNat_Int, Nat.zero_add, Nat.add_zero, Nat.le_refl, eq_self, ne_eq, reduceCtorEq, or_true, true_or, or_false, false_or, Bool.or_true, Bool.or_false, Bool.true_or, Bool.false_or, Nat.zero_le, Int.le_refl, Int.ofNat_zero, Int.ofNat_one, Bool.false_eq_true]
            try simp only [ab_in]
            (repeat' (first | intro _ | refine And.intro ?_ ?_)) <;> (first | exact ih1 | exact rfl | contradiction | omega | (exfalso; omega))
    have l0 := loop M.n 0 (force + f 0) none (by omega) (by omega) (by omega) rfl
    refine hV (fun p => p == 21) 80 _ _ _ _ _ _ ?_
    simp only [D, D0, hc, bI_in, bI_0, bI_1, bI_t, bI_f, bI_01, ae_aload, ae_aload_n, ae_arraylength, ae_astore, ae_getfield, ae_iadd, ae_iaload, ae_iconst, ae_iload_n, ae_istore, dX4_lift_0, dX4_lift_1, dX4_lift_2, dX4_lift_3, dX4_lift_4, dX4_lift_5, dX4_lift_7, dX4_lift_8, dX4_lift_11, dX4_lift_13, dX4_lift_15, dX4_lift_16, dX4_lift_18, dX4_lift_19, tbX4_g9, ab_wp0, ab_wps, ab_stp, ab_g, ab_st, ab_k2, ab_cl, ab_pop, ab_sz, ab_2, ab_ret, ab_f4, ab_tg, ab_I, ab_II, ab_A, ab_Rf, ab_VR, ab_IR, ab_VIR, ab_1, ab_LL, ab_DD, ab_ob, ab_pr, ab_qr, ab_ln, ab_so, ab_vI, ab_vA, ab_vD, ab_vL, ab_v2, ab_c, ab_fit, ab_rv, ab_tsw, ab_lsw, ab_up_eq, Fin.isValue, ab_f0, ab_f1, ab_f2, ab_f3, List.getElem?_cons_zero, List.getElem?_cons_succ, List.set_cons_zero, List.set_cons_succ, List.length_cons, List.length_nil, List.size_toArray, List.head?_cons, List.tail_cons, Option.map_some, cond_true, cond_false, true_and, and_true, false_and, and_false, not_true_eq_false, not_false_eq_true, true_imp_iff, false_imp_iff, if_true, if_false, ite_true, ite_false, ↓reduceIte, Nat.reduceAdd, Nat.reduceEqDiff, Nat.reduceLeDiff, Nat.reduceLT, Nat.reduceBEq, Nat.reduceBNe, Int.reduceAdd, Int.reduceNeg, Int.reduceSub, Int.reduceLE, Int.reduceLT, Int.reduceToNat, Int.reduceEq, Int.reduceMul, Int.cast_ofNat_Int, Nat.zero_add, Nat.add_zero, Nat.le_refl, eq_self, ne_eq, reduceCtorEq, or_true, true_or, or_false, false_or, Bool.or_true, Bool.or_false, Bool.true_or, Bool.false_or, Nat.zero_le, Int.le_refl, Int.ofNat_zero, Int.ofNat_one, Bool.false_eq_true]
    try simp only [ab_in]
    (repeat' (first | intro _ | refine And.intro ?_ ?_)) <;> (first | exact l0 | contradiction | omega | (exfalso; omega))
  · exact hT.elim
set_option maxRecDepth 100000 in
theorem con_X4_lift (l : Launch) (D : va_G) (ty : Nat → ClassId) (base : Nat) : ab_Con l D vwCl ty lw_ts base lw_wd yX4_lift cX4_lift 9 (some .int) 0 0 0 0 Tr_X4_lift :=
  ab_con_of (own := RX4) (rt := 1) (tb := tbX4) (ini := false) (ca := ca_X4_lift) (by decide +kernel) rfl (fun h => by cases h) rfl lw_wd_ok wtbX4 lw_ar cm_X4_lift
    (fun p e R s m args below meth c K hcx => by
      obtain ⟨hx, hb, hml, hown, hF, rfl⟩ := hcx
      exact ab_lk_all (ab_all_n))
    (by intro as h K ht; unfold Tr_X4_lift at ht; split at ht <;> first | exact ht.elim | exact Nat.le_of_ble_eq_true rfl) (sem_X4_lift base)
noncomputable def Tr_X4_covered : ATr := fun as h K => match as with
  | [.inr (.inl (some a)), .inl x9, .inl y9] => ab_so (ab_sim h a) fun P => ((0 ≤ x9 ∧ x9 ≤ 11) ∧ (0 ≤ y9 ∧ y9 ≤ 7)) ∧ K (some (.inl (bI (covS P.2 x9 y9)))) h
  | _ => False
theorem mo_X4_covered : ab_mo Tr_X4_covered := by
  intro as h K K' hk ht
  unfold Tr_X4_covered at ht ⊢
  split at ht
  · exact ab_so_mo (fun _ q => ⟨q.1, hk _ _ q.2⟩) ht
  · exact ht.elim
def ca_X4_covered : Nat → Option ACS := ab_lk [(31, (2, 0, 4, 0, 0, Tr_X4_meets))]
theorem ca_X4_covered_31 : ca_X4_covered 31 = some (2, 0, 4, 0, 0, Tr_X4_meets) := rfl
theorem cm_X4_covered : ∀ i q, ca_X4_covered i = some q → ab_moq i q := ab_lk_all (ab_all_c mo_X4_meets (ab_all_n))
set_option maxRecDepth 100000 in
set_option maxHeartbeats 4000000 in
theorem sem_X4_covered (base : Nat) : ab_Sem tbX4 lw_ts base cX4_covered ca_X4_covered 2 7 0 0 (fun as => ab_en as 7) Tr_X4_covered := by
  intro as h K hT V hV
  unfold Tr_X4_covered at hT
  split at hT
  · rename_i a x9 y9
    obtain ⟨⟨⟨sA, fS, rA, fR, dA, fD⟩, M⟩, hP, hT2⟩ := ab_so_el hT
    have hA := sim_el hP
    obtain ⟨mb, D, nd, D0, D1, D2, r0, r1, r2⟩ := id hA
    obtain ⟨mb1, mb2, mb3, mb4, mb5, mb6⟩ := id mb
    dsimp only at D D0 D1 D2 r0 r1 r2 mb1 mb2 mb3 mb4 mb5 mb6
    obtain ⟨hs, hK⟩ := hT2
    show V 0 [some (.inr (.inl (some a))), some (.inl x9), some (.inl y9), none, none, none, none] [] h 0 0
    have loop : ∀ (m : Nat) (x : Int) (w : Option AV), x + m = M.n → 0 ≤ x → K (some (.inl (bI (anyR (fun k => decide (M.sl k 4 = 0) && (meetsF (M.sl k) y9 x9 1 || meetsF (M.sl k) (y9 + 1) x9 1)) m x)))) h → V 12 [some (.inr (.inl (some a))), some (.inl x9), some (.inl y9), some (.inr (.inl (some sA))), some (.inl (M.n : Int)), some (.inl x), w] [] h 0 0 := by
      intro m
      induction m with
      | zero =>
        intro x w hx h0 hk2
        have hle : (M.n : Int) ≤ x := by omega
        simp only [anyR, bI_f] at hk2
        refine hV (fun p => p == 12) 80 _ _ _ _ _ _ ?_
        simp only [hle, bI_in, bI_0, bI_1, bI_t, bI_f, bI_01, ae_aaload, ae_aload, ae_aload_n, ae_astore, ae_goto, ae_iadd, ae_iaload, ae_iconst, ae_ifCond, ae_if_icmp, ae_iinc, ae_iload, ae_iload_n, ae_invokestatic, ae_ireturn, dX4_covered_12, dX4_covered_14, dX4_covered_16, dX4_covered_19, dX4_covered_20, dX4_covered_22, dX4_covered_23, dX4_covered_25, dX4_covered_27, dX4_covered_28, dX4_covered_29, dX4_covered_32, dX4_covered_34, dX4_covered_35, dX4_covered_36, dX4_covered_37, dX4_covered_40, dX4_covered_43, dX4_covered_45, dX4_covered_46, dX4_covered_47, dX4_covered_48, dX4_covered_49, dX4_covered_50, dX4_covered_53, dX4_covered_56, dX4_covered_57, dX4_covered_58, dX4_covered_61, dX4_covered_64, dX4_covered_65, ca_X4_covered_31, ab_wp0, ab_wps, ab_stp, ab_g, ab_st, ab_k2, ab_cl, ab_pop, ab_sz, ab_2, ab_ret, ab_f4, ab_tg, ab_I, ab_II, ab_A, ab_Rf, ab_VR, ab_IR, ab_VIR, ab_1, ab_LL, ab_DD, ab_ob, ab_pr, ab_qr, ab_ln, ab_so, ab_vI, ab_vA, ab_vD, ab_vL, ab_v2, ab_c, ab_fit, ab_rv, ab_tsw, ab_lsw, ab_up_eq, Fin.isValue, ab_f0, ab_f1, ab_f2, ab_f3, List.getElem?_cons_zero, List.getElem?_cons_succ, List.set_cons_zero, List.set_cons_succ, List.length_cons, List.length_nil, List.size_toArray, List.head?_cons, List.tail_cons, Option.map_some, cond_true, cond_false, true_and, and_true, false_and, and_false, not_true_eq_false, not_false_eq_true, true_imp_iff, false_imp_iff, if_true, if_false, ite_true, ite_false, ↓reduceIte, Nat.reduceAdd, Nat.reduceEqDiff, Nat.reduceLeDiff, Nat.reduceLT, Nat.reduceBEq, Nat.reduceBNe, Int.reduceAdd, Int.reduceNeg, Int.reduceSub, Int.reduceLE, Int.reduceLT, Int.reduceToNat, Int.reduceEq, Int.reduceMul, Int.cast_ofNat_Int, Nat.zero_add, Nat.add_zero, Nat.le_refl, eq_self, ne_eq, reduceCtorEq, or_true, true_or, or_false, false_or, Bool.or_true, Bool.or_false, Bool.true_or, Bool.false_or, Nat.zero_le, Int.le_refl, Int.ofNat_zero, Int.ofNat_one, Bool.false_eq_true]
        try simp only [ab_in]
        (repeat' (first | intro _ | refine And.intro ?_ ?_)) <;> (first | exact hk2 | contradiction | omega | (exfalso; omega))
      | succ m ih =>
        intro x w hx h0 hk2
        have hlt : ¬ (M.n : Int) ≤ x := by omega
        obtain ⟨p, hp, hpc⟩ := r0.1 x h0 (by omega)
        have hsl := mb1 x
        obtain ⟨c1, c2, c3, c4, c5⟩ := id hsl
        simp only [anyR] at hk2
        by_cases h4 : M.sl x 4 = 0
        · cases hm : meetsF (M.sl x) y9 x9 1
          · cases hm2 : meetsF (M.sl x) (y9 + 1) x9 1
            · simp only [h4, hm, hm2, decide_true, Bool.or_self, Bool.and_false, Bool.false_or] at hk2
              have ih1 := ih (x + 1) (some (.inr (.inl (some p)))) (by omega) (by omega) hk2
              refine hV (fun p => p == 12) 80 _ _ _ _ _ _ ?_
              simp only [hlt, D0, hp, hpc, h4, hm, hm2, bI_in, bI_0, bI_1, bI_t, bI_f, bI_01, Tr_X4_meets, ae_aaload, ae_aload, ae_aload_n, ae_astore, ae_goto, ae_iadd, ae_iaload, ae_iconst, ae_ifCond, ae_if_icmp, ae_iinc, ae_iload, ae_iload_n, ae_invokestatic, ae_ireturn, dX4_covered_12, dX4_covered_14, dX4_covered_16, dX4_covered_19, dX4_covered_20, dX4_covered_22, dX4_covered_23, dX4_covered_25, dX4_covered_27, dX4_covered_28, dX4_covered_29, dX4_covered_32, dX4_covered_34, dX4_covered_35, dX4_covered_36, dX4_covered_37, dX4_covered_40, dX4_covered_43, dX4_covered_45, dX4_covered_46, dX4_covered_47, dX4_covered_48, dX4_covered_49, dX4_covered_50, dX4_covered_53, dX4_covered_56, dX4_covered_57, dX4_covered_58, dX4_covered_61, dX4_covered_64, dX4_covered_65, ca_X4_covered_31, ab_wp0, ab_wps, ab_stp, ab_g, ab_st, ab_k2, ab_cl, ab_pop, ab_sz, ab_2, ab_ret, ab_f4, ab_tg, ab_I, ab_II, ab_A, ab_Rf, ab_VR, ab_IR, ab_VIR, ab_1, ab_LL, ab_DD, ab_ob, ab_pr, ab_qr, ab_ln, ab_so, ab_vI, ab_vA, ab_vD, ab_vL, ab_v2, ab_c, ab_fit, ab_rv, ab_tsw, ab_lsw, ab_up_eq, Fin.isValue, ab_f0, ab_f1, ab_f2, ab_f3, List.getElem?_cons_zero, List.getElem?_cons_succ, List.set_cons_zero, List.set_cons_succ, List.length_cons, List.length_nil, List.size_toArray, List.head?_cons, List.tail_cons, Option.map_some, cond_true, cond_false, true_and, and_true, false_and, and_false, not_true_eq_false, not_false_eq_true, true_imp_iff, false_imp_iff, if_true, if_false, ite_true, ite_false, ↓reduceIte, Nat.reduceAdd, Nat.reduceEqDiff, Nat.reduceLeDiff, Nat.reduceLT, Nat.reduceBEq, Nat.reduceBNe, Int.reduceAdd, Int.reduceNeg, Int.reduceSub, Int.reduceLE, Int.reduceLT, Int.reduceToNat, Int.reduceEq, Int.reduceMul, Int.cast_ofNat_Int, Nat.zero_add, Nat.add_zero, Nat.le_refl, eq_self, ne_eq, reduceCtorEq, or_true, true_or, or_false, false_or, Bool.or_true, Bool.or_false, Bool.true_or, Bool.false_or, Nat.zero_le, Int.le_refl, Int.ofNat_zero, Int.ofNat_one, Bool.false_eq_true]
              try simp only [ab_in]
              (repeat' (first | intro _ | refine And.intro ?_ ?_)) <;> (first | exact ih1 | exact hsl | exact rfl | contradiction | omega | (exfalso; omega))
            · simp only [h4, hm, hm2, decide_true, Bool.false_or, Bool.or_true, Bool.true_and, Bool.true_or, bI_t] at hk2
              refine hV (fun p => p == 12) 80 _ _ _ _ _ _ ?_
              simp only [hlt, D0, hp, hpc, h4, hm, hm2, bI_in, bI_0, bI_1, bI_t, bI_f, bI_01, Tr_X4_meets, ae_aaload, ae_aload, ae_aload_n, ae_astore, ae_goto, ae_iadd, ae_iaload, ae_iconst, ae_ifCond, ae_if_icmp, ae_iinc, ae_iload, ae_iload_n, ae_invokestatic, ae_ireturn, dX4_covered_12, dX4_covered_14, dX4_covered_16, dX4_covered_19, dX4_covered_20, dX4_covered_22, dX4_covered_23, dX4_covered_25, dX4_covered_27, dX4_covered_28, dX4_covered_29, dX4_covered_32, dX4_covered_34, dX4_covered_35, dX4_covered_36, dX4_covered_37, dX4_covered_40, dX4_covered_43, dX4_covered_45, dX4_covered_46, dX4_covered_47, dX4_covered_48, dX4_covered_49, dX4_covered_50, dX4_covered_53, dX4_covered_56, dX4_covered_57, dX4_covered_58, dX4_covered_61, dX4_covered_64, dX4_covered_65, ca_X4_covered_31, ab_wp0, ab_wps, ab_stp, ab_g, ab_st, ab_k2, ab_cl, ab_pop, ab_sz, ab_2, ab_ret, ab_f4, ab_tg, ab_I, ab_II, ab_A, ab_Rf, ab_VR, ab_IR, ab_VIR, ab_1, ab_LL, ab_DD, ab_ob, ab_pr, ab_qr, ab_ln, ab_so, ab_vI, ab_vA, ab_vD, ab_vL, ab_v2, ab_c, ab_fit, ab_rv, ab_tsw, ab_lsw, ab_up_eq, Fin.isValue, ab_f0, ab_f1, ab_f2, ab_f3, List.getElem?_cons_zero, List.getElem?_cons_succ, List.set_cons_zero, List.set_cons_succ, List.length_cons, List.length_nil, List.size_toArray, List.head?_cons, List.tail_cons, Option.map_some, cond_true, cond_false, true_and, and_true, false_and, and_false, not_true_eq_false, not_false_eq_true, true_imp_iff, false_imp_iff, if_true, if_false, ite_true, ite_false, ↓reduceIte, Nat.reduceAdd, Nat.reduceEqDiff, Nat.reduceLeDiff, Nat.reduceLT, Nat.reduceBEq, Nat.reduceBNe, Int.reduceAdd, Int.reduceNeg, Int.reduceSub, Int.reduceLE, Int.reduceLT, Int.reduceToNat, Int.reduceEq, Int.reduceMul, Int.cast_ofNat_Int, Nat.zero_add, Nat.add_zero, Nat.le_refl, eq_self, ne_eq, reduceCtorEq, or_true, true_or, or_false, false_or, Bool.or_true, Bool.or_false, Bool.true_or, Bool.false_or, Nat.zero_le, Int.le_refl, Int.ofNat_zero, Int.ofNat_one, Bool.false_eq_true]
              try simp only [ab_in]
              (repeat' (first | intro _ | refine And.intro ?_ ?_)) <;> (first | exact hk2 | exact hsl | exact rfl | contradiction | omega | (exfalso; omega))
          · simp only [h4, hm, decide_true, Bool.true_or, Bool.true_and, bI_t] at hk2
            refine hV (fun p => p == 12) 80 _ _ _ _ _ _ ?_
            simp only [hlt, D0, hp, hpc, h4, hm, bI_in, bI_0, bI_1, bI_t, bI_f, bI_01, Tr_X4_meets, ae_aaload, ae_aload, ae_aload_n, ae_astore, ae_goto, ae_iadd, ae_iaload, ae_iconst, ae_ifCond, ae_if_icmp, ae_iinc, ae_iload, ae_iload_n, ae_invokestatic, ae_ireturn, dX4_covered_12, dX4_covered_14, dX4_covered_16, dX4_covered_19, dX4_covered_20, dX4_covered_22, dX4_covered_23, dX4_covered_25, dX4_covered_27, dX4_covered_28, dX4_covered_29, dX4_covered_32, dX4_covered_34, dX4_covered_35, dX4_covered_36, dX4_covered_37, dX4_covered_40, dX4_covered_43, dX4_covered_45, dX4_covered_46, dX4_covered_47, dX4_covered_48, dX4_covered_49, dX4_covered_50, dX4_covered_53, dX4_covered_56, dX4_covered_57, dX4_covered_58, dX4_covered_61, dX4_covered_64, dX4_covered_65, ca_X4_covered_31, ab_wp0, ab_wps, ab_stp, ab_g, ab_st, ab_k2, ab_cl, ab_pop, ab_sz, ab_2, ab_ret, ab_f4, ab_tg, ab_I, ab_II, ab_A, ab_Rf, ab_VR, ab_IR, ab_VIR, ab_1, ab_LL, ab_DD, ab_ob, ab_pr, ab_qr, ab_ln, ab_so, ab_vI, ab_vA, ab_vD, ab_vL, ab_v2, ab_c, ab_fit, ab_rv, ab_tsw, ab_lsw, ab_up_eq, Fin.isValue, ab_f0, ab_f1, ab_f2, ab_f3, List.getElem?_cons_zero, List.getElem?_cons_succ, List.set_cons_zero, List.set_cons_succ, List.length_cons, List.length_nil, List.size_toArray, List.head?_cons, List.tail_cons, Option.map_some, cond_true, cond_false, true_and, and_true, false_and, and_false, not_true_eq_false, not_false_eq_true, true_imp_iff, false_imp_iff, if_true, if_false, ite_true, ite_false, ↓reduceIte, Nat.reduceAdd, Nat.reduceEqDiff, Nat.reduceLeDiff, Nat.reduceLT, Nat.reduceBEq, Nat.reduceBNe, Int.reduceAdd, Int.reduceNeg, Int.reduceSub, Int.reduceLE, Int.reduceLT, Int.reduceToNat, Int.reduceEq, Int.reduceMul, Int.cast_ofNat_Int, Nat.zero_add, Nat.add_zero, Nat.le_refl, eq_self, ne_eq, reduceCtorEq, or_true, true_or, or_false, false_or, Bool.or_true, Bool.or_false, Bool.true_or, Bool.false_or, Nat.zero_le, Int.le_refl, Int.ofNat_zero, Int.ofNat_one, Bool.false_eq_true]
            try simp only [ab_in]
            (repeat' (first | intro _ | refine And.intro ?_ ?_)) <;> (first | exact hk2 | exact hsl | exact rfl | contradiction | omega | (exfalso; omega))
        · simp only [h4, decide_false, Bool.false_and, Bool.false_or] at hk2
          have ih1 := ih (x + 1) (some (.inr (.inl (some p)))) (by omega) (by omega) hk2
          refine hV (fun p => p == 12) 80 _ _ _ _ _ _ ?_
          simp only [hlt, D0, hp, hpc, h4, bI_in, bI_0, bI_1, bI_t, bI_f, bI_01, Tr_X4_meets, ae_aaload, ae_aload, ae_aload_n, ae_astore, ae_goto, ae_iadd, ae_iaload, ae_iconst, ae_ifCond, ae_if_icmp, ae_iinc, ae_iload, ae_iload_n, ae_invokestatic, ae_ireturn, dX4_covered_12, dX4_covered_14, dX4_covered_16, dX4_covered_19, dX4_covered_20, dX4_covered_22, dX4_covered_23, dX4_covered_25, dX4_covered_27, dX4_covered_28, dX4_covered_29, dX4_covered_32, dX4_covered_34, dX4_covered_35, dX4_covered_36, dX4_covered_37, dX4_covered_40, dX4_covered_43, dX4_covered_45, dX4_covered_46, dX4_covered_47, dX4_covered_48, dX4_covered_49, dX4_covered_50, dX4_covered_53, dX4_covered_56, dX4_covered_57, dX4_covered_58, dX4_covered_61, dX4_covered_64, dX4_covered_65, ca_X4_covered_31, ab_wp0, ab_wps, ab_stp, ab_g, ab_st, ab_k2, ab_cl, ab_pop, ab_sz, ab_2, ab_ret, ab_f4, ab_tg, ab_I, ab_II, ab_A, ab_Rf, ab_VR, ab_IR, ab_VIR, ab_1, ab_LL, ab_DD, ab_ob, ab_pr, ab_qr, ab_ln, ab_so, ab_vI, ab_vA, ab_vD, ab_vL, ab_v2, ab_c, ab_fit, ab_rv, ab_tsw, ab_lsw, ab_up_eq, Fin.isValue, ab_f0, ab_f1, ab_f2, ab_f3, List.getElem?_cons_zero, List.getElem?_cons_succ, List.set_cons_zero, List.set_cons_succ, List.length_cons, List.length_nil, List.size_toArray, List.head?_cons, List.tail_cons, Option.map_some, cond_true, cond_false, true_and, and_true, false_and, and_false, not_true_eq_false, not_false_eq_true, true_imp_iff, false_imp_iff, if_true, if_false, ite_true, ite_false, ↓reduceIte, Nat.reduceAdd, Nat.reduceEqDiff, Nat.reduceLeDiff, Nat.reduceLT, Nat.reduceBEq, Nat.reduceBNe, Int.reduceAdd, Int.reduceNeg, Int.reduceSub, Int.reduceLE, Int.reduceLT, Int.reduceToNat, Int.reduceEq, Int.reduceMul, Int.cast_ofNat_Int, Nat.zero_add, Nat.add_zero, Nat.le_refl, eq_self, ne_eq, reduceCtorEq, or_true, true_or, or_false, false_or, Bool.or_true, Bool.or_false, Bool.true_or, Bool.false_or, Nat.zero_le, Int.le_refl, Int.ofNat_zero, Int.ofNat_one, Bool.false_eq_true]
          try simp only [ab_in]
          (repeat' (first | intro _ | refine And.intro ?_ ?_)) <;> (first | exact ih1 | exact hsl | exact rfl | contradiction | omega | (exfalso; omega))
    have l0 := loop M.n 0 none (by omega) (by omega) hK
    refine hV (fun p => p == 12) 80 _ _ _ _ _ _ ?_
    simp only [D, D0, bI_in, bI_0, bI_1, bI_t, bI_f, bI_01, ae_aload_n, ae_arraylength, ae_astore_n, ae_getfield, ae_iconst, ae_istore, dX4_covered_0, dX4_covered_1, dX4_covered_4, dX4_covered_5, dX4_covered_6, dX4_covered_7, dX4_covered_9, dX4_covered_10, tbX4_g9, ca_X4_covered_31, ab_wp0, ab_wps, ab_stp, ab_g, ab_st, ab_k2, ab_cl, ab_pop, ab_sz, ab_2, ab_ret, ab_f4, ab_tg, ab_I, ab_II, ab_A, ab_Rf, ab_VR, ab_IR, ab_VIR, ab_1, ab_LL, ab_DD, ab_ob, ab_pr, ab_qr, ab_ln, ab_so, ab_vI, ab_vA, ab_vD, ab_vL, ab_v2, ab_c, ab_fit, ab_rv, ab_tsw, ab_lsw, ab_up_eq, Fin.isValue, ab_f0, ab_f1, ab_f2, ab_f3, List.getElem?_cons_zero, List.getElem?_cons_succ, List.set_cons_zero, List.set_cons_succ, List.length_cons, List.length_nil, List.size_toArray, List.head?_cons, List.tail_cons, Option.map_some, cond_true, cond_false, true_and, and_true, false_and, and_false, not_true_eq_false, not_false_eq_true, true_imp_iff, false_imp_iff, if_true, if_false, ite_true, ite_false, ↓reduceIte, Nat.reduceAdd, Nat.reduceEqDiff, Nat.reduceLeDiff, Nat.reduceLT, Nat.reduceBEq, Nat.reduceBNe, Int.reduceAdd, Int.reduceNeg, Int.reduceSub, Int.reduceLE, Int.reduceLT, Int.reduceToNat, Int.reduceEq, Int.reduceMul, Int.cast_ofNat_Int, Nat.zero_add, Nat.add_zero, Nat.le_refl, eq_self, ne_eq, reduceCtorEq, or_true, true_or, or_false, false_or, Bool.or_true, Bool.or_false, Bool.true_or, Bool.false_or, Nat.zero_le, Int.le_refl, Int.ofNat_zero, Int.ofNat_one, Bool.false_eq_true]
    try simp only [ab_in]
    (repeat' (first | intro _ | refine And.intro ?_ ?_)) <;> (first | exact l0 | contradiction | omega | (exfalso; omega))
  · exact hT.elim
set_option maxRecDepth 100000 in
theorem con_X4_covered (l : Launch) (D : va_G) (ty : Nat → ClassId) (base : Nat) : ab_Con l D vwCl ty lw_ts base lw_wd yX4_covered cX4_covered 7 (some .boolean) 1 23 0 0 Tr_X4_covered :=
  ab_con_of (own := RX4) (rt := 2) (tb := tbX4) (ini := false) (ca := ca_X4_covered) (by decide +kernel) rfl (fun h => by cases h) rfl lw_wd_ok wtbX4 lw_ar cm_X4_covered
    (fun p e R s m args below meth c K hcx => by
      obtain ⟨hx, hb, hml, hown, hF, rfl⟩ := hcx
      exact ab_lk_all (ab_all_c (ab_tc_S hx hb hml hown lw_wd_ok hF ⟨rfl, rfl⟩ (con_X4_meets l D ty base) (lw_wi (by decide +kernel) (by decide +kernel)) (lw_wi (by decide +kernel) (by decide +kernel)) (lw_wi (by decide +kernel) (by decide +kernel)) (lw_wi (by decide +kernel) (by decide +kernel)) (by decide +kernel) ⟨by decide, by decide⟩) (ab_all_n)))
    (by intro as h K ht; unfold Tr_X4_covered at ht; split at ht <;> first | exact ht.elim | exact Nat.le_of_ble_eq_true rfl) (sem_X4_covered base)
noncomputable def Tr_X4_covered_ : ATr := fun as h K => match as with
  | [.inr (.inl (some a))] => ab_so (ab_sim h a) fun P => (True) ∧ K (some (.inl (covAllS P.2))) h
  | _ => False
theorem mo_X4_covered_ : ab_mo Tr_X4_covered_ := by
  intro as h K K' hk ht
  unfold Tr_X4_covered_ at ht ⊢
  split at ht
  · exact ab_so_mo (fun _ q => ⟨q.1, hk _ _ q.2⟩) ht
  · exact ht.elim
def ca_X4_covered_ : Nat → Option ACS := ab_lk [(49, (0, 4, 3, 0, 0, Tr_X4_covered))]
theorem ca_X4_covered__49 : ca_X4_covered_ 49 = some (0, 4, 3, 0, 0, Tr_X4_covered) := rfl
theorem cm_X4_covered_ : ∀ i q, ca_X4_covered_ i = some q → ab_moq i q := ab_lk_all (ab_all_c mo_X4_covered (ab_all_n))
set_option maxRecDepth 100000 in
set_option maxHeartbeats 4000000 in
theorem sem_X4_covered_ (base : Nat) : ab_Sem tbX4 lw_ts base cX4_covered_ ca_X4_covered_ 1 4 0 0 (fun as => ab_en as 4) Tr_X4_covered_ := by
  intro as h K hT V hV
  unfold Tr_X4_covered_ at hT
  split at hT
  · rename_i a
    obtain ⟨⟨⟨sA, fS, rA, fR, dA, fD⟩, M⟩, hP, hT2⟩ := ab_so_el hT
    have hA := sim_el hP
    obtain ⟨mb, D, nd, D0, D1, D2, r0, r1, r2⟩ := id hA
    obtain ⟨mb1, mb2, mb3, mb4, mb5, mb6⟩ := id mb
    dsimp only at D D0 D1 D2 r0 r1 r2 mb1 mb2 mb3 mb4 mb5 mb6
    obtain ⟨-, hK⟩ := hT2
    show V 0 [some (.inr (.inl (some a))), none, none, none] [] h 0 0
    have gr : ∀ x y, 0 ≤ bI (covS M x y) ∧ bI (covS M x y) ≤ 9 := fun x y => by cases covS M x y <;> simp [bI]
    have out : ∀ (mx : Nat) (x acc : Int) (w : Option AV), x + mx = 12 → 0 ≤ x → (0 ≤ acc ∧ acc ≤ 72 * x) → acc + sumR (fun x => sumR (fun y => bI (covS M x y)) 8 0) mx x = covAllS M → V 4 [some (.inr (.inl (some a))), some (.inl acc), some (.inl x), w] [] h 0 0 := by
      intro mx
      induction mx with
      | zero =>
        intro x acc w hx h0 ha he
        have hk2 : K (some (.inl acc)) h := by rw [← he] at hK; simpa [sumR] using hK
        have hle : 12 ≤ x := by omega
        refine hV (fun p => bif p == 4 then true else p == 12) 80 _ _ _ _ _ _ ?_
        simp only [hle, bI_in, bI_0, bI_1, bI_t, bI_f, bI_01, ae_aload_n, ae_bipush, ae_goto, ae_iadd, ae_iconst, ae_ifCond, ae_if_icmp, ae_iinc, ae_iload_n, ae_invokevirtual, ae_ireturn, ae_istore_n, dX4_covered__4, dX4_covered__5, dX4_covered__7, dX4_covered__10, dX4_covered__11, dX4_covered__12, dX4_covered__13, dX4_covered__15, dX4_covered__18, dX4_covered__19, dX4_covered__20, dX4_covered__21, dX4_covered__22, dX4_covered__25, dX4_covered__28, dX4_covered__29, dX4_covered__32, dX4_covered__33, dX4_covered__34, dX4_covered__35, dX4_covered__38, dX4_covered__41, dX4_covered__44, dX4_covered__47, dX4_covered__48, ca_X4_covered__49, ab_wp0, ab_wps, ab_stp, ab_g, ab_st, ab_k2, ab_cl, ab_pop, ab_sz, ab_2, ab_ret, ab_f4, ab_tg, ab_I, ab_II, ab_A, ab_Rf, ab_VR, ab_IR, ab_VIR, ab_1, ab_LL, ab_DD, ab_ob, ab_pr, ab_qr, ab_ln, ab_so, ab_vI, ab_vA, ab_vD, ab_vL, ab_v2, ab_c, ab_fit, ab_rv, ab_tsw, ab_lsw, ab_up_eq, Fin.isValue, ab_f0, ab_f1, ab_f2, ab_f3, List.getElem?_cons_zero, List.getElem?_cons_succ, List.set_cons_zero, List.set_cons_succ, List.length_cons, List.length_nil, List.size_toArray, List.head?_cons, List.tail_cons, Option.map_some, cond_true, cond_false, true_and, and_true, false_and, and_false, not_true_eq_false, not_false_eq_true, true_imp_iff, false_imp_iff, if_true, if_false, ite_true, ite_false, ↓reduceIte, Nat.reduceAdd, Nat.reduceEqDiff, Nat.reduceLeDiff, Nat.reduceLT, Nat.reduceBEq, Nat.reduceBNe, Int.reduceAdd, Int.reduceNeg, Int.reduceSub, Int.reduceLE, Int.reduceLT, Int.reduceToNat, Int.reduceEq, Int.reduceMul, Int.cast_ofNat_Int, Nat.zero_add, Nat.add_zero, Nat.le_refl, eq_self, ne_eq, reduceCtorEq, or_true, true_or, or_false, false_or, Bool.or_true, Bool.or_false, Bool.true_or, Bool.false_or, Nat.zero_le, Int.le_refl, Int.ofNat_zero, Int.ofNat_one, Bool.false_eq_true]
        try simp only [ab_in]
        (repeat' (first | intro _ | refine And.intro ?_ ?_)) <;> (first | exact hk2 | contradiction | omega | (exfalso; omega))
      | succ mx ihx =>
        intro x acc w hx h0 ha he
        have hlt : ¬ 12 ≤ x := by omega
        have he' : acc + (sumR (fun y => bI (covS M x y)) 8 0 + sumR (fun x => sumR (fun y => bI (covS M x y)) 8 0) mx (x + 1)) = covAllS M := he
        obtain ⟨tt, htt⟩ : ∃ tt, tt = acc + sumR (fun y => bI (covS M x y)) 8 0 := ⟨_, rfl⟩
        have inn : ∀ (my : Nat) (y ac : Int), y + my = 8 → 0 ≤ y → (0 ≤ ac ∧ ac ≤ 72 * x + 9 * y) → ac + sumR (fun y => bI (covS M x y)) my y = tt → V 12 [some (.inr (.inl (some a))), some (.inl ac), some (.inl x), some (.inl y)] [] h 0 0 := by
          intro my
          induction my with
          | zero =>
            intro y ac hy h1 ha2 he2
            have hle2 : 8 ≤ y := by omega
            simp only [sumR] at he2
            have ih1 := ihx (x + 1) ac (some (.inl y)) (by omega) (by omega) (by omega) (by omega)
            refine hV (fun p => bif p == 4 then true else p == 12) 80 _ _ _ _ _ _ ?_
            simp only [hle2, bI_in, bI_0, bI_1, bI_t, bI_f, bI_01, ae_aload_n, ae_bipush, ae_goto, ae_iadd, ae_iconst, ae_ifCond, ae_if_icmp, ae_iinc, ae_iload_n, ae_invokevirtual, ae_istore_n, dX4_covered__12, dX4_covered__13, dX4_covered__15, dX4_covered__18, dX4_covered__19, dX4_covered__20, dX4_covered__21, dX4_covered__22, dX4_covered__25, dX4_covered__28, dX4_covered__29, dX4_covered__32, dX4_covered__33, dX4_covered__34, dX4_covered__35, dX4_covered__38, dX4_covered__41, dX4_covered__44, ca_X4_covered__49, ab_wp0, ab_wps, ab_stp, ab_g, ab_st, ab_k2, ab_cl, ab_pop, ab_sz, ab_2, ab_ret, ab_f4, ab_tg, ab_I, ab_II, ab_A, ab_Rf, ab_VR, ab_IR, ab_VIR, ab_1, ab_LL, ab_DD, ab_ob, ab_pr, ab_qr, ab_ln, ab_so, ab_vI, ab_vA, ab_vD, ab_vL, ab_v2, ab_c, ab_fit, ab_rv, ab_tsw, ab_lsw, ab_up_eq, Fin.isValue, ab_f0, ab_f1, ab_f2, ab_f3, List.getElem?_cons_zero, List.getElem?_cons_succ, List.set_cons_zero, List.set_cons_succ, List.length_cons, List.length_nil, List.size_toArray, List.head?_cons, List.tail_cons, Option.map_some, cond_true, cond_false, true_and, and_true, false_and, and_false, not_true_eq_false, not_false_eq_true, true_imp_iff, false_imp_iff, if_true, if_false, ite_true, ite_false, ↓reduceIte, Nat.reduceAdd, Nat.reduceEqDiff, Nat.reduceLeDiff, Nat.reduceLT, Nat.reduceBEq, Nat.reduceBNe, Int.reduceAdd, Int.reduceNeg, Int.reduceSub, Int.reduceLE, Int.reduceLT, Int.reduceToNat, Int.reduceEq, Int.reduceMul, Int.cast_ofNat_Int, Nat.zero_add, Nat.add_zero, Nat.le_refl, eq_self, ne_eq, reduceCtorEq, or_true, true_or, or_false, false_or, Bool.or_true, Bool.or_false, Bool.true_or, Bool.false_or, Nat.zero_le, Int.le_refl, Int.ofNat_zero, Int.ofNat_one, Bool.false_eq_true]
            try simp only [ab_in]
            (repeat' (first | intro _ | refine And.intro ?_ ?_)) <;> (first | exact ih1 | contradiction | omega | (exfalso; omega))
          | succ my ihy =>
            intro y ac hy h1 ha2 he2
            have hlt2 : ¬ 8 ≤ y := by omega
            have g1 := gr x y
            simp only [sumR] at he2
            cases hm : covS M x y
            · rw [hm, bI_f] at he2
              have ih1 := ihy (y + 1) (ac + 0) (by omega) (by omega) (by omega) (by omega)
              refine hV (fun p => bif p == 4 then true else p == 12) 80 _ _ _ _ _ _ ?_
              simp only [hlt2, hP, D, hm, bI_in, bI_0, bI_1, bI_t, bI_f, bI_01, Tr_X4_covered, ae_aload_n, ae_bipush, ae_goto, ae_iadd, ae_iconst, ae_ifCond, ae_if_icmp, ae_iinc, ae_iload_n, ae_invokevirtual, ae_istore_n, dX4_covered__12, dX4_covered__13, dX4_covered__15, dX4_covered__18, dX4_covered__19, dX4_covered__20, dX4_covered__21, dX4_covered__22, dX4_covered__25, dX4_covered__28, dX4_covered__29, dX4_covered__32, dX4_covered__33, dX4_covered__34, dX4_covered__35, dX4_covered__38, ca_X4_covered__49, ab_wp0, ab_wps, ab_stp, ab_g, ab_st, ab_k2, ab_cl, ab_pop, ab_sz, ab_2, ab_ret, ab_f4, ab_tg, ab_I, ab_II, ab_A, ab_Rf, ab_VR, ab_IR, ab_VIR, ab_1, ab_LL, ab_DD, ab_ob, ab_pr, ab_qr, ab_ln, ab_so, ab_vI, ab_vA, ab_vD, ab_vL, ab_v2, ab_c, ab_fit, ab_rv, ab_tsw, ab_lsw, ab_up_eq, Fin.isValue, ab_f0, ab_f1, ab_f2, ab_f3, List.getElem?_cons_zero, List.getElem?_cons_succ, List.set_cons_zero, List.set_cons_succ, List.length_cons, List.length_nil, List.size_toArray, List.head?_cons, List.tail_cons, Option.map_some, cond_true, cond_false, true_and, and_true, false_and, and_false, not_true_eq_false, not_false_eq_true, true_imp_iff, false_imp_iff, if_true, if_false, ite_true, ite_false, ↓reduceIte, Nat.reduceAdd, Nat.reduceEqDiff, Nat.reduceLeDiff, Nat.reduceLT, Nat.reduceBEq, Nat.reduceBNe, Int.reduceAdd, Int.reduceNeg, Int.reduceSub, Int.reduceLE, Int.reduceLT, Int.reduceToNat, Int.reduceEq, Int.reduceMul, Int.cast_ofNat_Int, Nat.zero_add, Nat.add_zero, Nat.le_refl, eq_self, ne_eq, reduceCtorEq, or_true, true_or, or_false, false_or, Bool.or_true, Bool.or_false, Bool.true_or, Bool.false_or, Nat.zero_le, Int.le_refl, Int.ofNat_zero, Int.ofNat_one, Bool.false_eq_true]
              try simp only [ab_in]
              (repeat' (first | intro _ | refine And.intro ?_ ?_)) <;> (first | exact ih1 | exact rfl | contradiction | omega | (exfalso; omega))
            · rw [hm, bI_t] at he2
              have ih1 := ihy (y + 1) (ac + 1) (by omega) (by omega) (by omega) (by omega)
              refine hV (fun p => bif p == 4 then true else p == 12) 80 _ _ _ _ _ _ ?_
              simp only [hlt2, hP, D, hm, bI_in, bI_0, bI_1, bI_t, bI_f, bI_01, Tr_X4_covered, ae_aload_n, ae_bipush, ae_goto, ae_iadd, ae_iconst, ae_ifCond, ae_if_icmp, ae_iinc, ae_iload_n, ae_invokevirtual, ae_istore_n, dX4_covered__12, dX4_covered__13, dX4_covered__15, dX4_covered__18, dX4_covered__19, dX4_covered__20, dX4_covered__21, dX4_covered__22, dX4_covered__25, dX4_covered__28, dX4_covered__29, dX4_covered__32, dX4_covered__33, dX4_covered__34, dX4_covered__35, dX4_covered__38, ca_X4_covered__49, ab_wp0, ab_wps, ab_stp, ab_g, ab_st, ab_k2, ab_cl, ab_pop, ab_sz, ab_2, ab_ret, ab_f4, ab_tg, ab_I, ab_II, ab_A, ab_Rf, ab_VR, ab_IR, ab_VIR, ab_1, ab_LL, ab_DD, ab_ob, ab_pr, ab_qr, ab_ln, ab_so, ab_vI, ab_vA, ab_vD, ab_vL, ab_v2, ab_c, ab_fit, ab_rv, ab_tsw, ab_lsw, ab_up_eq, Fin.isValue, ab_f0, ab_f1, ab_f2, ab_f3, List.getElem?_cons_zero, List.getElem?_cons_succ, List.set_cons_zero, List.set_cons_succ, List.length_cons, List.length_nil, List.size_toArray, List.head?_cons, List.tail_cons, Option.map_some, cond_true, cond_false, true_and, and_true, false_and, and_false, not_true_eq_false, not_false_eq_true, true_imp_iff, false_imp_iff, if_true, if_false, ite_true, ite_false, ↓reduceIte, Nat.reduceAdd, Nat.reduceEqDiff, Nat.reduceLeDiff, Nat.reduceLT, Nat.reduceBEq, Nat.reduceBNe, Int.reduceAdd, Int.reduceNeg, Int.reduceSub, Int.reduceLE, Int.reduceLT, Int.reduceToNat, Int.reduceEq, Int.reduceMul, Int.cast_ofNat_Int, Nat.zero_add, Nat.add_zero, Nat.le_refl, eq_self, ne_eq, reduceCtorEq, or_true, true_or, or_false, false_or, Bool.or_true, Bool.or_false, Bool.true_or, Bool.false_or, Nat.zero_le, Int.le_refl, Int.ofNat_zero, Int.ofNat_one, Bool.false_eq_true]
              try simp only [ab_in]
              (repeat' (first | intro _ | refine And.intro ?_ ?_)) <;> (first | exact ih1 | exact rfl | contradiction | omega | (exfalso; omega))
        have i0 := inn 8 0 acc (by omega) (by omega) (by omega) htt.symm
        refine hV (fun p => bif p == 4 then true else p == 12) 80 _ _ _ _ _ _ ?_
        simp only [hlt, bI_in, bI_0, bI_1, bI_t, bI_f, bI_01, ae_bipush, ae_iconst, ae_if_icmp, ae_iload_n, ae_istore_n, dX4_covered__4, dX4_covered__5, dX4_covered__7, dX4_covered__10, dX4_covered__11, ca_X4_covered__49, ab_wp0, ab_wps, ab_stp, ab_g, ab_st, ab_k2, ab_cl, ab_pop, ab_sz, ab_2, ab_ret, ab_f4, ab_tg, ab_I, ab_II, ab_A, ab_Rf, ab_VR, ab_IR, ab_VIR, ab_1, ab_LL, ab_DD, ab_ob, ab_pr, ab_qr, ab_ln, ab_so, ab_vI, ab_vA, ab_vD, ab_vL, ab_v2, ab_c, ab_fit, ab_rv, ab_tsw, ab_lsw, ab_up_eq, Fin.isValue, ab_f0, ab_f1, ab_f2, ab_f3, List.getElem?_cons_zero, List.getElem?_cons_succ, List.set_cons_zero, List.set_cons_succ, List.length_cons, List.length_nil, List.size_toArray, List.head?_cons, List.tail_cons, Option.map_some, cond_true, cond_false, true_and, and_true, false_and, and_false, not_true_eq_false, not_false_eq_true, true_imp_iff, false_imp_iff, if_true, if_false, ite_true, ite_false, ↓reduceIte, Nat.reduceAdd, Nat.reduceEqDiff, Nat.reduceLeDiff, Nat.reduceLT, Nat.reduceBEq, Nat.reduceBNe, Int.reduceAdd, Int.reduceNeg, Int.reduceSub, Int.reduceLE, Int.reduceLT, Int.reduceToNat, Int.reduceEq, Int.reduceMul, Int.cast_ofNat_Int, Nat.zero_add, Nat.add_zero, Nat.le_refl, eq_self, ne_eq, reduceCtorEq, or_true, true_or, or_false, false_or, Bool.or_true, Bool.or_false, Bool.true_or, Bool.false_or, Nat.zero_le, Int.le_refl, Int.ofNat_zero, Int.ofNat_one, Bool.false_eq_true]
        try simp only [ab_in]
        (repeat' (first | intro _ | refine And.intro ?_ ?_)) <;> (first | exact i0 | contradiction | omega | (exfalso; omega))
    have l0 := out 12 0 0 none (by omega) (by omega) (by omega) (by rw [Int.zero_add]; rfl)
    refine hV (fun p => bif p == 4 then true else p == 12) 80 _ _ _ _ _ _ ?_
    simp only [bI_in, bI_0, bI_1, bI_t, bI_f, bI_01, ae_iconst, ae_istore_n, dX4_covered__0, dX4_covered__1, dX4_covered__2, dX4_covered__3, ca_X4_covered__49, ab_wp0, ab_wps, ab_stp, ab_g, ab_st, ab_k2, ab_cl, ab_pop, ab_sz, ab_2, ab_ret, ab_f4, ab_tg, ab_I, ab_II, ab_A, ab_Rf, ab_VR, ab_IR, ab_VIR, ab_1, ab_LL, ab_DD, ab_ob, ab_pr, ab_qr, ab_ln, ab_so, ab_vI, ab_vA, ab_vD, ab_vL, ab_v2, ab_c, ab_fit, ab_rv, ab_tsw, ab_lsw, ab_up_eq, Fin.isValue, ab_f0, ab_f1, ab_f2, ab_f3, List.getElem?_cons_zero, List.getElem?_cons_succ, List.set_cons_zero, List.set_cons_succ, List.length_cons, List.length_nil, List.size_toArray, List.head?_cons, List.tail_cons, Option.map_some, cond_true, cond_false, true_and, and_true, false_and, and_false, not_true_eq_false, not_false_eq_true, true_imp_iff, false_imp_iff, if_true, if_false, ite_true, ite_false, ↓reduceIte, Nat.reduceAdd, Nat.reduceEqDiff, Nat.reduceLeDiff, Nat.reduceLT, Nat.reduceBEq, Nat.reduceBNe, Int.reduceAdd, Int.reduceNeg, Int.reduceSub, Int.reduceLE, Int.reduceLT, Int.reduceToNat, Int.reduceEq, Int.reduceMul, Int.cast_ofNat_Int, Nat.zero_add, Nat.add_zero, Nat.le_refl, eq_self, ne_eq, reduceCtorEq, or_true, true_or, or_false, false_or, Bool.or_true, Bool.or_false, Bool.true_or, Bool.false_or, Nat.zero_le, Int.le_refl, Int.ofNat_zero, Int.ofNat_one, Bool.false_eq_true]
    try simp only [ab_in]
    (repeat' (first | intro _ | refine And.intro ?_ ?_)) <;> (first | exact l0 | contradiction | omega | (exfalso; omega))
  · exact hT.elim
set_option maxRecDepth 100000 in
theorem con_X4_covered_ (l : Launch) (D : va_G) (ty : Nat → ClassId) (base : Nat) : ab_Con l D vwCl ty lw_ts base lw_wd yX4_covered_ cX4_covered_ 4 (some .int) 2 49 0 0 Tr_X4_covered_ :=
  ab_con_of (own := RX4) (rt := 1) (tb := tbX4) (ini := false) (ca := ca_X4_covered_) (by decide +kernel) rfl (fun h => by cases h) rfl lw_wd_ok wtbX4 lw_ar cm_X4_covered_
    (fun p e R s m args below meth c K hcx => by
      obtain ⟨hx, hb, hml, hown, hF, rfl⟩ := hcx
      exact ab_lk_all (ab_all_c (ab_tc_V hx hb hml hown lw_wd_ok hF ⟨rfl, rfl⟩ (con_X4_covered l D ty base) rfl (lw_wi (by decide +kernel) (by decide +kernel)) (lw_wi (by decide +kernel) (by decide +kernel)) (lw_wi (by decide +kernel) (by decide +kernel)) (lw_wi (by decide +kernel) (by decide +kernel)) (lw_wi (by decide +kernel) (by decide +kernel)) (by decide +kernel) ⟨by decide, by decide⟩) (ab_all_n)))
    (by intro as h K ht; unfold Tr_X4_covered_ at ht; split at ht <;> first | exact ht.elim | exact Nat.le_of_ble_eq_true rfl) (sem_X4_covered_ base)
noncomputable def Tr_X4_rot : ATr := fun as h K => match as with
  | [.inr (.inl (some a))] => ab_so (ab_sim h a) fun P => (True) ∧ K (some (.inl (rotS P.2))) h
  | _ => False
theorem mo_X4_rot : ab_mo Tr_X4_rot := by
  intro as h K K' hk ht
  unfold Tr_X4_rot at ht ⊢
  split at ht
  · exact ab_so_mo (fun _ q => ⟨q.1, hk _ _ q.2⟩) ht
  · exact ht.elim
def ca_X4_rot : Nat → Option ACS := ab_lk []
theorem cm_X4_rot : ∀ i q, ca_X4_rot i = some q → ab_moq i q := ab_lk_all (ab_all_n)
set_option maxRecDepth 100000 in
set_option maxHeartbeats 4000000 in
theorem sem_X4_rot (base : Nat) : ab_Sem tbX4 lw_ts base cX4_rot ca_X4_rot 1 4 0 0 (fun as => ab_en as 4) Tr_X4_rot := by
  intro as h K hT V hV
  unfold Tr_X4_rot at hT
  split at hT
  · rename_i a
    obtain ⟨⟨⟨sA, fS, rA, fR, dA, fD⟩, M⟩, hP, hT2⟩ := ab_so_el hT
    have hA := sim_el hP
    obtain ⟨mb, D, nd, D0, D1, D2, r0, r1, r2⟩ := id hA
    obtain ⟨mb1, mb2, mb3, mb4, mb5, mb6⟩ := id mb
    dsimp only at D D0 D1 D2 r0 r1 r2 mb1 mb2 mb3 mb4 mb5 mb6
    obtain ⟨-, hK⟩ := hT2
    show V 0 [some (.inr (.inl (some a))), none, none, none] [] h 0 0
    have gr : ∀ x y, 0 ≤ M.rt x y ∧ M.rt x y ≤ 9 := mb2
    have out : ∀ (mx : Nat) (x acc : Int) (w : Option AV), x + mx = 12 → 0 ≤ x → (0 ≤ acc ∧ acc ≤ 72 * x) → acc + sumR (fun x => sumR (fun y => M.rt x y) 8 0) mx x = rotS M → V 4 [some (.inr (.inl (some a))), some (.inl acc), some (.inl x), w] [] h 0 0 := by
      intro mx
      induction mx with
      | zero =>
        intro x acc w hx h0 ha he
        have hk2 : K (some (.inl acc)) h := by rw [← he] at hK; simpa [sumR] using hK
        have hle : 12 ≤ x := by omega
        refine hV (fun p => bif p == 4 then true else p == 12) 80 _ _ _ _ _ _ ?_
        simp only [hle, bI_in, bI_0, bI_1, bI_t, bI_f, bI_01, ae_aaload, ae_aload_n, ae_bipush, ae_getfield, ae_goto, ae_iadd, ae_iaload, ae_iconst, ae_if_icmp, ae_iinc, ae_iload_n, ae_ireturn, ae_istore_n, dX4_rot_4, dX4_rot_5, dX4_rot_7, dX4_rot_10, dX4_rot_11, dX4_rot_12, dX4_rot_13, dX4_rot_15, dX4_rot_18, dX4_rot_19, dX4_rot_20, dX4_rot_23, dX4_rot_24, dX4_rot_25, dX4_rot_26, dX4_rot_27, dX4_rot_28, dX4_rot_29, dX4_rot_32, dX4_rot_35, dX4_rot_38, dX4_rot_41, dX4_rot_42, tbX4_g16, ab_wp0, ab_wps, ab_stp, ab_g, ab_st, ab_k2, ab_cl, ab_pop, ab_sz, ab_2, ab_ret, ab_f4, ab_tg, ab_I, ab_II, ab_A, ab_Rf, ab_VR, ab_IR, ab_VIR, ab_1, ab_LL, ab_DD, ab_ob, ab_pr, ab_qr, ab_ln, ab_so, ab_vI, ab_vA, ab_vD, ab_vL, ab_v2, ab_c, ab_fit, ab_rv, ab_tsw, ab_lsw, ab_up_eq, Fin.isValue, ab_f0, ab_f1, ab_f2, ab_f3, List.getElem?_cons_zero, List.getElem?_cons_succ, List.set_cons_zero, List.set_cons_succ, List.length_cons, List.length_nil, List.size_toArray, List.head?_cons, List.tail_cons, Option.map_some, cond_true, cond_false, true_and, and_true, false_and, and_false, not_true_eq_false, not_false_eq_true, true_imp_iff, false_imp_iff, if_true, if_false, ite_true, ite_false, ↓reduceIte, Nat.reduceAdd, Nat.reduceEqDiff, Nat.reduceLeDiff, Nat.reduceLT, Nat.reduceBEq, Nat.reduceBNe, Int.reduceAdd, Int.reduceNeg, Int.reduceSub, Int.reduceLE, Int.reduceLT, Int.reduceToNat, Int.reduceEq, Int.reduceMul, Int.cast_ofNat_Int, Nat.zero_add, Nat.add_zero, Nat.le_refl, eq_self, ne_eq, reduceCtorEq, or_true, true_or, or_false, false_or, Bool.or_true, Bool.or_false, Bool.true_or, Bool.false_or, Nat.zero_le, Int.le_refl, Int.ofNat_zero, Int.ofNat_one, Bool.false_eq_true]
        try simp only [ab_in]
        (repeat' (first | intro _ | refine And.intro ?_ ?_)) <;> (first | exact hk2 | contradiction | omega | (exfalso; omega))
      | succ mx ihx =>
        intro x acc w hx h0 ha he
        have hlt : ¬ 12 ≤ x := by omega
        have he' : acc + (sumR (fun y => M.rt x y) 8 0 + sumR (fun x => sumR (fun y => M.rt x y) 8 0) mx (x + 1)) = rotS M := he
        obtain ⟨tt, htt⟩ : ∃ tt, tt = acc + sumR (fun y => M.rt x y) 8 0 := ⟨_, rfl⟩
        have inn : ∀ (my : Nat) (y ac : Int), y + my = 8 → 0 ≤ y → (0 ≤ ac ∧ ac ≤ 72 * x + 9 * y) → ac + sumR (fun y => M.rt x y) my y = tt → V 12 [some (.inr (.inl (some a))), some (.inl ac), some (.inl x), some (.inl y)] [] h 0 0 := by
          intro my
          induction my with
          | zero =>
            intro y ac hy h1 ha2 he2
            have hle2 : 8 ≤ y := by omega
            simp only [sumR] at he2
            have ih1 := ihx (x + 1) ac (some (.inl y)) (by omega) (by omega) (by omega) (by omega)
            refine hV (fun p => bif p == 4 then true else p == 12) 80 _ _ _ _ _ _ ?_
            simp only [hle2, bI_in, bI_0, bI_1, bI_t, bI_f, bI_01, ae_aaload, ae_aload_n, ae_bipush, ae_getfield, ae_goto, ae_iadd, ae_iaload, ae_if_icmp, ae_iinc, ae_iload_n, ae_istore_n, dX4_rot_12, dX4_rot_13, dX4_rot_15, dX4_rot_18, dX4_rot_19, dX4_rot_20, dX4_rot_23, dX4_rot_24, dX4_rot_25, dX4_rot_26, dX4_rot_27, dX4_rot_28, dX4_rot_29, dX4_rot_32, dX4_rot_35, dX4_rot_38, tbX4_g16, ab_wp0, ab_wps, ab_stp, ab_g, ab_st, ab_k2, ab_cl, ab_pop, ab_sz, ab_2, ab_ret, ab_f4, ab_tg, ab_I, ab_II, ab_A, ab_Rf, ab_VR, ab_IR, ab_VIR, ab_1, ab_LL, ab_DD, ab_ob, ab_pr, ab_qr, ab_ln, ab_so, ab_vI, ab_vA, ab_vD, ab_vL, ab_v2, ab_c, ab_fit, ab_rv, ab_tsw, ab_lsw, ab_up_eq, Fin.isValue, ab_f0, ab_f1, ab_f2, ab_f3, List.getElem?_cons_zero, List.getElem?_cons_succ, List.set_cons_zero, List.set_cons_succ, List.length_cons, List.length_nil, List.size_toArray, List.head?_cons, List.tail_cons, Option.map_some, cond_true, cond_false, true_and, and_true, false_and, and_false, not_true_eq_false, not_false_eq_true, true_imp_iff, false_imp_iff, if_true, if_false, ite_true, ite_false, ↓reduceIte, Nat.reduceAdd, Nat.reduceEqDiff, Nat.reduceLeDiff, Nat.reduceLT, Nat.reduceBEq, Nat.reduceBNe, Int.reduceAdd, Int.reduceNeg, Int.reduceSub, Int.reduceLE, Int.reduceLT, Int.reduceToNat, Int.reduceEq, Int.reduceMul, Int.cast_ofNat_Int, Nat.zero_add, Nat.add_zero, Nat.le_refl, eq_self, ne_eq, reduceCtorEq, or_true, true_or, or_false, false_or, Bool.or_true, Bool.or_false, Bool.true_or, Bool.false_or, Nat.zero_le, Int.le_refl, Int.ofNat_zero, Int.ofNat_one, Bool.false_eq_true]
            try simp only [ab_in]
            (repeat' (first | intro _ | refine And.intro ?_ ?_)) <;> (first | exact ih1 | contradiction | omega | (exfalso; omega))
          | succ my ihy =>
            intro y ac hy h1 ha2 he2
            have hlt2 : ¬ 8 ≤ y := by omega
            have g1 := gr x y
            simp only [sumR] at he2
            obtain ⟨p, hp, hpc⟩ := r1.1 x h0 (by omega)
            have ih1 := ihy (y + 1) (ac + M.rt x y) (by omega) (by omega) (by omega) (by omega)
            refine hV (fun p => bif p == 4 then true else p == 12) 80 _ _ _ _ _ _ ?_
            simp only [hlt2, D, D1, hp, hpc, bI_in, bI_0, bI_1, bI_t, bI_f, bI_01, ae_aaload, ae_aload_n, ae_bipush, ae_getfield, ae_goto, ae_iadd, ae_iaload, ae_if_icmp, ae_iinc, ae_iload_n, ae_istore_n, dX4_rot_12, dX4_rot_13, dX4_rot_15, dX4_rot_18, dX4_rot_19, dX4_rot_20, dX4_rot_23, dX4_rot_24, dX4_rot_25, dX4_rot_26, dX4_rot_27, dX4_rot_28, dX4_rot_29, dX4_rot_32, tbX4_g16, ab_wp0, ab_wps, ab_stp, ab_g, ab_st, ab_k2, ab_cl, ab_pop, ab_sz, ab_2, ab_ret, ab_f4, ab_tg, ab_I, ab_II, ab_A, ab_Rf, ab_VR, ab_IR, ab_VIR, ab_1, ab_LL, ab_DD, ab_ob, ab_pr, ab_qr, ab_ln, ab_so, ab_vI, ab_vA, ab_vD, ab_vL, ab_v2, ab_c, ab_fit, ab_rv, ab_tsw, ab_lsw, ab_up_eq, Fin.isValue, ab_f0, ab_f1, ab_f2, ab_f3, List.getElem?_cons_zero, List.getElem?_cons_succ, List.set_cons_zero, List.set_cons_succ, List.length_cons, List.length_nil, List.size_toArray, List.head?_cons, List.tail_cons, Option.map_some, cond_true, cond_false, true_and, and_true, false_and, and_false, not_true_eq_false, not_false_eq_true, true_imp_iff, false_imp_iff, if_true, if_false, ite_true, ite_false, ↓reduceIte, Nat.reduceAdd, Nat.reduceEqDiff, Nat.reduceLeDiff, Nat.reduceLT, Nat.reduceBEq, Nat.reduceBNe, Int.reduceAdd, Int.reduceNeg, Int.reduceSub, Int.reduceLE, Int.reduceLT, Int.reduceToNat, Int.reduceEq, Int.reduceMul, Int.cast_ofNat_Int, Nat.zero_add, Nat.add_zero, Nat.le_refl, eq_self, ne_eq, reduceCtorEq, or_true, true_or, or_false, false_or, Bool.or_true, Bool.or_false, Bool.true_or, Bool.false_or, Nat.zero_le, Int.le_refl, Int.ofNat_zero, Int.ofNat_one, Bool.false_eq_true]
            try simp only [ab_in]
            (repeat' (first | intro _ | refine And.intro ?_ ?_)) <;> (first | exact ih1 | exact rfl | contradiction | omega | (exfalso; omega))
        have i0 := inn 8 0 acc (by omega) (by omega) (by omega) htt.symm
        refine hV (fun p => bif p == 4 then true else p == 12) 80 _ _ _ _ _ _ ?_
        simp only [hlt, bI_in, bI_0, bI_1, bI_t, bI_f, bI_01, ae_bipush, ae_iconst, ae_if_icmp, ae_iload_n, ae_istore_n, dX4_rot_4, dX4_rot_5, dX4_rot_7, dX4_rot_10, dX4_rot_11, ab_wp0, ab_wps, ab_stp, ab_g, ab_st, ab_k2, ab_cl, ab_pop, ab_sz, ab_2, ab_ret, ab_f4, ab_tg, ab_I, ab_II, ab_A, ab_Rf, ab_VR, ab_IR, ab_VIR, ab_1, ab_LL, ab_DD, ab_ob, ab_pr, ab_qr, ab_ln, ab_so, ab_vI, ab_vA, ab_vD, ab_vL, ab_v2, ab_c, ab_fit, ab_rv, ab_tsw, ab_lsw, ab_up_eq, Fin.isValue, ab_f0, ab_f1, ab_f2, ab_f3, List.getElem?_cons_zero, List.getElem?_cons_succ, List.set_cons_zero, List.set_cons_succ, List.length_cons, List.length_nil, List.size_toArray, List.head?_cons, List.tail_cons, Option.map_some, cond_true, cond_false, true_and, and_true, false_and, and_false, not_true_eq_false, not_false_eq_true, true_imp_iff, false_imp_iff, if_true, if_false, ite_true, ite_false, ↓reduceIte, Nat.reduceAdd, Nat.reduceEqDiff, Nat.reduceLeDiff, Nat.reduceLT, Nat.reduceBEq, Nat.reduceBNe, Int.reduceAdd, Int.reduceNeg, Int.reduceSub, Int.reduceLE, Int.reduceLT, Int.reduceToNat, Int.reduceEq, Int.reduceMul, Int.cast_ofNat_Int, Nat.zero_add, Nat.add_zero, Nat.le_refl, eq_self, ne_eq, reduceCtorEq, or_true, true_or, or_false, false_or, Bool.or_true, Bool.or_false, Bool.true_or, Bool.false_or, Nat.zero_le, Int.le_refl, Int.ofNat_zero, Int.ofNat_one, Bool.false_eq_true]
        try simp only [ab_in]
        (repeat' (first | intro _ | refine And.intro ?_ ?_)) <;> (first | exact i0 | contradiction | omega | (exfalso; omega))
    have l0 := out 12 0 0 none (by omega) (by omega) (by omega) (by rw [Int.zero_add]; rfl)
    refine hV (fun p => bif p == 4 then true else p == 12) 80 _ _ _ _ _ _ ?_
    simp only [bI_in, bI_0, bI_1, bI_t, bI_f, bI_01, ae_iconst, ae_istore_n, dX4_rot_0, dX4_rot_1, dX4_rot_2, dX4_rot_3, ab_wp0, ab_wps, ab_stp, ab_g, ab_st, ab_k2, ab_cl, ab_pop, ab_sz, ab_2, ab_ret, ab_f4, ab_tg, ab_I, ab_II, ab_A, ab_Rf, ab_VR, ab_IR, ab_VIR, ab_1, ab_LL, ab_DD, ab_ob, ab_pr, ab_qr, ab_ln, ab_so, ab_vI, ab_vA, ab_vD, ab_vL, ab_v2, ab_c, ab_fit, ab_rv, ab_tsw, ab_lsw, ab_up_eq, Fin.isValue, ab_f0, ab_f1, ab_f2, ab_f3, List.getElem?_cons_zero, List.getElem?_cons_succ, List.set_cons_zero, List.set_cons_succ, List.length_cons, List.length_nil, List.size_toArray, List.head?_cons, List.tail_cons, Option.map_some, cond_true, cond_false, true_and, and_true, false_and, and_false, not_true_eq_false, not_false_eq_true, true_imp_iff, false_imp_iff, if_true, if_false, ite_true, ite_false, ↓reduceIte, Nat.reduceAdd, Nat.reduceEqDiff, Nat.reduceLeDiff, Nat.reduceLT, Nat.reduceBEq, Nat.reduceBNe, Int.reduceAdd, Int.reduceNeg, Int.reduceSub, Int.reduceLE, Int.reduceLT, Int.reduceToNat, Int.reduceEq, Int.reduceMul, Int.cast_ofNat_Int, Nat.zero_add, Nat.add_zero, Nat.le_refl, eq_self, ne_eq, reduceCtorEq, or_true, true_or, or_false, false_or, Bool.or_true, Bool.or_false, Bool.true_or, Bool.false_or, Nat.zero_le, Int.le_refl, Int.ofNat_zero, Int.ofNat_one, Bool.false_eq_true]
    try simp only [ab_in]
    (repeat' (first | intro _ | refine And.intro ?_ ?_)) <;> (first | exact l0 | contradiction | omega | (exfalso; omega))
  · exact hT.elim
set_option maxRecDepth 100000 in
theorem con_X4_rot (l : Launch) (D : va_G) (ty : Nat → ClassId) (base : Nat) : ab_Con l D vwCl ty lw_ts base lw_wd yX4_rot cX4_rot 4 (some .int) 0 0 0 0 Tr_X4_rot :=
  ab_con_of (own := RX4) (rt := 1) (tb := tbX4) (ini := false) (ca := ca_X4_rot) (by decide +kernel) rfl (fun h => by cases h) rfl lw_wd_ok wtbX4 lw_ar cm_X4_rot
    (fun p e R s m args below meth c K hcx => by
      obtain ⟨hx, hb, hml, hown, hF, rfl⟩ := hcx
      exact ab_lk_all (ab_all_n))
    (by intro as h K ht; unfold Tr_X4_rot at ht; split at ht <;> first | exact ht.elim | exact Nat.le_of_ble_eq_true rfl) (sem_X4_rot base)
noncomputable def Tr_X4_on : ATr := fun as h K => match as with
  | [.inr (.inl (some a)), .inl b] => ab_so (ab_sim h a) fun P => (b = 0 ∨ b = 1) ∧ K (some (.inl (onS P.2 b))) h
  | _ => False
theorem mo_X4_on : ab_mo Tr_X4_on := by
  intro as h K K' hk ht
  unfold Tr_X4_on at ht ⊢
  split at ht
  · exact ab_so_mo (fun _ q => ⟨q.1, hk _ _ q.2⟩) ht
  · exact ht.elim
def ca_X4_on : Nat → Option ACS := ab_lk []
theorem cm_X4_on : ∀ i q, ca_X4_on i = some q → ab_moq i q := ab_lk_all (ab_all_n)
set_option maxRecDepth 100000 in
set_option maxHeartbeats 4000000 in
theorem sem_X4_on (base : Nat) : ab_Sem tbX4 lw_ts base cX4_on ca_X4_on 1 7 0 0 (fun as => ab_en as 7) Tr_X4_on := by
  intro as h K hT V hV
  unfold Tr_X4_on at hT
  split at hT
  · rename_i a b
    obtain ⟨⟨⟨sA, fS, rA, fR, dA, fD⟩, M⟩, hP, hT2⟩ := ab_so_el hT
    have hA := sim_el hP
    obtain ⟨mb, D, nd, D0, D1, D2, r0, r1, r2⟩ := id hA
    obtain ⟨mb1, mb2, mb3, mb4, mb5, mb6⟩ := id mb
    dsimp only at D D0 D1 D2 r0 r1 r2 mb1 mb2 mb3 mb4 mb5 mb6
    obtain ⟨hs, hK⟩ := hT2
    show V 0 [some (.inr (.inl (some a))), some (.inl b), none, none, none, none, none] [] h 0 0
    have loop : ∀ (m : Nat) (x acc : Int) (w : Option AV), x + m = M.n → 0 ≤ x → (0 ≤ acc ∧ acc ≤ x) → acc + sumR (fun k => bI (decide (M.sl k 5 = 1) && (decide (b = 0) || decide (M.sl k 4 = 1)))) m x = onS M b → V 14 [some (.inr (.inl (some a))), some (.inl b), some (.inl acc), some (.inr (.inl (some sA))), some (.inl (M.n : Int)), some (.inl x), w] [] h 0 0 := by
      intro m
      induction m with
      | zero =>
        intro x acc w hx h0 ha he
        have hk2 : K (some (.inl acc)) h := by rw [← he] at hK; simpa [sumR] using hK
        have hle : (M.n : Int) ≤ x := by omega
        refine hV (fun p => p == 14) 80 _ _ _ _ _ _ ?_
        simp only [hle, bI_in, bI_0, bI_1, bI_t, bI_f, bI_01, ae_aaload, ae_aload, ae_aload_n, ae_astore, ae_goto, ae_iadd, ae_iaload, ae_iconst, ae_ifCond, ae_if_icmp, ae_iinc, ae_iload, ae_iload_n, ae_ireturn, ae_istore_n, dX4_on_14, dX4_on_16, dX4_on_18, dX4_on_21, dX4_on_22, dX4_on_24, dX4_on_25, dX4_on_27, dX4_on_28, dX4_on_30, dX4_on_31, dX4_on_32, dX4_on_33, dX4_on_36, dX4_on_37, dX4_on_40, dX4_on_42, dX4_on_43, dX4_on_44, dX4_on_45, dX4_on_48, dX4_on_49, dX4_on_52, dX4_on_53, dX4_on_54, dX4_on_55, dX4_on_58, dX4_on_61, dX4_on_62, ab_wp0, ab_wps, ab_stp, ab_g, ab_st, ab_k2, ab_cl, ab_pop, ab_sz, ab_2, ab_ret, ab_f4, ab_tg, ab_I, ab_II, ab_A, ab_Rf, ab_VR, ab_IR, ab_VIR, ab_1, ab_LL, ab_DD, ab_ob, ab_pr, ab_qr, ab_ln, ab_so, ab_vI, ab_vA, ab_vD, ab_vL, ab_v2, ab_c, ab_fit, ab_rv, ab_tsw, ab_lsw, ab_up_eq, Fin.isValue, ab_f0, ab_f1, ab_f2, ab_f3, List.getElem?_cons_zero, List.getElem?_cons_succ, List.set_cons_zero, List.set_cons_succ, List.length_cons, List.length_nil, List.size_toArray, List.head?_cons, List.tail_cons, Option.map_some, cond_true, cond_false, true_and, and_true, false_and, and_false, not_true_eq_false, not_false_eq_true, true_imp_iff, false_imp_iff, if_true, if_false, ite_true, ite_false, ↓reduceIte, Nat.reduceAdd, Nat.reduceEqDiff, Nat.reduceLeDiff, Nat.reduceLT, Nat.reduceBEq, Nat.reduceBNe, Int.reduceAdd, Int.reduceNeg, Int.reduceSub, Int.reduceLE, Int.reduceLT, Int.reduceToNat, Int.reduceEq, Int.reduceMul, Int.cast_ofNat_Int, Nat.zero_add, Nat.add_zero, Nat.le_refl, eq_self, ne_eq, reduceCtorEq, or_true, true_or, or_false, false_or, Bool.or_true, Bool.or_false, Bool.true_or, Bool.false_or, Nat.zero_le, Int.le_refl, Int.ofNat_zero, Int.ofNat_one, Bool.false_eq_true]
        try simp only [ab_in]
        (repeat' (first | intro _ | refine And.intro ?_ ?_)) <;> (first | exact hk2 | contradiction | omega | (exfalso; omega))
      | succ m ih =>
        intro x acc w hx h0 ha he
        have hlt : ¬ (M.n : Int) ≤ x := by omega
        obtain ⟨p, hp, hpc⟩ := r0.1 x h0 (by omega)
        obtain ⟨c1, c2, c3, c4, c5⟩ := mb1 x
        simp only [sumR] at he
        by_cases hm : M.sl x 5 = 1 ∧ (b = 0 ∨ M.sl x 4 = 1)
        · have e1 : (decide (M.sl x 5 = 1) && (decide (b = 0) || decide (M.sl x 4 = 1))) = true := by simp only [Bool.and_eq_true, Bool.or_eq_true, decide_eq_true_eq]; exact hm
          rw [e1, bI_t] at he
          have ih1 := ih (x + 1) (acc + 1) (some (.inr (.inl (some p)))) (by omega) (by omega) (by omega) (by omega)
          refine hV (fun p => p == 14) 80 _ _ _ _ _ _ ?_
          simp only [hlt, D0, hp, hpc, bI_in, bI_0, bI_1, bI_t, bI_f, bI_01, ae_aaload, ae_aload, ae_aload_n, ae_astore, ae_goto, ae_iadd, ae_iaload, ae_iconst, ae_ifCond, ae_if_icmp, ae_iinc, ae_iload, ae_iload_n, ae_istore_n, dX4_on_14, dX4_on_16, dX4_on_18, dX4_on_21, dX4_on_22, dX4_on_24, dX4_on_25, dX4_on_27, dX4_on_28, dX4_on_30, dX4_on_31, dX4_on_32, dX4_on_33, dX4_on_36, dX4_on_37, dX4_on_40, dX4_on_42, dX4_on_43, dX4_on_44, dX4_on_45, dX4_on_48, dX4_on_49, dX4_on_52, dX4_on_53, dX4_on_54, dX4_on_55, dX4_on_58, ab_wp0, ab_wps, ab_stp, ab_g, ab_st, ab_k2, ab_cl, ab_pop, ab_sz, ab_2, ab_ret, ab_f4, ab_tg, ab_I, ab_II, ab_A, ab_Rf, ab_VR, ab_IR, ab_VIR, ab_1, ab_LL, ab_DD, ab_ob, ab_pr, ab_qr, ab_ln, ab_so, ab_vI, ab_vA, ab_vD, ab_vL, ab_v2, ab_c, ab_fit, ab_rv, ab_tsw, ab_lsw, ab_up_eq, Fin.isValue, ab_f0, ab_f1, ab_f2, ab_f3, List.getElem?_cons_zero, List.getElem?_cons_succ, List.set_cons_zero, List.set_cons_succ, List.length_cons, List.length_nil, List.size_toArray, List.head?_cons, List.tail_cons, Option.map_some, cond_true, cond_false, true_and, and_true, false_and, and_false, not_true_eq_false, not_false_eq_true, true_imp_iff, false_imp_iff, if_true, if_false, ite_true, ite_false, ↓reduceIte, Nat.reduceAdd, Nat.reduceEqDiff, Nat.reduceLeDiff, Nat.reduceLT, Nat.reduceBEq, Nat.reduceBNe, Int.reduceAdd, Int.reduceNeg, Int.reduceSub, Int.reduceLE, Int.reduceLT, Int.reduceToNat, Int.reduceEq, Int.reduceMul, Int.cast_ofNat_Int, Nat.zero_add, Nat.add_zero, Nat.le_refl, eq_self, ne_eq, reduceCtorEq, or_true, true_or, or_false, false_or, Bool.or_true, Bool.or_false, Bool.true_or, Bool.false_or, Nat.zero_le, Int.le_refl, Int.ofNat_zero, Int.ofNat_one, Bool.false_eq_true]
          try simp only [ab_in]
          (repeat' (first | intro _ | refine And.intro ?_ ?_)) <;> (first | exact ih1 | exact rfl | contradiction | omega | (exfalso; omega))
        · have e1 : (decide (M.sl x 5 = 1) && (decide (b = 0) || decide (M.sl x 4 = 1))) = false := by rw [← Bool.not_eq_true]; simp only [Bool.and_eq_true, Bool.or_eq_true, decide_eq_true_eq]; exact hm
          rw [e1, bI_f] at he
          have ih1 := ih (x + 1) (acc + 0) (some (.inr (.inl (some p)))) (by omega) (by omega) (by omega) (by omega)
          refine hV (fun p => p == 14) 80 _ _ _ _ _ _ ?_
          simp only [hlt, D0, hp, hpc, bI_in, bI_0, bI_1, bI_t, bI_f, bI_01, ae_aaload, ae_aload, ae_aload_n, ae_astore, ae_goto, ae_iadd, ae_iaload, ae_iconst, ae_ifCond, ae_if_icmp, ae_iinc, ae_iload, ae_iload_n, ae_istore_n, dX4_on_14, dX4_on_16, dX4_on_18, dX4_on_21, dX4_on_22, dX4_on_24, dX4_on_25, dX4_on_27, dX4_on_28, dX4_on_30, dX4_on_31, dX4_on_32, dX4_on_33, dX4_on_36, dX4_on_37, dX4_on_40, dX4_on_42, dX4_on_43, dX4_on_44, dX4_on_45, dX4_on_48, dX4_on_49, dX4_on_52, dX4_on_53, dX4_on_54, dX4_on_55, dX4_on_58, ab_wp0, ab_wps, ab_stp, ab_g, ab_st, ab_k2, ab_cl, ab_pop, ab_sz, ab_2, ab_ret, ab_f4, ab_tg, ab_I, ab_II, ab_A, ab_Rf, ab_VR, ab_IR, ab_VIR, ab_1, ab_LL, ab_DD, ab_ob, ab_pr, ab_qr, ab_ln, ab_so, ab_vI, ab_vA, ab_vD, ab_vL, ab_v2, ab_c, ab_fit, ab_rv, ab_tsw, ab_lsw, ab_up_eq, Fin.isValue, ab_f0, ab_f1, ab_f2, ab_f3, List.getElem?_cons_zero, List.getElem?_cons_succ, List.set_cons_zero, List.set_cons_succ, List.length_cons, List.length_nil, List.size_toArray, List.head?_cons, List.tail_cons, Option.map_some, cond_true, cond_false, true_and, and_true, false_and, and_false, not_true_eq_false, not_false_eq_true, true_imp_iff, false_imp_iff, if_true, if_false, ite_true, ite_false, ↓reduceIte, Nat.reduceAdd, Nat.reduceEqDiff, Nat.reduceLeDiff, Nat.reduceLT, Nat.reduceBEq, Nat.reduceBNe, Int.reduceAdd, Int.reduceNeg, Int.reduceSub, Int.reduceLE, Int.reduceLT, Int.reduceToNat, Int.reduceEq, Int.reduceMul, Int.cast_ofNat_Int, Nat.zero_add, Nat.add_zero, Nat.le_refl, eq_self, ne_eq, reduceCtorEq, or_true, true_or, or_false, false_or, Bool.or_true, Bool.or_false, Bool.true_or, Bool.false_or, Nat.zero_le, Int.le_refl, Int.ofNat_zero, Int.ofNat_one, Bool.false_eq_true]
          try simp only [ab_in]
          (repeat' (first | intro _ | refine And.intro ?_ ?_)) <;> (first | exact ih1 | exact rfl | contradiction | omega | (exfalso; omega))
    have l0 := loop M.n 0 0 none (by omega) (by omega) (by omega) (by rw [Int.zero_add]; rfl)
    refine hV (fun p => p == 14) 80 _ _ _ _ _ _ ?_
    simp only [D, D0, bI_in, bI_0, bI_1, bI_t, bI_f, bI_01, ae_aload_n, ae_arraylength, ae_astore_n, ae_getfield, ae_iconst, ae_istore, ae_istore_n, dX4_on_0, dX4_on_1, dX4_on_2, dX4_on_3, dX4_on_6, dX4_on_7, dX4_on_8, dX4_on_9, dX4_on_11, dX4_on_12, tbX4_g9, ab_wp0, ab_wps, ab_stp, ab_g, ab_st, ab_k2, ab_cl, ab_pop, ab_sz, ab_2, ab_ret, ab_f4, ab_tg, ab_I, ab_II, ab_A, ab_Rf, ab_VR, ab_IR, ab_VIR, ab_1, ab_LL, ab_DD, ab_ob, ab_pr, ab_qr, ab_ln, ab_so, ab_vI, ab_vA, ab_vD, ab_vL, ab_v2, ab_c, ab_fit, ab_rv, ab_tsw, ab_lsw, ab_up_eq, Fin.isValue, ab_f0, ab_f1, ab_f2, ab_f3, List.getElem?_cons_zero, List.getElem?_cons_succ, List.set_cons_zero, List.set_cons_succ, List.length_cons, List.length_nil, List.size_toArray, List.head?_cons, List.tail_cons, Option.map_some, cond_true, cond_false, true_and, and_true, false_and, and_false, not_true_eq_false, not_false_eq_true, true_imp_iff, false_imp_iff, if_true, if_false, ite_true, ite_false, ↓reduceIte, Nat.reduceAdd, Nat.reduceEqDiff, Nat.reduceLeDiff, Nat.reduceLT, Nat.reduceBEq, Nat.reduceBNe, Int.reduceAdd, Int.reduceNeg, Int.reduceSub, Int.reduceLE, Int.reduceLT, Int.reduceToNat, Int.reduceEq, Int.reduceMul, Int.cast_ofNat_Int, Nat.zero_add, Nat.add_zero, Nat.le_refl, eq_self, ne_eq, reduceCtorEq, or_true, true_or, or_false, false_or, Bool.or_true, Bool.or_false, Bool.true_or, Bool.false_or, Nat.zero_le, Int.le_refl, Int.ofNat_zero, Int.ofNat_one, Bool.false_eq_true]
    try simp only [ab_in]
    (repeat' (first | intro _ | refine And.intro ?_ ?_)) <;> (first | exact l0 | contradiction | omega | (exfalso; omega))
  · exact hT.elim
set_option maxRecDepth 100000 in
theorem con_X4_on (l : Launch) (D : va_G) (ty : Nat → ClassId) (base : Nat) : ab_Con l D vwCl ty lw_ts base lw_wd yX4_on cX4_on 7 (some .int) 0 0 0 0 Tr_X4_on :=
  ab_con_of (own := RX4) (rt := 1) (tb := tbX4) (ini := false) (ca := ca_X4_on) (by decide +kernel) rfl (fun h => by cases h) rfl lw_wd_ok wtbX4 lw_ar cm_X4_on
    (fun p e R s m args below meth c K hcx => by
      obtain ⟨hx, hb, hml, hown, hF, rfl⟩ := hcx
      exact ab_lk_all (ab_all_n))
    (by intro as h K ht; unfold Tr_X4_on at ht; split at ht <;> first | exact ht.elim | exact Nat.le_of_ble_eq_true rfl) (sem_X4_on base)
