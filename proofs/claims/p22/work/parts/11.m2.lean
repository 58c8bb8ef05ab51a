/-! ===== Roof: what only reads, on ===== -/
noncomputable def Tr_X1_isOnRot : ATr := fun as h K => match as with
  | [.inr (.inl (some a)), .inl s] => ab_so (ab_roof h a) fun P => (ab_in s) ∧ K (some (.inl (bI (onRotF P.2 s)))) h
  | _ => False
theorem mo_X1_isOnRot : ab_mo Tr_X1_isOnRot := by
  intro as h K K' hk ht
  unfold Tr_X1_isOnRot at ht ⊢
  split at ht
  · exact ab_so_mo (fun P q => ⟨q.1, hk _ _ q.2⟩) ht
  · exact ht.elim
def ca_X1_isOnRot : Nat → Option ACS := ab_lk [(65, (0, 1, 2, 0, 0, Tr_X1_isKnown)), (82, (0, 1, 3, 0, 0, Tr_X1_rotAt))]
theorem ca_X1_isOnRot_65 : ca_X1_isOnRot 65 = some (0, 1, 2, 0, 0, Tr_X1_isKnown) := rfl
theorem ca_X1_isOnRot_82 : ca_X1_isOnRot 82 = some (0, 1, 3, 0, 0, Tr_X1_rotAt) := rfl
theorem cm_X1_isOnRot : ∀ i q, ca_X1_isOnRot i = some q → ab_moq i q := ab_lk_all (ab_all_c mo_X1_isKnown (ab_all_c mo_X1_rotAt (ab_all_n)))
set_option maxRecDepth 100000 in
set_option maxHeartbeats 1000000 in
theorem sem_X1_isOnRot (base : Nat) : ab_Sem tbX1 lw_ts base cX1_isOnRot ca_X1_isOnRot 2 3 0 0 (fun as => ab_en as 3) Tr_X1_isOnRot := by
  intro as h K hT V hV
  unfold Tr_X1_isOnRot at hT
  split at hT
  · rename_i a s
    obtain ⟨⟨ns, S⟩, hP, hs, hK⟩ := ab_so_el hT
    obtain ⟨hB, n0, n1, n2, n3, n4, n5, n6, n7, n8, rfl, nd, c, c0, c1, c2, c3, c4, c5, c6, c7, c8⟩ := roof_el hP
    dsimp only at hK hs
    show V 0 [some (.inr (.inl (some a))), some (.inl s), none] [] h 0 0
    have hf := hB.frm_r s
    have hr := hB.row_r s
    have hl := hB.laid_r
    by_cases hth : isKnownF S s = true
    · have hk := isKnownF_t hth
      simp only [onRotF, hth, Bool.true_and] at hK
      have loop : ∀ (n : Nat) (x : Int), x + n = S.frm s + S.wid s → 0 ≤ x → K (some (.inl (bI (anyR (fun x => !decide (rotAtF S x (S.row s) < 5)) n x)))) h → V 17 [some (.inr (.inl (some a))), some (.inl s), some (.inl x)] [] h 0 0 := by
        intro n
        induction n with
        | zero =>
          intro x hx h0 hk2
          refine hV (fun p => p == 17) 80 _ _ _ _ _ _ ?_
          have he : S.frm s + S.wid s ≤ x := by omega
          simp only [c, c2, c3, c4, he, bI_in, bI_0, bI_1, bI_t, bI_f, bI_01, hP, ae_aload_n, ae_getfield, ae_goto, ae_iadd, ae_iaload, ae_iconst, ae_ifCond, ae_if_icmp, ae_iinc, ae_iload_n, ae_invokevirtual, ae_ireturn, ae_istore_n, dX1_isOnRot_0, dX1_isOnRot_1, dX1_isOnRot_2, dX1_isOnRot_5, dX1_isOnRot_8, dX1_isOnRot_9, dX1_isOnRot_10, dX1_isOnRot_11, dX1_isOnRot_14, dX1_isOnRot_15, dX1_isOnRot_16, dX1_isOnRot_17, dX1_isOnRot_18, dX1_isOnRot_19, dX1_isOnRot_22, dX1_isOnRot_23, dX1_isOnRot_24, dX1_isOnRot_25, dX1_isOnRot_28, dX1_isOnRot_29, dX1_isOnRot_30, dX1_isOnRot_31, dX1_isOnRot_34, dX1_isOnRot_35, dX1_isOnRot_36, dX1_isOnRot_37, dX1_isOnRot_40, dX1_isOnRot_41, dX1_isOnRot_42, dX1_isOnRot_45, dX1_isOnRot_46, dX1_isOnRot_49, dX1_isOnRot_50, dX1_isOnRot_51, dX1_isOnRot_54, dX1_isOnRot_57, dX1_isOnRot_58, tbX1_g18, tbX1_g21, tbX1_g24, ca_X1_isOnRot_65, ca_X1_isOnRot_82, ab_wp0, ab_wps, ab_stp, ab_g, ab_st, ab_k2, ab_cl, ab_pop, ab_sz, ab_2, ab_ret, ab_f4, ab_tg, ab_I, ab_II, ab_A, ab_Rf, ab_VR, ab_IR, ab_VIR, ab_1, ab_LL, ab_DD, ab_ob, ab_pr, ab_qr, ab_ln, ab_so, ab_vI, ab_vA, ab_vD, ab_vL, ab_v2, ab_c, ab_fit, ab_rv, ab_tsw, ab_lsw, ab_up_eq, Fin.isValue, ab_f0, ab_f1, ab_f2, ab_f3, List.getElem?_cons_zero, List.getElem?_cons_succ, List.set_cons_zero, List.set_cons_succ, List.length_cons, List.length_nil, List.size_toArray, List.head?_cons, List.tail_cons, Option.map_some, cond_true, cond_false, true_and, and_true, false_and, and_false, not_true_eq_false, not_false_eq_true, true_imp_iff, false_imp_iff, if_true, if_false, ite_true, ite_false, ↓reduceIte, Nat.reduceAdd, Nat.reduceEqDiff, Nat.reduceLeDiff, Nat.reduceLT, Nat.reduceBEq, Nat.reduceBNe, Int.reduceAdd, Int.reduceNeg, Int.reduceSub, Int.reduceLE, Int.reduceLT, Int.reduceToNat, Int.reduceEq, Int.reduceMul, Int.cast_ofNat_Int, Nat.zero_add, Nat.add_zero, Nat.le_refl, eq_self, ne_eq, reduceCtorEq, or_true, true_or, or_false, false_or, Bool.or_true, Bool.or_false, Bool.true_or, Bool.false_or, Nat.zero_le, Int.le_refl, Int.ofNat_zero, Int.ofNat_one, Bool.false_eq_true]
          simp only [ab_in, anyR, bI_f] at hs hk2 ⊢
          (repeat' (first | intro _ | refine And.intro ?_ ?_)) <;> (first | exact hk2 | contradiction | omega | (exfalso; omega))
        | succ n ih =>
          intro x hx h0 hk2
          refine hV (fun p => p == 17) 80 _ _ _ _ _ _ ?_
          have he : ¬ S.frm s + S.wid s ≤ x := by omega
          have hn := rotAtF_r hB x (S.row s)
          have ih1 := ih (x + 1) (by omega) (by omega)
          simp only [anyR] at hk2
          simp only [c, c2, c3, c4, he, bI_in, bI_0, bI_1, bI_t, bI_f, bI_01, hP, Tr_X1_rotAt, ae_aload_n, ae_getfield, ae_goto, ae_iadd, ae_iaload, ae_iconst, ae_ifCond, ae_if_icmp, ae_iinc, ae_iload_n, ae_invokevirtual, ae_ireturn, ae_istore_n, dX1_isOnRot_0, dX1_isOnRot_1, dX1_isOnRot_2, dX1_isOnRot_5, dX1_isOnRot_8, dX1_isOnRot_9, dX1_isOnRot_10, dX1_isOnRot_11, dX1_isOnRot_14, dX1_isOnRot_15, dX1_isOnRot_16, dX1_isOnRot_17, dX1_isOnRot_18, dX1_isOnRot_19, dX1_isOnRot_22, dX1_isOnRot_23, dX1_isOnRot_24, dX1_isOnRot_25, dX1_isOnRot_28, dX1_isOnRot_29, dX1_isOnRot_30, dX1_isOnRot_31, dX1_isOnRot_34, dX1_isOnRot_35, dX1_isOnRot_36, dX1_isOnRot_37, dX1_isOnRot_40, dX1_isOnRot_41, dX1_isOnRot_42, dX1_isOnRot_45, dX1_isOnRot_46, dX1_isOnRot_49, dX1_isOnRot_50, dX1_isOnRot_51, dX1_isOnRot_54, dX1_isOnRot_57, dX1_isOnRot_58, tbX1_g18, tbX1_g21, tbX1_g24, ca_X1_isOnRot_65, ca_X1_isOnRot_82, ab_wp0, ab_wps, ab_stp, ab_g, ab_st, ab_k2, ab_cl, ab_pop, ab_sz, ab_2, ab_ret, ab_f4, ab_tg, ab_I, ab_II, ab_A, ab_Rf, ab_VR, ab_IR, ab_VIR, ab_1, ab_LL, ab_DD, ab_ob, ab_pr, ab_qr, ab_ln, ab_so, ab_vI, ab_vA, ab_vD, ab_vL, ab_v2, ab_c, ab_fit, ab_rv, ab_tsw, ab_lsw, ab_up_eq, Fin.isValue, ab_f0, ab_f1, ab_f2, ab_f3, List.getElem?_cons_zero, List.getElem?_cons_succ, List.set_cons_zero, List.set_cons_succ, List.length_cons, List.length_nil, List.size_toArray, List.head?_cons, List.tail_cons, Option.map_some, cond_true, cond_false, true_and, and_true, false_and, and_false, not_true_eq_false, not_false_eq_true, true_imp_iff, false_imp_iff, if_true, if_false, ite_true, ite_false, ↓reduceIte, Nat.reduceAdd, Nat.reduceEqDiff, Nat.reduceLeDiff, Nat.reduceLT, Nat.reduceBEq, Nat.reduceBNe, Int.reduceAdd, Int.reduceNeg, Int.reduceSub, Int.reduceLE, Int.reduceLT, Int.reduceToNat, Int.reduceEq, Int.reduceMul, Int.cast_ofNat_Int, Nat.zero_add, Nat.add_zero, Nat.le_refl, eq_self, ne_eq, reduceCtorEq, or_true, true_or, or_false, false_or, Bool.or_true, Bool.or_false, Bool.true_or, Bool.false_or, Nat.zero_le, Int.le_refl, Int.ofNat_zero, Int.ofNat_one, Bool.false_eq_true]
          by_cases h1 : rotAtF S x (S.row s) < 5
          · simp only [h1, decide_true, decide_false, Bool.not_true, Bool.not_false, Bool.false_or, Bool.true_or, bI_t, not_false_eq_true, not_true_eq_false, true_imp_iff, false_imp_iff, true_and, and_true, if_true, if_false, eq_self] at hk2 ⊢
            simp only [ab_in] at hs ⊢
            (repeat' (first | intro _ | refine And.intro ?_ ?_)) <;> (first | exact ih1 hk2 | exact hk2 | contradiction | omega | (exfalso; omega))
          · simp only [h1, decide_true, decide_false, Bool.not_true, Bool.not_false, Bool.false_or, Bool.true_or, bI_t, not_false_eq_true, not_true_eq_false, true_imp_iff, false_imp_iff, true_and, and_true, if_true, if_false, eq_self] at hk2 ⊢
            simp only [ab_in] at hs ⊢
            (repeat' (first | intro _ | refine And.intro ?_ ?_)) <;> (first | exact ih1 hk2 | exact hk2 | contradiction | omega | (exfalso; omega))
      refine hV (fun p => p == 17) 80 _ _ _ _ _ _ ?_
      have l0 := loop (S.wid s).toNat (S.frm s) (by omega) (by omega) hK
      simp only [c, c2, c3, c4, hth, bI_in, bI_0, bI_1, bI_t, bI_f, bI_01, hP, Tr_X1_isKnown, ae_aload_n, ae_getfield, ae_goto, ae_iadd, ae_iaload, ae_iconst, ae_ifCond, ae_if_icmp, ae_iinc, ae_iload_n, ae_invokevirtual, ae_ireturn, ae_istore_n, dX1_isOnRot_0, dX1_isOnRot_1, dX1_isOnRot_2, dX1_isOnRot_5, dX1_isOnRot_8, dX1_isOnRot_9, dX1_isOnRot_10, dX1_isOnRot_11, dX1_isOnRot_14, dX1_isOnRot_15, dX1_isOnRot_16, dX1_isOnRot_17, dX1_isOnRot_18, dX1_isOnRot_19, dX1_isOnRot_22, dX1_isOnRot_23, dX1_isOnRot_24, dX1_isOnRot_25, dX1_isOnRot_28, dX1_isOnRot_29, dX1_isOnRot_30, dX1_isOnRot_31, dX1_isOnRot_34, dX1_isOnRot_35, dX1_isOnRot_36, dX1_isOnRot_37, dX1_isOnRot_40, dX1_isOnRot_41, dX1_isOnRot_42, dX1_isOnRot_45, dX1_isOnRot_46, dX1_isOnRot_49, dX1_isOnRot_50, dX1_isOnRot_51, dX1_isOnRot_54, dX1_isOnRot_57, dX1_isOnRot_58, tbX1_g18, tbX1_g21, tbX1_g24, ca_X1_isOnRot_65, ca_X1_isOnRot_82, ab_wp0, ab_wps, ab_stp, ab_g, ab_st, ab_k2, ab_cl, ab_pop, ab_sz, ab_2, ab_ret, ab_f4, ab_tg, ab_I, ab_II, ab_A, ab_Rf, ab_VR, ab_IR, ab_VIR, ab_1, ab_LL, ab_DD, ab_ob, ab_pr, ab_qr, ab_ln, ab_so, ab_vI, ab_vA, ab_vD, ab_vL, ab_v2, ab_c, ab_fit, ab_rv, ab_tsw, ab_lsw, ab_up_eq, Fin.isValue, ab_f0, ab_f1, ab_f2, ab_f3, List.getElem?_cons_zero, List.getElem?_cons_succ, List.set_cons_zero, List.set_cons_succ, List.length_cons, List.length_nil, List.size_toArray, List.head?_cons, List.tail_cons, Option.map_some, cond_true, cond_false, true_and, and_true, false_and, and_false, not_true_eq_false, not_false_eq_true, true_imp_iff, false_imp_iff, if_true, if_false, ite_true, ite_false, ↓reduceIte, Nat.reduceAdd, Nat.reduceEqDiff, Nat.reduceLeDiff, Nat.reduceLT, Nat.reduceBEq, Nat.reduceBNe, Int.reduceAdd, Int.reduceNeg, Int.reduceSub, Int.reduceLE, Int.reduceLT, Int.reduceToNat, Int.reduceEq, Int.reduceMul, Int.cast_ofNat_Int, Nat.zero_add, Nat.add_zero, Nat.le_refl, eq_self, ne_eq, reduceCtorEq, or_true, true_or, or_false, false_or, Bool.or_true, Bool.or_false, Bool.true_or, Bool.false_or, Nat.zero_le, Int.le_refl, Int.ofNat_zero, Int.ofNat_one, Bool.false_eq_true]
      simp only [ab_in] at hs ⊢
      (repeat' (first | intro _ | refine And.intro ?_ ?_)) <;> (first | exact l0 | contradiction | omega | (exfalso; omega))
    · simp only [onRotF, hth, Bool.false_and, bI_f] at hK
      refine hV (fun p => p == 17) 80 _ _ _ _ _ _ ?_
      simp only [c, hth, bI_in, bI_0, bI_1, bI_t, bI_f, bI_01, hP, Tr_X1_isKnown, ae_aload_n, ae_getfield, ae_goto, ae_iadd, ae_iaload, ae_iconst, ae_ifCond, ae_if_icmp, ae_iinc, ae_iload_n, ae_invokevirtual, ae_ireturn, ae_istore_n, dX1_isOnRot_0, dX1_isOnRot_1, dX1_isOnRot_2, dX1_isOnRot_5, dX1_isOnRot_8, dX1_isOnRot_9, dX1_isOnRot_10, dX1_isOnRot_11, dX1_isOnRot_14, dX1_isOnRot_15, dX1_isOnRot_16, dX1_isOnRot_17, dX1_isOnRot_18, dX1_isOnRot_19, dX1_isOnRot_22, dX1_isOnRot_23, dX1_isOnRot_24, dX1_isOnRot_25, dX1_isOnRot_28, dX1_isOnRot_29, dX1_isOnRot_30, dX1_isOnRot_31, dX1_isOnRot_34, dX1_isOnRot_35, dX1_isOnRot_36, dX1_isOnRot_37, dX1_isOnRot_40, dX1_isOnRot_41, dX1_isOnRot_42, dX1_isOnRot_45, dX1_isOnRot_46, dX1_isOnRot_49, dX1_isOnRot_50, dX1_isOnRot_51, dX1_isOnRot_54, dX1_isOnRot_57, dX1_isOnRot_58, tbX1_g18, tbX1_g21, tbX1_g24, ca_X1_isOnRot_65, ca_X1_isOnRot_82, ab_wp0, ab_wps, ab_stp, ab_g, ab_st, ab_k2, ab_cl, ab_pop, ab_sz, ab_2, ab_ret, ab_f4, ab_tg, ab_I, ab_II, ab_A, ab_Rf, ab_VR, ab_IR, ab_VIR, ab_1, ab_LL, ab_DD, ab_ob, ab_pr, ab_qr, ab_ln, ab_so, ab_vI, ab_vA, ab_vD, ab_vL, ab_v2, ab_c, ab_fit, ab_rv, ab_tsw, ab_lsw, ab_up_eq, Fin.isValue, ab_f0, ab_f1, ab_f2, ab_f3, List.getElem?_cons_zero, List.getElem?_cons_succ, List.set_cons_zero, List.set_cons_succ, List.length_cons, List.length_nil, List.size_toArray, List.head?_cons, List.tail_cons, Option.map_some, cond_true, cond_false, true_and, and_true, false_and, and_false, not_true_eq_false, not_false_eq_true, true_imp_iff, false_imp_iff, if_true, if_false, ite_true, ite_false, ↓reduceIte, Nat.reduceAdd, Nat.reduceEqDiff, Nat.reduceLeDiff, Nat.reduceLT, Nat.reduceBEq, Nat.reduceBNe, Int.reduceAdd, Int.reduceNeg, Int.reduceSub, Int.reduceLE, Int.reduceLT, Int.reduceToNat, Int.reduceEq, Int.reduceMul, Int.cast_ofNat_Int, Nat.zero_add, Nat.add_zero, Nat.le_refl, eq_self, ne_eq, reduceCtorEq, or_true, true_or, or_false, false_or, Bool.or_true, Bool.or_false, Bool.true_or, Bool.false_or, Nat.zero_le, Int.le_refl, Int.ofNat_zero, Int.ofNat_one, Bool.false_eq_true]
      simp only [ab_in] at hs ⊢
      (repeat' (first | intro _ | refine And.intro ?_ ?_)) <;> (first | exact hK | contradiction | omega | (exfalso; omega))
  · exact hT.elim
set_option maxRecDepth 100000 in
theorem con_X1_isOnRot (l : Launch) (D : va_G) (ty : Nat → ClassId) (base : Nat) : ab_Con l D vwCl ty lw_ts base lw_wd yX1_isOnRot cX1_isOnRot 3 (some .boolean) 1 22 0 0 Tr_X1_isOnRot :=
  ab_con_of (own := RX1) (rt := 2) (tb := tbX1) (ini := false) (ca := ca_X1_isOnRot) (by decide +kernel) rfl (fun h => by cases h) rfl lw_wd_ok wtbX1 lw_ar cm_X1_isOnRot
    (fun p e R s m args below meth c K hcx => by
      obtain ⟨hx, hb, hml, hown, hF, rfl⟩ := hcx
      exact ab_lk_all (ab_all_c (ab_tc_V hx hb hml hown lw_wd_ok hF ⟨rfl, rfl⟩ (con_X1_isKnown l D ty base) rfl (lw_wi (by decide +kernel) (by decide +kernel)) (lw_wi (by decide +kernel) (by decide +kernel)) (lw_wi (by decide +kernel) (by decide +kernel)) (lw_wi (by decide +kernel) (by decide +kernel)) (lw_wi (by decide +kernel) (by decide +kernel)) (by decide +kernel) ⟨by decide, by decide⟩) (ab_all_c (ab_tc_V hx hb hml hown lw_wd_ok hF ⟨rfl, rfl⟩ (con_X1_rotAt l D ty base) rfl (lw_wi (by decide +kernel) (by decide +kernel)) (lw_wi (by decide +kernel) (by decide +kernel)) (lw_wi (by decide +kernel) (by decide +kernel)) (lw_wi (by decide +kernel) (by decide +kernel)) (lw_wi (by decide +kernel) (by decide +kernel)) (by decide +kernel) ⟨by decide, by decide⟩) (ab_all_n))))
    (by intro as h K ht; unfold Tr_X1_isOnRot at ht; split at ht <;> first | exact ht.elim | exact Nat.le_of_ble_eq_true rfl) (sem_X1_isOnRot base)
noncomputable def Tr_X1_isBareSomewhere : ATr := fun as h K => match as with
  | [.inr (.inl (some a)), .inl s] => ab_so (ab_roof h a) fun P => (ab_in s) ∧ K (some (.inl (bI (bareF P.2 s)))) h
  | _ => False
theorem mo_X1_isBareSomewhere : ab_mo Tr_X1_isBareSomewhere := by
  intro as h K K' hk ht
  unfold Tr_X1_isBareSomewhere at ht ⊢
  split at ht
  · exact ab_so_mo (fun P q => ⟨q.1, hk _ _ q.2⟩) ht
  · exact ht.elim
def ca_X1_isBareSomewhere : Nat → Option ACS := ab_lk [(65, (0, 1, 2, 0, 0, Tr_X1_isKnown)), (68, (0, 1, 3, 0, 0, Tr_X1_numberAt))]
theorem ca_X1_isBareSomewhere_65 : ca_X1_isBareSomewhere 65 = some (0, 1, 2, 0, 0, Tr_X1_isKnown) := rfl
theorem ca_X1_isBareSomewhere_68 : ca_X1_isBareSomewhere 68 = some (0, 1, 3, 0, 0, Tr_X1_numberAt) := rfl
theorem cm_X1_isBareSomewhere : ∀ i q, ca_X1_isBareSomewhere i = some q → ab_moq i q := ab_lk_all (ab_all_c mo_X1_isKnown (ab_all_c mo_X1_numberAt (ab_all_n)))
set_option maxRecDepth 100000 in
set_option maxHeartbeats 1000000 in
theorem sem_X1_isBareSomewhere (base : Nat) : ab_Sem tbX1 lw_ts base cX1_isBareSomewhere ca_X1_isBareSomewhere 2 3 0 0 (fun as => ab_en as 3) Tr_X1_isBareSomewhere := by
  intro as h K hT V hV
  unfold Tr_X1_isBareSomewhere at hT
  split at hT
  · rename_i a s
    obtain ⟨⟨ns, S⟩, hP, hs, hK⟩ := ab_so_el hT
    obtain ⟨hB, n0, n1, n2, n3, n4, n5, n6, n7, n8, rfl, nd, c, c0, c1, c2, c3, c4, c5, c6, c7, c8⟩ := roof_el hP
    dsimp only at hK hs
    show V 0 [some (.inr (.inl (some a))), some (.inl s), none] [] h 0 0
    have hf := hB.frm_r s
    have hr := hB.row_r s
    have hl := hB.laid_r
    by_cases hth : isKnownF S s = true
    · have hk := isKnownF_t hth
      simp only [bareF, hth, Bool.true_and] at hK
      have loop : ∀ (n : Nat) (x : Int), x + n = S.frm s + S.wid s → 0 ≤ x → K (some (.inl (bI (anyR (fun x => decide (numberAtF S x (S.row s + 1) = -1)) n x)))) h → V 17 [some (.inr (.inl (some a))), some (.inl s), some (.inl x)] [] h 0 0 := by
        intro n
        induction n with
        | zero =>
          intro x hx h0 hk2
          refine hV (fun p => p == 17) 80 _ _ _ _ _ _ ?_
          have he : S.frm s + S.wid s ≤ x := by omega
          simp only [c, c2, c3, c4, he, bI_in, bI_0, bI_1, bI_t, bI_f, bI_01, hP, ae_aload_n, ae_getfield, ae_goto, ae_iadd, ae_iaload, ae_iconst, ae_ifCond, ae_if_icmp, ae_iinc, ae_iload_n, ae_invokevirtual, ae_ireturn, ae_istore_n, dX1_isBareSomewhere_0, dX1_isBareSomewhere_1, dX1_isBareSomewhere_2, dX1_isBareSomewhere_5, dX1_isBareSomewhere_8, dX1_isBareSomewhere_9, dX1_isBareSomewhere_10, dX1_isBareSomewhere_11, dX1_isBareSomewhere_14, dX1_isBareSomewhere_15, dX1_isBareSomewhere_16, dX1_isBareSomewhere_17, dX1_isBareSomewhere_18, dX1_isBareSomewhere_19, dX1_isBareSomewhere_22, dX1_isBareSomewhere_23, dX1_isBareSomewhere_24, dX1_isBareSomewhere_25, dX1_isBareSomewhere_28, dX1_isBareSomewhere_29, dX1_isBareSomewhere_30, dX1_isBareSomewhere_31, dX1_isBareSomewhere_34, dX1_isBareSomewhere_35, dX1_isBareSomewhere_36, dX1_isBareSomewhere_37, dX1_isBareSomewhere_40, dX1_isBareSomewhere_41, dX1_isBareSomewhere_42, dX1_isBareSomewhere_43, dX1_isBareSomewhere_44, dX1_isBareSomewhere_47, dX1_isBareSomewhere_48, dX1_isBareSomewhere_51, dX1_isBareSomewhere_52, dX1_isBareSomewhere_53, dX1_isBareSomewhere_56, dX1_isBareSomewhere_59, dX1_isBareSomewhere_60, tbX1_g18, tbX1_g21, tbX1_g24, ca_X1_isBareSomewhere_65, ca_X1_isBareSomewhere_68, ab_wp0, ab_wps, ab_stp, ab_g, ab_st, ab_k2, ab_cl, ab_pop, ab_sz, ab_2, ab_ret, ab_f4, ab_tg, ab_I, ab_II, ab_A, ab_Rf, ab_VR, ab_IR, ab_VIR, ab_1, ab_LL, ab_DD, ab_ob, ab_pr, ab_qr, ab_ln, ab_so, ab_vI, ab_vA, ab_vD, ab_vL, ab_v2, ab_c, ab_fit, ab_rv, ab_tsw, ab_lsw, ab_up_eq, Fin.isValue, ab_f0, ab_f1, ab_f2, ab_f3, List.getElem?_cons_zero, List.getElem?_cons_succ, List.set_cons_zero, List.set_cons_succ, List.length_cons, List.length_nil, List.size_toArray, List.head?_cons, List.tail_cons, Option.map_some, cond_true, cond_false, true_and, and_true, false_and, and_false, not_true_eq_false, not_false_eq_true, true_imp_iff, false_imp_iff, if_true, if_false, ite_true, ite_false, ↓reduceIte, Nat.reduceAdd, Nat.reduceEqDiff, Nat.reduceLeDiff, Nat.reduceLT, Nat.reduceBEq, Nat.reduceBNe, Int.reduceAdd, Int.reduceNeg, Int.reduceSub, Int.reduceLE, Int.reduceLT, Int.reduceToNat, Int.reduceEq, Int.reduceMul, Int.cast_ofNat_Int, Nat.zero_add, Nat.add_zero, Nat.le_refl, eq_self, ne_eq, reduceCtorEq, or_true, true_or, or_false, false_or, Bool.or_true, Bool.or_false, Bool.true_or, Bool.false_or, Nat.zero_le, Int.le_refl, Int.ofNat_zero, Int.ofNat_one, Bool.false_eq_true]
          simp only [ab_in, anyR, bI_f] at hs hk2 ⊢
          (repeat' (first | intro _ | refine And.intro ?_ ?_)) <;> (first | exact hk2 | contradiction | omega | (exfalso; omega))
        | succ n ih =>
          intro x hx h0 hk2
          refine hV (fun p => p == 17) 80 _ _ _ _ _ _ ?_
          have he : ¬ S.frm s + S.wid s ≤ x := by omega
          have hn := numberAtF_r hB x (S.row s + 1)
          have ih1 := ih (x + 1) (by omega) (by omega)
          simp only [anyR] at hk2
          simp only [c, c2, c3, c4, he, bI_in, bI_0, bI_1, bI_t, bI_f, bI_01, hP, Tr_X1_numberAt, ae_aload_n, ae_getfield, ae_goto, ae_iadd, ae_iaload, ae_iconst, ae_ifCond, ae_if_icmp, ae_iinc, ae_iload_n, ae_invokevirtual, ae_ireturn, ae_istore_n, dX1_isBareSomewhere_0, dX1_isBareSomewhere_1, dX1_isBareSomewhere_2, dX1_isBareSomewhere_5, dX1_isBareSomewhere_8, dX1_isBareSomewhere_9, dX1_isBareSomewhere_10, dX1_isBareSomewhere_11, dX1_isBareSomewhere_14, dX1_isBareSomewhere_15, dX1_isBareSomewhere_16, dX1_isBareSomewhere_17, dX1_isBareSomewhere_18, dX1_isBareSomewhere_19, dX1_isBareSomewhere_22, dX1_isBareSomewhere_23, dX1_isBareSomewhere_24, dX1_isBareSomewhere_25, dX1_isBareSomewhere_28, dX1_isBareSomewhere_29, dX1_isBareSomewhere_30, dX1_isBareSomewhere_31, dX1_isBareSomewhere_34, dX1_isBareSomewhere_35, dX1_isBareSomewhere_36, dX1_isBareSomewhere_37, dX1_isBareSomewhere_40, dX1_isBareSomewhere_41, dX1_isBareSomewhere_42, dX1_isBareSomewhere_43, dX1_isBareSomewhere_44, dX1_isBareSomewhere_47, dX1_isBareSomewhere_48, dX1_isBareSomewhere_51, dX1_isBareSomewhere_52, dX1_isBareSomewhere_53, dX1_isBareSomewhere_56, dX1_isBareSomewhere_59, dX1_isBareSomewhere_60, tbX1_g18, tbX1_g21, tbX1_g24, ca_X1_isBareSomewhere_65, ca_X1_isBareSomewhere_68, ab_wp0, ab_wps, ab_stp, ab_g, ab_st, ab_k2, ab_cl, ab_pop, ab_sz, ab_2, ab_ret, ab_f4, ab_tg, ab_I, ab_II, ab_A, ab_Rf, ab_VR, ab_IR, ab_VIR, ab_1, ab_LL, ab_DD, ab_ob, ab_pr, ab_qr, ab_ln, ab_so, ab_vI, ab_vA, ab_vD, ab_vL, ab_v2, ab_c, ab_fit, ab_rv, ab_tsw, ab_lsw, ab_up_eq, Fin.isValue, ab_f0, ab_f1, ab_f2, ab_f3, List.getElem?_cons_zero, List.getElem?_cons_succ, List.set_cons_zero, List.set_cons_succ, List.length_cons, List.length_nil, List.size_toArray, List.head?_cons, List.tail_cons, Option.map_some, cond_true, cond_false, true_and, and_true, false_and, and_false, not_true_eq_false, not_false_eq_true, true_imp_iff, false_imp_iff, if_true, if_false, ite_true, ite_false, ↓reduceIte, Nat.reduceAdd, Nat.reduceEqDiff, Nat.reduceLeDiff, Nat.reduceLT, Nat.reduceBEq, Nat.reduceBNe, Int.reduceAdd, Int.reduceNeg, Int.reduceSub, Int.reduceLE, Int.reduceLT, Int.reduceToNat, Int.reduceEq, Int.reduceMul, Int.cast_ofNat_Int, Nat.zero_add, Nat.add_zero, Nat.le_refl, eq_self, ne_eq, reduceCtorEq, or_true, true_or, or_false, false_or, Bool.or_true, Bool.or_false, Bool.true_or, Bool.false_or, Nat.zero_le, Int.le_refl, Int.ofNat_zero, Int.ofNat_one, Bool.false_eq_true]
          by_cases h1 : numberAtF S x (S.row s + 1) = -1
          · simp only [h1, decide_true, decide_false, Bool.not_true, Bool.not_false, Bool.false_or, Bool.true_or, bI_t, not_false_eq_true, not_true_eq_false, true_imp_iff, false_imp_iff, true_and, and_true, if_true, if_false, eq_self] at hk2 ⊢
            simp only [ab_in] at hs ⊢
            (repeat' (first | intro _ | refine And.intro ?_ ?_)) <;> (first | exact ih1 hk2 | exact hk2 | contradiction | omega | (exfalso; omega))
          · simp only [h1, decide_true, decide_false, Bool.not_true, Bool.not_false, Bool.false_or, Bool.true_or, bI_t, not_false_eq_true, not_true_eq_false, true_imp_iff, false_imp_iff, true_and, and_true, if_true, if_false, eq_self] at hk2 ⊢
            simp only [ab_in] at hs ⊢
            (repeat' (first | intro _ | refine And.intro ?_ ?_)) <;> (first | exact ih1 hk2 | exact hk2 | contradiction | omega | (exfalso; omega))
      refine hV (fun p => p == 17) 80 _ _ _ _ _ _ ?_
      have l0 := loop (S.wid s).toNat (S.frm s) (by omega) (by omega) hK
      simp only [c, c2, c3, c4, hth, bI_in, bI_0, bI_1, bI_t, bI_f, bI_01, hP, Tr_X1_isKnown, ae_aload_n, ae_getfield, ae_goto, ae_iadd, ae_iaload, ae_iconst, ae_ifCond, ae_if_icmp, ae_iinc, ae_iload_n, ae_invokevirtual, ae_ireturn, ae_istore_n, dX1_isBareSomewhere_0, dX1_isBareSomewhere_1, dX1_isBareSomewhere_2, dX1_isBareSomewhere_5, dX1_isBareSomewhere_8, dX1_isBareSomewhere_9, dX1_isBareSomewhere_10, dX1_isBareSomewhere_11, dX1_isBareSomewhere_14, dX1_isBareSomewhere_15, dX1_isBareSomewhere_16, dX1_isBareSomewhere_17, dX1_isBareSomewhere_18, dX1_isBareSomewhere_19, dX1_isBareSomewhere_22, dX1_isBareSomewhere_23, dX1_isBareSomewhere_24, dX1_isBareSomewhere_25, dX1_isBareSomewhere_28, dX1_isBareSomewhere_29, dX1_isBareSomewhere_30, dX1_isBareSomewhere_31, dX1_isBareSomewhere_34, dX1_isBareSomewhere_35, dX1_isBareSomewhere_36, dX1_isBareSomewhere_37, dX1_isBareSomewhere_40, dX1_isBareSomewhere_41, dX1_isBareSomewhere_42, dX1_isBareSomewhere_43, dX1_isBareSomewhere_44, dX1_isBareSomewhere_47, dX1_isBareSomewhere_48, dX1_isBareSomewhere_51, dX1_isBareSomewhere_52, dX1_isBareSomewhere_53, dX1_isBareSomewhere_56, dX1_isBareSomewhere_59, dX1_isBareSomewhere_60, tbX1_g18, tbX1_g21, tbX1_g24, ca_X1_isBareSomewhere_65, ca_X1_isBareSomewhere_68, ab_wp0, ab_wps, ab_stp, ab_g, ab_st, ab_k2, ab_cl, ab_pop, ab_sz, ab_2, ab_ret, ab_f4, ab_tg, ab_I, ab_II, ab_A, ab_Rf, ab_VR, ab_IR, ab_VIR, ab_1, ab_LL, ab_DD, ab_ob, ab_pr, ab_qr, ab_ln, ab_so, ab_vI, ab_vA, ab_vD, ab_vL, ab_v2, ab_c, ab_fit, ab_rv, ab_tsw, ab_lsw, ab_up_eq, Fin.isValue, ab_f0, ab_f1, ab_f2, ab_f3, List.getElem?_cons_zero, List.getElem?_cons_succ, List.set_cons_zero, List.set_cons_succ, List.length_cons, List.length_nil, List.size_toArray, List.head?_cons, List.tail_cons, Option.map_some, cond_true, cond_false, true_and, and_true, false_and, and_false, not_true_eq_false, not_false_eq_true, true_imp_iff, false_imp_iff, if_true, if_false, ite_true, ite_false, ↓reduceIte, Nat.reduceAdd, Nat.reduceEqDiff, Nat.reduceLeDiff, Nat.reduceLT, Nat.reduceBEq, Nat.reduceBNe, Int.reduceAdd, Int.reduceNeg, Int.reduceSub, Int.reduceLE, Int.reduceLT, Int.reduceToNat, Int.reduceEq, Int.reduceMul, Int.cast_ofNat_Int, Nat.zero_add, Nat.add_zero, Nat.le_refl, eq_self, ne_eq, reduceCtorEq, or_true, true_or, or_false, false_or, Bool.or_true, Bool.or_false, Bool.true_or, Bool.false_or, Nat.zero_le, Int.le_refl, Int.ofNat_zero, Int.ofNat_one, Bool.false_eq_true]
      simp only [ab_in] at hs ⊢
      (repeat' (first | intro _ | refine And.intro ?_ ?_)) <;> (first | exact l0 | contradiction | omega | (exfalso; omega))
    · simp only [bareF, hth, Bool.false_and, bI_f] at hK
      refine hV (fun p => p == 17) 80 _ _ _ _ _ _ ?_
      simp only [c, hth, bI_in, bI_0, bI_1, bI_t, bI_f, bI_01, hP, Tr_X1_isKnown, ae_aload_n, ae_getfield, ae_goto, ae_iadd, ae_iaload, ae_iconst, ae_ifCond, ae_if_icmp, ae_iinc, ae_iload_n, ae_invokevirtual, ae_ireturn, ae_istore_n, dX1_isBareSomewhere_0, dX1_isBareSomewhere_1, dX1_isBareSomewhere_2, dX1_isBareSomewhere_5, dX1_isBareSomewhere_8, dX1_isBareSomewhere_9, dX1_isBareSomewhere_10, dX1_isBareSomewhere_11, dX1_isBareSomewhere_14, dX1_isBareSomewhere_15, dX1_isBareSomewhere_16, dX1_isBareSomewhere_17, dX1_isBareSomewhere_18, dX1_isBareSomewhere_19, dX1_isBareSomewhere_22, dX1_isBareSomewhere_23, dX1_isBareSomewhere_24, dX1_isBareSomewhere_25, dX1_isBareSomewhere_28, dX1_isBareSomewhere_29, dX1_isBareSomewhere_30, dX1_isBareSomewhere_31, dX1_isBareSomewhere_34, dX1_isBareSomewhere_35, dX1_isBareSomewhere_36, dX1_isBareSomewhere_37, dX1_isBareSomewhere_40, dX1_isBareSomewhere_41, dX1_isBareSomewhere_42, dX1_isBareSomewhere_43, dX1_isBareSomewhere_44, dX1_isBareSomewhere_47, dX1_isBareSomewhere_48, dX1_isBareSomewhere_51, dX1_isBareSomewhere_52, dX1_isBareSomewhere_53, dX1_isBareSomewhere_56, dX1_isBareSomewhere_59, dX1_isBareSomewhere_60, tbX1_g18, tbX1_g21, tbX1_g24, ca_X1_isBareSomewhere_65, ca_X1_isBareSomewhere_68, ab_wp0, ab_wps, ab_stp, ab_g, ab_st, ab_k2, ab_cl, ab_pop, ab_sz, ab_2, ab_ret, ab_f4, ab_tg, ab_I, ab_II, ab_A, ab_Rf, ab_VR, ab_IR, ab_VIR, ab_1, ab_LL, ab_DD, ab_ob, ab_pr, ab_qr, ab_ln, ab_so, ab_vI, ab_vA, ab_vD, ab_vL, ab_v2, ab_c, ab_fit, ab_rv, ab_tsw, ab_lsw, ab_up_eq, Fin.isValue, ab_f0, ab_f1, ab_f2, ab_f3, List.getElem?_cons_zero, List.getElem?_cons_succ, List.set_cons_zero, List.set_cons_succ, List.length_cons, List.length_nil, List.size_toArray, List.head?_cons, List.tail_cons, Option.map_some, cond_true, cond_false, true_and, and_true, false_and, and_false, not_true_eq_false, not_false_eq_true, true_imp_iff, false_imp_iff, if_true, if_false, ite_true, ite_false, ↓reduceIte, Nat.reduceAdd, Nat.reduceEqDiff, Nat.reduceLeDiff, Nat.reduceLT, Nat.reduceBEq, Nat.reduceBNe, Int.reduceAdd, Int.reduceNeg, Int.reduceSub, Int.reduceLE, Int.reduceLT, Int.reduceToNat, Int.reduceEq, Int.reduceMul, Int.cast_ofNat_Int, Nat.zero_add, Nat.add_zero, Nat.le_refl, eq_self, ne_eq, reduceCtorEq, or_true, true_or, or_false, false_or, Bool.or_true, Bool.or_false, Bool.true_or, Bool.false_or, Nat.zero_le, Int.le_refl, Int.ofNat_zero, Int.ofNat_one, Bool.false_eq_true]
      simp only [ab_in] at hs ⊢
      (repeat' (first | intro _ | refine And.intro ?_ ?_)) <;> (first | exact hK | contradiction | omega | (exfalso; omega))
  · exact hT.elim
set_option maxRecDepth 100000 in
theorem con_X1_isBareSomewhere (l : Launch) (D : va_G) (ty : Nat → ClassId) (base : Nat) : ab_Con l D vwCl ty lw_ts base lw_wd yX1_isBareSomewhere cX1_isBareSomewhere 3 (some .boolean) 1 22 0 0 Tr_X1_isBareSomewhere :=
  ab_con_of (own := RX1) (rt := 2) (tb := tbX1) (ini := false) (ca := ca_X1_isBareSomewhere) (by decide +kernel) rfl (fun h => by cases h) rfl lw_wd_ok wtbX1 lw_ar cm_X1_isBareSomewhere
    (fun p e R s m args below meth c K hcx => by
      obtain ⟨hx, hb, hml, hown, hF, rfl⟩ := hcx
      exact ab_lk_all (ab_all_c (ab_tc_V hx hb hml hown lw_wd_ok hF ⟨rfl, rfl⟩ (con_X1_isKnown l D ty base) rfl (lw_wi (by decide +kernel) (by decide +kernel)) (lw_wi (by decide +kernel) (by decide +kernel)) (lw_wi (by decide +kernel) (by decide +kernel)) (lw_wi (by decide +kernel) (by decide +kernel)) (lw_wi (by decide +kernel) (by decide +kernel)) (by decide +kernel) ⟨by decide, by decide⟩) (ab_all_c (ab_tc_V hx hb hml hown lw_wd_ok hF ⟨rfl, rfl⟩ (con_X1_numberAt l D ty base) rfl (lw_wi (by decide +kernel) (by decide +kernel)) (lw_wi (by decide +kernel) (by decide +kernel)) (lw_wi (by decide +kernel) (by decide +kernel)) (lw_wi (by decide +kernel) (by decide +kernel)) (lw_wi (by decide +kernel) (by decide +kernel)) (by decide +kernel) ⟨by decide, by decide⟩) (ab_all_n))))
    (by intro as h K ht; unfold Tr_X1_isBareSomewhere at ht; split at ht <;> first | exact ht.elim | exact Nat.le_of_ble_eq_true rfl) (sem_X1_isBareSomewhere base)
noncomputable def Tr_X1_holdOf : ATr := fun as h K => match as with
  | [.inr (.inl (some a)), .inl s] => ab_so (ab_roof h a) fun P => (ab_in s) ∧ K (some (.inl (holdF P.2 s))) h
  | _ => False
theorem mo_X1_holdOf : ab_mo Tr_X1_holdOf := by
  intro as h K K' hk ht
  unfold Tr_X1_holdOf at ht ⊢
  split at ht
  · exact ab_so_mo (fun P q => ⟨q.1, hk _ _ q.2⟩) ht
  · exact ht.elim
def ca_X1_holdOf : Nat → Option ACS := ab_lk [(53, (0, 1, 2, 0, 0, Tr_X1_isThere)), (79, (0, 1, 2, 0, 0, Tr_X1_isOnRot)), (57, (0, 1, 2, 0, 0, Tr_X1_uponIt))]
theorem ca_X1_holdOf_53 : ca_X1_holdOf 53 = some (0, 1, 2, 0, 0, Tr_X1_isThere) := rfl
theorem ca_X1_holdOf_79 : ca_X1_holdOf 79 = some (0, 1, 2, 0, 0, Tr_X1_isOnRot) := rfl
theorem ca_X1_holdOf_57 : ca_X1_holdOf 57 = some (0, 1, 2, 0, 0, Tr_X1_uponIt) := rfl
theorem cm_X1_holdOf : ∀ i q, ca_X1_holdOf i = some q → ab_moq i q := ab_lk_all (ab_all_c mo_X1_isThere (ab_all_c mo_X1_isOnRot (ab_all_c mo_X1_uponIt (ab_all_n))))
set_option maxRecDepth 100000 in
set_option maxHeartbeats 1000000 in
theorem sem_X1_holdOf (base : Nat) : ab_Sem tbX1 lw_ts base cX1_holdOf ca_X1_holdOf 1 4 0 0 (fun as => ab_en as 4) Tr_X1_holdOf := by
  intro as h K hT V hV
  unfold Tr_X1_holdOf at hT
  split at hT
  · rename_i a s
    obtain ⟨⟨ns, S⟩, hP, hs, hK⟩ := ab_so_el hT
    obtain ⟨hB, n0, n1, n2, n3, n4, n5, n6, n7, n8, rfl, nd, c, c0, c1, c2, c3, c4, c5, c6, c7, c8⟩ := roof_el hP
    dsimp only at hK hs
    show V 0 [some (.inr (.inl (some a))), some (.inl s), none, none] [] h 0 0
    have hu := uponF_r hB s
    have hn := hB.nai_r s
    have hl := hB.laid_r
    have hcr := hB.crk_r s
    refine hV (fun _ => false) 80 _ _ _ _ _ _ ?_
    by_cases hth : isThereF S s = true
    · obtain ⟨hkn, hon⟩ := isThereF_t hth
      have hk := isKnownF_t hkn
      simp only [holdF, hth, cond_true] at hK
      simp only [c, c5, c6, hth, bI_in, bI_0, bI_1, bI_t, bI_f, bI_01, hP, Tr_X1_isThere, Tr_X1_isOnRot, Tr_X1_uponIt, ae_aload_n, ae_baload, ae_getfield, ae_goto, ae_iadd, ae_iaload, ae_iconst, ae_idiv, ae_ifCond, ae_iload_n, ae_imul, ae_invokevirtual, ae_ireturn, ae_istore_n, dX1_holdOf_0, dX1_holdOf_1, dX1_holdOf_2, dX1_holdOf_5, dX1_holdOf_8, dX1_holdOf_9, dX1_holdOf_10, dX1_holdOf_11, dX1_holdOf_12, dX1_holdOf_15, dX1_holdOf_18, dX1_holdOf_19, dX1_holdOf_22, dX1_holdOf_23, dX1_holdOf_24, dX1_holdOf_25, dX1_holdOf_26, dX1_holdOf_29, dX1_holdOf_30, dX1_holdOf_31, dX1_holdOf_32, dX1_holdOf_33, dX1_holdOf_34, dX1_holdOf_35, dX1_holdOf_38, dX1_holdOf_39, dX1_holdOf_40, dX1_holdOf_41, dX1_holdOf_42, dX1_holdOf_45, dX1_holdOf_46, dX1_holdOf_47, dX1_holdOf_50, dX1_holdOf_51, dX1_holdOf_52, dX1_holdOf_53, dX1_holdOf_56, dX1_holdOf_57, tbX1_g27, tbX1_g30, ca_X1_holdOf_53, ca_X1_holdOf_79, ca_X1_holdOf_57, ab_wp0, ab_wps, ab_stp, ab_g, ab_st, ab_k2, ab_cl, ab_pop, ab_sz, ab_2, ab_ret, ab_f4, ab_tg, ab_I, ab_II, ab_A, ab_Rf, ab_VR, ab_IR, ab_VIR, ab_1, ab_LL, ab_DD, ab_ob, ab_pr, ab_qr, ab_ln, ab_so, ab_vI, ab_vA, ab_vD, ab_vL, ab_v2, ab_c, ab_fit, ab_rv, ab_tsw, ab_lsw, ab_up_eq, Fin.isValue, ab_f0, ab_f1, ab_f2, ab_f3, List.getElem?_cons_zero, List.getElem?_cons_succ, List.set_cons_zero, List.set_cons_succ, List.length_cons, List.length_nil, List.size_toArray, List.head?_cons, List.tail_cons, Option.map_some, cond_true, cond_false, true_and, and_true, false_and, and_false, not_true_eq_false, not_false_eq_true, true_imp_iff, false_imp_iff, if_true, if_false, ite_true, ite_false, ↓reduceIte, Nat.reduceAdd, Nat.reduceEqDiff, Nat.reduceLeDiff, Nat.reduceLT, Nat.reduceBEq, Nat.reduceBNe, Int.reduceAdd, Int.reduceNeg, Int.reduceSub, Int.reduceLE, Int.reduceLT, Int.reduceToNat, Int.reduceEq, Int.reduceMul, Int.cast_ofNat_Int, Nat.zero_add, Nat.add_zero, Nat.le_refl, eq_self, ne_eq, reduceCtorEq, or_true, true_or, or_false, false_or, Bool.or_true, Bool.or_false, Bool.true_or, Bool.false_or, Nat.zero_le, Int.le_refl, Int.ofNat_zero, Int.ofNat_one, Bool.false_eq_true]
      cases hor : onRotF S s <;> (simp only [hor, cond_true, cond_false] at hK; by_cases hc0 : S.crk s = 0 <;> (simp only [hc0, if_true, if_false] at hK; simp only [hc0, not_false_eq_true, not_true_eq_false, true_imp_iff, false_imp_iff, true_and, and_true, if_true, if_false, eq_self, Bool.false_eq_true, eq_self]; simp only [ab_in] at hs ⊢; (repeat' (first | intro _ | refine And.intro ?_ ?_)) <;> (first | exact hK | contradiction | omega | (exfalso; omega))))
    · simp only [holdF, hth, cond_false] at hK
      simp only [c, hth, bI_in, bI_0, bI_1, bI_t, bI_f, bI_01, hP, Tr_X1_isThere, ae_aload_n, ae_baload, ae_getfield, ae_goto, ae_iadd, ae_iaload, ae_iconst, ae_idiv, ae_ifCond, ae_iload_n, ae_imul, ae_invokevirtual, ae_ireturn, ae_istore_n, dX1_holdOf_0, dX1_holdOf_1, dX1_holdOf_2, dX1_holdOf_5, dX1_holdOf_8, dX1_holdOf_9, dX1_holdOf_10, dX1_holdOf_11, dX1_holdOf_12, dX1_holdOf_15, dX1_holdOf_18, dX1_holdOf_19, dX1_holdOf_22, dX1_holdOf_23, dX1_holdOf_24, dX1_holdOf_25, dX1_holdOf_26, dX1_holdOf_29, dX1_holdOf_30, dX1_holdOf_31, dX1_holdOf_32, dX1_holdOf_33, dX1_holdOf_34, dX1_holdOf_35, dX1_holdOf_38, dX1_holdOf_39, dX1_holdOf_40, dX1_holdOf_41, dX1_holdOf_42, dX1_holdOf_45, dX1_holdOf_46, dX1_holdOf_47, dX1_holdOf_50, dX1_holdOf_51, dX1_holdOf_52, dX1_holdOf_53, dX1_holdOf_56, dX1_holdOf_57, tbX1_g27, tbX1_g30, ca_X1_holdOf_53, ca_X1_holdOf_79, ca_X1_holdOf_57, ab_wp0, ab_wps, ab_stp, ab_g, ab_st, ab_k2, ab_cl, ab_pop, ab_sz, ab_2, ab_ret, ab_f4, ab_tg, ab_I, ab_II, ab_A, ab_Rf, ab_VR, ab_IR, ab_VIR, ab_1, ab_LL, ab_DD, ab_ob, ab_pr, ab_qr, ab_ln, ab_so, ab_vI, ab_vA, ab_vD, ab_vL, ab_v2, ab_c, ab_fit, ab_rv, ab_tsw, ab_lsw, ab_up_eq, Fin.isValue, ab_f0, ab_f1, ab_f2, ab_f3, List.getElem?_cons_zero, List.getElem?_cons_succ, List.set_cons_zero, List.set_cons_succ, List.length_cons, List.length_nil, List.size_toArray, List.head?_cons, List.tail_cons, Option.map_some, cond_true, cond_false, true_and, and_true, false_and, and_false, not_true_eq_false, not_false_eq_true, true_imp_iff, false_imp_iff, if_true, if_false, ite_true, ite_false, ↓reduceIte, Nat.reduceAdd, Nat.reduceEqDiff, Nat.reduceLeDiff, Nat.reduceLT, Nat.reduceBEq, Nat.reduceBNe, Int.reduceAdd, Int.reduceNeg, Int.reduceSub, Int.reduceLE, Int.reduceLT, Int.reduceToNat, Int.reduceEq, Int.reduceMul, Int.cast_ofNat_Int, Nat.zero_add, Nat.add_zero, Nat.le_refl, eq_self, ne_eq, reduceCtorEq, or_true, true_or, or_false, false_or, Bool.or_true, Bool.or_false, Bool.true_or, Bool.false_or, Nat.zero_le, Int.le_refl, Int.ofNat_zero, Int.ofNat_one, Bool.false_eq_true]
      simp only [ab_in] at hs ⊢
      (repeat' (first | intro _ | refine And.intro ?_ ?_)) <;> (first | exact hK | contradiction | omega | (exfalso; omega))
  · exact hT.elim
set_option maxRecDepth 100000 in
theorem con_X1_holdOf (l : Launch) (D : va_G) (ty : Nat → ClassId) (base : Nat) : ab_Con l D vwCl ty lw_ts base lw_wd yX1_holdOf cX1_holdOf 4 (some .int) 2 47 0 0 Tr_X1_holdOf :=
  ab_con_of (own := RX1) (rt := 1) (tb := tbX1) (ini := false) (ca := ca_X1_holdOf) (by decide +kernel) rfl (fun h => by cases h) rfl lw_wd_ok wtbX1 lw_ar cm_X1_holdOf
    (fun p e R s m args below meth c K hcx => by
      obtain ⟨hx, hb, hml, hown, hF, rfl⟩ := hcx
      exact ab_lk_all (ab_all_c (ab_tc_V hx hb hml hown lw_wd_ok hF ⟨rfl, rfl⟩ (con_X1_isThere l D ty base) rfl (lw_wi (by decide +kernel) (by decide +kernel)) (lw_wi (by decide +kernel) (by decide +kernel)) (lw_wi (by decide +kernel) (by decide +kernel)) (lw_wi (by decide +kernel) (by decide +kernel)) (lw_wi (by decide +kernel) (by decide +kernel)) (by decide +kernel) ⟨by decide, by decide⟩) (ab_all_c (ab_tc_V hx hb hml hown lw_wd_ok hF ⟨rfl, rfl⟩ (con_X1_isOnRot l D ty base) rfl (lw_wi (by decide +kernel) (by decide +kernel)) (lw_wi (by decide +kernel) (by decide +kernel)) (lw_wi (by decide +kernel) (by decide +kernel)) (lw_wi (by decide +kernel) (by decide +kernel)) (lw_wi (by decide +kernel) (by decide +kernel)) (by decide +kernel) ⟨by decide, by decide⟩) (ab_all_c (ab_tc_V hx hb hml hown lw_wd_ok hF ⟨rfl, rfl⟩ (con_X1_uponIt l D ty base) rfl (lw_wi (by decide +kernel) (by decide +kernel)) (lw_wi (by decide +kernel) (by decide +kernel)) (lw_wi (by decide +kernel) (by decide +kernel)) (lw_wi (by decide +kernel) (by decide +kernel)) (lw_wi (by decide +kernel) (by decide +kernel)) (by decide +kernel) ⟨by decide, by decide⟩) (ab_all_n)))))
    (by intro as h K ht; unfold Tr_X1_holdOf at ht; split at ht <;> first | exact ht.elim | exact Nat.le_of_ble_eq_true rfl) (sem_X1_holdOf base)
noncomputable def Tr_X1_liftOf : ATr := fun as h K => match as with
  | [.inr (.inl (some a)), .inl s, .inl force, .inl right9] => ab_so (ab_roof h a) fun P => (ab_in s ∧ (0 ≤ force ∧ force ≤ 20) ∧ (right9 = 0 ∨ right9 = 1)) ∧ K (some (.inl (liftF P.2 s force right9))) h
  | _ => False
theorem mo_X1_liftOf : ab_mo Tr_X1_liftOf := by
  intro as h K K' hk ht
  unfold Tr_X1_liftOf at ht ⊢
  split at ht
  · exact ab_so_mo (fun P q => ⟨q.1, hk _ _ q.2⟩) ht
  · exact ht.elim
def ca_X1_liftOf : Nat → Option ACS := ab_lk [(65, (0, 1, 2, 0, 0, Tr_X1_isKnown)), (68, (0, 1, 3, 0, 0, Tr_X1_numberAt))]
theorem ca_X1_liftOf_65 : ca_X1_liftOf 65 = some (0, 1, 2, 0, 0, Tr_X1_isKnown) := rfl
theorem ca_X1_liftOf_68 : ca_X1_liftOf 68 = some (0, 1, 3, 0, 0, Tr_X1_numberAt) := rfl
theorem cm_X1_liftOf : ∀ i q, ca_X1_liftOf i = some q → ab_moq i q := ab_lk_all (ab_all_c mo_X1_isKnown (ab_all_c mo_X1_numberAt (ab_all_n)))
set_option maxRecDepth 100000 in
set_option maxHeartbeats 1000000 in
theorem sem_X1_liftOf (base : Nat) : ab_Sem tbX1 lw_ts base cX1_liftOf ca_X1_liftOf 1 6 0 0 (fun as => ab_en as 6) Tr_X1_liftOf := by
  intro as h K hT V hV
  unfold Tr_X1_liftOf at hT
  split at hT
  · rename_i a s force right9
    obtain ⟨⟨ns, S⟩, hP, hs, hK⟩ := ab_so_el hT
    obtain ⟨hB, n0, n1, n2, n3, n4, n5, n6, n7, n8, rfl, nd, c, c0, c1, c2, c3, c4, c5, c6, c7, c8⟩ := roof_el hP
    dsimp only at hK hs
    show V 0 [some (.inr (.inl (some a))), some (.inl s), some (.inl force), some (.inl right9), none, none] [] h 0 0
    have hf := hB.frm_r s
    have hr := hB.row_r s
    have hl := hB.laid_r
    refine hV (fun _ => false) 80 _ _ _ _ _ _ ?_
    by_cases hth : isKnownF S s = true
    · have hk := isKnownF_t hth
      simp only [liftF, hth, cond_true] at hK
      by_cases h0 : right9 = 0
      · simp only [h0, if_true] at hK
        have hn := numberAtF_r hB (S.frm s - 1) (S.row s)
        simp only [c, c2, c3, c4, hth, h0, bI_in, bI_0, bI_1, bI_t, bI_f, bI_01, hP, Tr_X1_isKnown, Tr_X1_numberAt, ae_aload_n, ae_getfield, ae_goto, ae_iadd, ae_iaload, ae_iconst, ae_ifCond, ae_if_icmp, ae_iload, ae_iload_n, ae_invokevirtual, ae_ireturn, ae_istore, ae_isub, dX1_liftOf_0, dX1_liftOf_1, dX1_liftOf_2, dX1_liftOf_5, dX1_liftOf_8, dX1_liftOf_9, dX1_liftOf_10, dX1_liftOf_11, dX1_liftOf_14, dX1_liftOf_15, dX1_liftOf_18, dX1_liftOf_19, dX1_liftOf_20, dX1_liftOf_21, dX1_liftOf_24, dX1_liftOf_25, dX1_liftOf_26, dX1_liftOf_27, dX1_liftOf_30, dX1_liftOf_31, dX1_liftOf_34, dX1_liftOf_35, dX1_liftOf_36, dX1_liftOf_37, dX1_liftOf_38, dX1_liftOf_40, dX1_liftOf_41, dX1_liftOf_43, dX1_liftOf_44, dX1_liftOf_47, dX1_liftOf_48, dX1_liftOf_49, dX1_liftOf_52, dX1_liftOf_53, dX1_liftOf_56, dX1_liftOf_57, dX1_liftOf_60, dX1_liftOf_61, dX1_liftOf_63, dX1_liftOf_64, dX1_liftOf_65, dX1_liftOf_68, dX1_liftOf_69, dX1_liftOf_70, dX1_liftOf_71, dX1_liftOf_73, dX1_liftOf_74, tbX1_g18, tbX1_g21, tbX1_g24, ca_X1_liftOf_65, ca_X1_liftOf_68, ab_wp0, ab_wps, ab_stp, ab_g, ab_st, ab_k2, ab_cl, ab_pop, ab_sz, ab_2, ab_ret, ab_f4, ab_tg, ab_I, ab_II, ab_A, ab_Rf, ab_VR, ab_IR, ab_VIR, ab_1, ab_LL, ab_DD, ab_ob, ab_pr, ab_qr, ab_ln, ab_so, ab_vI, ab_vA, ab_vD, ab_vL, ab_v2, ab_c, ab_fit, ab_rv, ab_tsw, ab_lsw, ab_up_eq, Fin.isValue, ab_f0, ab_f1, ab_f2, ab_f3, List.getElem?_cons_zero, List.getElem?_cons_succ, List.set_cons_zero, List.set_cons_succ, List.length_cons, List.length_nil, List.size_toArray, List.head?_cons, List.tail_cons, Option.map_some, cond_true, cond_false, true_and, and_true, false_and, and_false, not_true_eq_false, not_false_eq_true, true_imp_iff, false_imp_iff, if_true, if_false, ite_true, ite_false, ↓reduceIte, Nat.reduceAdd, Nat.reduceEqDiff, Nat.reduceLeDiff, Nat.reduceLT, Nat.reduceBEq, Nat.reduceBNe, Int.reduceAdd, Int.reduceNeg, Int.reduceSub, Int.reduceLE, Int.reduceLT, Int.reduceToNat, Int.reduceEq, Int.reduceMul, Int.cast_ofNat_Int, Nat.zero_add, Nat.add_zero, Nat.le_refl, eq_self, ne_eq, reduceCtorEq, or_true, true_or, or_false, false_or, Bool.or_true, Bool.or_false, Bool.true_or, Bool.false_or, Nat.zero_le, Int.le_refl, Int.ofNat_zero, Int.ofNat_one, Bool.false_eq_true]
        by_cases h1 : numberAtF S (S.frm s - 1) (S.row s) = -1 <;> (simp only [h1, if_true, if_false] at hK; simp only [h1, not_false_eq_true, not_true_eq_false, true_imp_iff, false_imp_iff, true_and, and_true, if_true, if_false, eq_self, Bool.true_eq_false]; simp only [ab_in] at hs ⊢; (repeat' (first | intro _ | refine And.intro ?_ ?_)) <;> (first | exact hK | contradiction | omega | (exfalso; omega)))
      · simp only [h0, if_false] at hK
        have hn := numberAtF_r hB (S.frm s + S.wid s) (S.row s)
        simp only [c, c2, c3, c4, hth, h0, bI_in, bI_0, bI_1, bI_t, bI_f, bI_01, hP, Tr_X1_isKnown, Tr_X1_numberAt, ae_aload_n, ae_getfield, ae_goto, ae_iadd, ae_iaload, ae_iconst, ae_ifCond, ae_if_icmp, ae_iload, ae_iload_n, ae_invokevirtual, ae_ireturn, ae_istore, ae_isub, dX1_liftOf_0, dX1_liftOf_1, dX1_liftOf_2, dX1_liftOf_5, dX1_liftOf_8, dX1_liftOf_9, dX1_liftOf_10, dX1_liftOf_11, dX1_liftOf_14, dX1_liftOf_15, dX1_liftOf_18, dX1_liftOf_19, dX1_liftOf_20, dX1_liftOf_21, dX1_liftOf_24, dX1_liftOf_25, dX1_liftOf_26, dX1_liftOf_27, dX1_liftOf_30, dX1_liftOf_31, dX1_liftOf_34, dX1_liftOf_35, dX1_liftOf_36, dX1_liftOf_37, dX1_liftOf_38, dX1_liftOf_40, dX1_liftOf_41, dX1_liftOf_43, dX1_liftOf_44, dX1_liftOf_47, dX1_liftOf_48, dX1_liftOf_49, dX1_liftOf_52, dX1_liftOf_53, dX1_liftOf_56, dX1_liftOf_57, dX1_liftOf_60, dX1_liftOf_61, dX1_liftOf_63, dX1_liftOf_64, dX1_liftOf_65, dX1_liftOf_68, dX1_liftOf_69, dX1_liftOf_70, dX1_liftOf_71, dX1_liftOf_73, dX1_liftOf_74, tbX1_g18, tbX1_g21, tbX1_g24, ca_X1_liftOf_65, ca_X1_liftOf_68, ab_wp0, ab_wps, ab_stp, ab_g, ab_st, ab_k2, ab_cl, ab_pop, ab_sz, ab_2, ab_ret, ab_f4, ab_tg, ab_I, ab_II, ab_A, ab_Rf, ab_VR, ab_IR, ab_VIR, ab_1, ab_LL, ab_DD, ab_ob, ab_pr, ab_qr, ab_ln, ab_so, ab_vI, ab_vA, ab_vD, ab_vL, ab_v2, ab_c, ab_fit, ab_rv, ab_tsw, ab_lsw, ab_up_eq, Fin.isValue, ab_f0, ab_f1, ab_f2, ab_f3, List.getElem?_cons_zero, List.getElem?_cons_succ, List.set_cons_zero, List.set_cons_succ, List.length_cons, List.length_nil, List.size_toArray, List.head?_cons, List.tail_cons, Option.map_some, cond_true, cond_false, true_and, and_true, false_and, and_false, not_true_eq_false, not_false_eq_true, true_imp_iff, false_imp_iff, if_true, if_false, ite_true, ite_false, ↓reduceIte, Nat.reduceAdd, Nat.reduceEqDiff, Nat.reduceLeDiff, Nat.reduceLT, Nat.reduceBEq, Nat.reduceBNe, Int.reduceAdd, Int.reduceNeg, Int.reduceSub, Int.reduceLE, Int.reduceLT, Int.reduceToNat, Int.reduceEq, Int.reduceMul, Int.cast_ofNat_Int, Nat.zero_add, Nat.add_zero, Nat.le_refl, eq_self, ne_eq, reduceCtorEq, or_true, true_or, or_false, false_or, Bool.or_true, Bool.or_false, Bool.true_or, Bool.false_or, Nat.zero_le, Int.le_refl, Int.ofNat_zero, Int.ofNat_one, Bool.false_eq_true]
        by_cases h1 : numberAtF S (S.frm s + S.wid s) (S.row s) = -1 <;> (simp only [h1, if_true, if_false] at hK; simp only [h1, not_false_eq_true, not_true_eq_false, true_imp_iff, false_imp_iff, true_and, and_true, if_true, if_false, eq_self, Bool.true_eq_false]; simp only [ab_in] at hs ⊢; (repeat' (first | intro _ | refine And.intro ?_ ?_)) <;> (first | exact hK | contradiction | omega | (exfalso; omega)))
    · simp only [liftF, hth, cond_false] at hK
      simp only [c, hth, bI_in, bI_0, bI_1, bI_t, bI_f, bI_01, hP, Tr_X1_isKnown, ae_aload_n, ae_getfield, ae_goto, ae_iadd, ae_iaload, ae_iconst, ae_ifCond, ae_if_icmp, ae_iload, ae_iload_n, ae_invokevirtual, ae_ireturn, ae_istore, ae_isub, dX1_liftOf_0, dX1_liftOf_1, dX1_liftOf_2, dX1_liftOf_5, dX1_liftOf_8, dX1_liftOf_9, dX1_liftOf_10, dX1_liftOf_11, dX1_liftOf_14, dX1_liftOf_15, dX1_liftOf_18, dX1_liftOf_19, dX1_liftOf_20, dX1_liftOf_21, dX1_liftOf_24, dX1_liftOf_25, dX1_liftOf_26, dX1_liftOf_27, dX1_liftOf_30, dX1_liftOf_31, dX1_liftOf_34, dX1_liftOf_35, dX1_liftOf_36, dX1_liftOf_37, dX1_liftOf_38, dX1_liftOf_40, dX1_liftOf_41, dX1_liftOf_43, dX1_liftOf_44, dX1_liftOf_47, dX1_liftOf_48, dX1_liftOf_49, dX1_liftOf_52, dX1_liftOf_53, dX1_liftOf_56, dX1_liftOf_57, dX1_liftOf_60, dX1_liftOf_61, dX1_liftOf_63, dX1_liftOf_64, dX1_liftOf_65, dX1_liftOf_68, dX1_liftOf_69, dX1_liftOf_70, dX1_liftOf_71, dX1_liftOf_73, dX1_liftOf_74, tbX1_g18, tbX1_g21, tbX1_g24, ca_X1_liftOf_65, ca_X1_liftOf_68, ab_wp0, ab_wps, ab_stp, ab_g, ab_st, ab_k2, ab_cl, ab_pop, ab_sz, ab_2, ab_ret, ab_f4, ab_tg, ab_I, ab_II, ab_A, ab_Rf, ab_VR, ab_IR, ab_VIR, ab_1, ab_LL, ab_DD, ab_ob, ab_pr, ab_qr, ab_ln, ab_so, ab_vI, ab_vA, ab_vD, ab_vL, ab_v2, ab_c, ab_fit, ab_rv, ab_tsw, ab_lsw, ab_up_eq, Fin.isValue, ab_f0, ab_f1, ab_f2, ab_f3, List.getElem?_cons_zero, List.getElem?_cons_succ, List.set_cons_zero, List.set_cons_succ, List.length_cons, List.length_nil, List.size_toArray, List.head?_cons, List.tail_cons, Option.map_some, cond_true, cond_false, true_and, and_true, false_and, and_false, not_true_eq_false, not_false_eq_true, true_imp_iff, false_imp_iff, if_true, if_false, ite_true, ite_false, ↓reduceIte, Nat.reduceAdd, Nat.reduceEqDiff, Nat.reduceLeDiff, Nat.reduceLT, Nat.reduceBEq, Nat.reduceBNe, Int.reduceAdd, Int.reduceNeg, Int.reduceSub, Int.reduceLE, Int.reduceLT, Int.reduceToNat, Int.reduceEq, Int.reduceMul, Int.cast_ofNat_Int, Nat.zero_add, Nat.add_zero, Nat.le_refl, eq_self, ne_eq, reduceCtorEq, or_true, true_or, or_false, false_or, Bool.or_true, Bool.or_false, Bool.true_or, Bool.false_or, Nat.zero_le, Int.le_refl, Int.ofNat_zero, Int.ofNat_one, Bool.false_eq_true]
      simp only [ab_in] at hs ⊢
      (repeat' (first | intro _ | refine And.intro ?_ ?_)) <;> (first | exact hK | contradiction | omega | (exfalso; omega))
  · exact hT.elim
set_option maxRecDepth 100000 in
theorem con_X1_liftOf (l : Launch) (D : va_G) (ty : Nat → ClassId) (base : Nat) : ab_Con l D vwCl ty lw_ts base lw_wd yX1_liftOf cX1_liftOf 6 (some .int) 1 22 0 0 Tr_X1_liftOf :=
  ab_con_of (own := RX1) (rt := 1) (tb := tbX1) (ini := false) (ca := ca_X1_liftOf) (by decide +kernel) rfl (fun h => by cases h) rfl lw_wd_ok wtbX1 lw_ar cm_X1_liftOf
    (fun p e R s m args below meth c K hcx => by
      obtain ⟨hx, hb, hml, hown, hF, rfl⟩ := hcx
      exact ab_lk_all (ab_all_c (ab_tc_V hx hb hml hown lw_wd_ok hF ⟨rfl, rfl⟩ (con_X1_isKnown l D ty base) rfl (lw_wi (by decide +kernel) (by decide +kernel)) (lw_wi (by decide +kernel) (by decide +kernel)) (lw_wi (by decide +kernel) (by decide +kernel)) (lw_wi (by decide +kernel) (by decide +kernel)) (lw_wi (by decide +kernel) (by decide +kernel)) (by decide +kernel) ⟨by decide, by decide⟩) (ab_all_c (ab_tc_V hx hb hml hown lw_wd_ok hF ⟨rfl, rfl⟩ (con_X1_numberAt l D ty base) rfl (lw_wi (by decide +kernel) (by decide +kernel)) (lw_wi (by decide +kernel) (by decide +kernel)) (lw_wi (by decide +kernel) (by decide +kernel)) (lw_wi (by decide +kernel) (by decide +kernel)) (lw_wi (by decide +kernel) (by decide +kernel)) (by decide +kernel) ⟨by decide, by decide⟩) (ab_all_n))))
    (by intro as h K ht; unfold Tr_X1_liftOf at ht; split at ht <;> first | exact ht.elim | exact Nat.le_of_ble_eq_true rfl) (sem_X1_liftOf base)
noncomputable def Tr_X1_isFree : ATr := fun as h K => match as with
  | [.inr (.inl (some a)), .inl row, .inl from9, .inl wide] => ab_so (ab_roof h a) fun P => ((0 ≤ row ∧ row ≤ 7) ∧ (0 ≤ from9 ∧ from9 ≤ 12) ∧ (0 ≤ wide ∧ wide ≤ 4)) ∧ K (some (.inl (bI (isFreeF P.2 row from9 wide)))) h
  | _ => False
theorem mo_X1_isFree : ab_mo Tr_X1_isFree := by
  intro as h K K' hk ht
  unfold Tr_X1_isFree at ht ⊢
  split at ht
  · exact ab_so_mo (fun P q => ⟨q.1, hk _ _ q.2⟩) ht
  · exact ht.elim
def ca_X1_isFree : Nat → Option ACS := ab_lk [(68, (0, 1, 3, 0, 0, Tr_X1_numberAt))]
theorem ca_X1_isFree_68 : ca_X1_isFree 68 = some (0, 1, 3, 0, 0, Tr_X1_numberAt) := rfl
theorem cm_X1_isFree : ∀ i q, ca_X1_isFree i = some q → ab_moq i q := ab_lk_all (ab_all_c mo_X1_numberAt (ab_all_n))
set_option maxRecDepth 100000 in
set_option maxHeartbeats 1000000 in
theorem sem_X1_isFree (base : Nat) : ab_Sem tbX1 lw_ts base cX1_isFree ca_X1_isFree 2 5 0 0 (fun as => ab_en as 5) Tr_X1_isFree := by
  intro as h K hT V hV
  unfold Tr_X1_isFree at hT
  split at hT
  · rename_i a row from9 wide
    obtain ⟨⟨ns, S⟩, hP, hs, hK⟩ := ab_so_el hT
    obtain ⟨hB, n0, n1, n2, n3, n4, n5, n6, n7, n8, rfl, nd, c, c0, c1, c2, c3, c4, c5, c6, c7, c8⟩ := roof_el hP
    dsimp only at hK hs
    show V 0 [some (.inr (.inl (some a))), some (.inl row), some (.inl from9), some (.inl wide), none] [] h 0 0
    simp only [isFreeF] at hK
    have loop : ∀ (n : Nat) (x : Int), x + n = from9 + wide → 0 ≤ x → K (some (.inl (bI (allR (fun x => decide (numberAtF S x row = -1) && decide (numberAtF S x (row + 1) = -1)) n x)))) h → V 3 [some (.inr (.inl (some a))), some (.inl row), some (.inl from9), some (.inl wide), some (.inl x)] [] h 0 0 := by
      intro n
      induction n with
      | zero =>
        intro x hx h0 hk2
        refine hV (fun p => p == 3) 80 _ _ _ _ _ _ ?_
        have he : from9 + wide ≤ x := by omega
        simp only [c, he, bI_in, bI_0, bI_1, bI_t, bI_f, bI_01, hP, ae_aload_n, ae_goto, ae_iadd, ae_iconst, ae_if_icmp, ae_iinc, ae_iload, ae_iload_n, ae_invokevirtual, ae_ireturn, ae_istore, dX1_isFree_0, dX1_isFree_1, dX1_isFree_3, dX1_isFree_5, dX1_isFree_6, dX1_isFree_7, dX1_isFree_8, dX1_isFree_11, dX1_isFree_12, dX1_isFree_14, dX1_isFree_15, dX1_isFree_18, dX1_isFree_19, dX1_isFree_22, dX1_isFree_23, dX1_isFree_25, dX1_isFree_26, dX1_isFree_27, dX1_isFree_28, dX1_isFree_31, dX1_isFree_32, dX1_isFree_35, dX1_isFree_36, dX1_isFree_37, dX1_isFree_40, dX1_isFree_43, dX1_isFree_44, ca_X1_isFree_68, ab_wp0, ab_wps, ab_stp, ab_g, ab_st, ab_k2, ab_cl, ab_pop, ab_sz, ab_2, ab_ret, ab_f4, ab_tg, ab_I, ab_II, ab_A, ab_Rf, ab_VR, ab_IR, ab_VIR, ab_1, ab_LL, ab_DD, ab_ob, ab_pr, ab_qr, ab_ln, ab_so, ab_vI, ab_vA, ab_vD, ab_vL, ab_v2, ab_c, ab_fit, ab_rv, ab_tsw, ab_lsw, ab_up_eq, Fin.isValue, ab_f0, ab_f1, ab_f2, ab_f3, List.getElem?_cons_zero, List.getElem?_cons_succ, List.set_cons_zero, List.set_cons_succ, List.length_cons, List.length_nil, List.size_toArray, List.head?_cons, List.tail_cons, Option.map_some, cond_true, cond_false, true_and, and_true, false_and, and_false, not_true_eq_false, not_false_eq_true, true_imp_iff, false_imp_iff, if_true, if_false, ite_true, ite_false, ↓reduceIte, Nat.reduceAdd, Nat.reduceEqDiff, Nat.reduceLeDiff, Nat.reduceLT, Nat.reduceBEq, Nat.reduceBNe, Int.reduceAdd, Int.reduceNeg, Int.reduceSub, Int.reduceLE, Int.reduceLT, Int.reduceToNat, Int.reduceEq, Int.reduceMul, Int.cast_ofNat_Int, Nat.zero_add, Nat.add_zero, Nat.le_refl, eq_self, ne_eq, reduceCtorEq, or_true, true_or, or_false, false_or, Bool.or_true, Bool.or_false, Bool.true_or, Bool.false_or, Nat.zero_le, Int.le_refl, Int.ofNat_zero, Int.ofNat_one, Bool.false_eq_true]
        simp only [ab_in, allR, bI_t] at hs hk2 ⊢
        (repeat' (first | intro _ | refine And.intro ?_ ?_)) <;> (first | exact hk2 | contradiction | omega | (exfalso; omega))
      | succ n ih =>
        intro x hx h0 hk2
        refine hV (fun p => p == 3) 80 _ _ _ _ _ _ ?_
        have he : ¬ from9 + wide ≤ x := by omega
        have hn := numberAtF_r hB x row
        have hn2 := numberAtF_r hB x (row + 1)
        have ih1 := ih (x + 1) (by omega) (by omega)
        simp only [allR] at hk2
        simp only [c, he, bI_in, bI_0, bI_1, bI_t, bI_f, bI_01, hP, Tr_X1_numberAt, ae_aload_n, ae_goto, ae_iadd, ae_iconst, ae_if_icmp, ae_iinc, ae_iload, ae_iload_n, ae_invokevirtual, ae_ireturn, ae_istore, dX1_isFree_0, dX1_isFree_1, dX1_isFree_3, dX1_isFree_5, dX1_isFree_6, dX1_isFree_7, dX1_isFree_8, dX1_isFree_11, dX1_isFree_12, dX1_isFree_14, dX1_isFree_15, dX1_isFree_18, dX1_isFree_19, dX1_isFree_22, dX1_isFree_23, dX1_isFree_25, dX1_isFree_26, dX1_isFree_27, dX1_isFree_28, dX1_isFree_31, dX1_isFree_32, dX1_isFree_35, dX1_isFree_36, dX1_isFree_37, dX1_isFree_40, dX1_isFree_43, dX1_isFree_44, ca_X1_isFree_68, ab_wp0, ab_wps, ab_stp, ab_g, ab_st, ab_k2, ab_cl, ab_pop, ab_sz, ab_2, ab_ret, ab_f4, ab_tg, ab_I, ab_II, ab_A, ab_Rf, ab_VR, ab_IR, ab_VIR, ab_1, ab_LL, ab_DD, ab_ob, ab_pr, ab_qr, ab_ln, ab_so, ab_vI, ab_vA, ab_vD, ab_vL, ab_v2, ab_c, ab_fit, ab_rv, ab_tsw, ab_lsw, ab_up_eq, Fin.isValue, ab_f0, ab_f1, ab_f2, ab_f3, List.getElem?_cons_zero, List.getElem?_cons_succ, List.set_cons_zero, List.set_cons_succ, List.length_cons, List.length_nil, List.size_toArray, List.head?_cons, List.tail_cons, Option.map_some, cond_true, cond_false, true_and, and_true, false_and, and_false, not_true_eq_false, not_false_eq_true, true_imp_iff, false_imp_iff, if_true, if_false, ite_true, ite_false, ↓reduceIte, Nat.reduceAdd, Nat.reduceEqDiff, Nat.reduceLeDiff, Nat.reduceLT, Nat.reduceBEq, Nat.reduceBNe, Int.reduceAdd, Int.reduceNeg, Int.reduceSub, Int.reduceLE, Int.reduceLT, Int.reduceToNat, Int.reduceEq, Int.reduceMul, Int.cast_ofNat_Int, Nat.zero_add, Nat.add_zero, Nat.le_refl, eq_self, ne_eq, reduceCtorEq, or_true, true_or, or_false, false_or, Bool.or_true, Bool.or_false, Bool.true_or, Bool.false_or, Nat.zero_le, Int.le_refl, Int.ofNat_zero, Int.ofNat_one, Bool.false_eq_true]
        by_cases h1 : numberAtF S x row = -1 <;> by_cases h2 : numberAtF S x (row + 1) = -1 <;> (simp only [h1, h2, decide_true, decide_false, Bool.and_self, Bool.true_and, Bool.and_true, Bool.and_false, Bool.false_and, bI_f, not_false_eq_true, not_true_eq_false, true_imp_iff, false_imp_iff, true_and, and_true, if_true, if_false, eq_self] at hk2 ⊢; simp only [ab_in] at hs ⊢; (repeat' (first | intro _ | refine And.intro ?_ ?_)) <;> (first | exact ih1 hk2 | exact hk2 | contradiction | omega | (exfalso; omega)))
    refine hV (fun p => p == 3) 80 _ _ _ _ _ _ ?_
    have l0 := loop wide.toNat from9 (by omega) (by omega) hK
    simp only [c, bI_in, bI_0, bI_1, bI_t, bI_f, bI_01, hP, ae_aload_n, ae_goto, ae_iadd, ae_iconst, ae_if_icmp, ae_iinc, ae_iload, ae_iload_n, ae_invokevirtual, ae_ireturn, ae_istore, dX1_isFree_0, dX1_isFree_1, dX1_isFree_3, dX1_isFree_5, dX1_isFree_6, dX1_isFree_7, dX1_isFree_8, dX1_isFree_11, dX1_isFree_12, dX1_isFree_14, dX1_isFree_15, dX1_isFree_18, dX1_isFree_19, dX1_isFree_22, dX1_isFree_23, dX1_isFree_25, dX1_isFree_26, dX1_isFree_27, dX1_isFree_28, dX1_isFree_31, dX1_isFree_32, dX1_isFree_35, dX1_isFree_36, dX1_isFree_37, dX1_isFree_40, dX1_isFree_43, dX1_isFree_44, ca_X1_isFree_68, ab_wp0, ab_wps, ab_stp, ab_g, ab_st, ab_k2, ab_cl, ab_pop, ab_sz, ab_2, ab_ret, ab_f4, ab_tg, ab_I, ab_II, ab_A, ab_Rf, ab_VR, ab_IR, ab_VIR, ab_1, ab_LL, ab_DD, ab_ob, ab_pr, ab_qr, ab_ln, ab_so, ab_vI, ab_vA, ab_vD, ab_vL, ab_v2, ab_c, ab_fit, ab_rv, ab_tsw, ab_lsw, ab_up_eq, Fin.isValue, ab_f0, ab_f1, ab_f2, ab_f3, List.getElem?_cons_zero, List.getElem?_cons_succ, List.set_cons_zero, List.set_cons_succ, List.length_cons, List.length_nil, List.size_toArray, List.head?_cons, List.tail_cons, Option.map_some, cond_true, cond_false, true_and, and_true, false_and, and_false, not_true_eq_false, not_false_eq_true, true_imp_iff, false_imp_iff, if_true, if_false, ite_true, ite_false, ↓reduceIte, Nat.reduceAdd, Nat.reduceEqDiff, Nat.reduceLeDiff, Nat.reduceLT, Nat.reduceBEq, Nat.reduceBNe, Int.reduceAdd, Int.reduceNeg, Int.reduceSub, Int.reduceLE, Int.reduceLT, Int.reduceToNat, Int.reduceEq, Int.reduceMul, Int.cast_ofNat_Int, Nat.zero_add, Nat.add_zero, Nat.le_refl, eq_self, ne_eq, reduceCtorEq, or_true, true_or, or_false, false_or, Bool.or_true, Bool.or_false, Bool.true_or, Bool.false_or, Nat.zero_le, Int.le_refl, Int.ofNat_zero, Int.ofNat_one, Bool.false_eq_true]
    exact l0
  · exact hT.elim
set_option maxRecDepth 100000 in
theorem con_X1_isFree (l : Launch) (D : va_G) (ty : Nat → ClassId) (base : Nat) : ab_Con l D vwCl ty lw_ts base lw_wd yX1_isFree cX1_isFree 5 (some .boolean) 1 22 0 0 Tr_X1_isFree :=
  ab_con_of (own := RX1) (rt := 2) (tb := tbX1) (ini := false) (ca := ca_X1_isFree) (by decide +kernel) rfl (fun h => by cases h) rfl lw_wd_ok wtbX1 lw_ar cm_X1_isFree
    (fun p e R s m args below meth c K hcx => by
      obtain ⟨hx, hb, hml, hown, hF, rfl⟩ := hcx
      exact ab_lk_all (ab_all_c (ab_tc_V hx hb hml hown lw_wd_ok hF ⟨rfl, rfl⟩ (con_X1_numberAt l D ty base) rfl (lw_wi (by decide +kernel) (by decide +kernel)) (lw_wi (by decide +kernel) (by decide +kernel)) (lw_wi (by decide +kernel) (by decide +kernel)) (lw_wi (by decide +kernel) (by decide +kernel)) (lw_wi (by decide +kernel) (by decide +kernel)) (by decide +kernel) ⟨by decide, by decide⟩) (ab_all_n)))
    (by intro as h K ht; unfold Tr_X1_isFree at ht; split at ht <;> first | exact ht.elim | exact Nat.le_of_ble_eq_true rfl) (sem_X1_isFree base)
noncomputable def Tr_X1_isWholeAt : ATr := fun as h K => match as with
  | [.inr (.inl (some a)), .inl x, .inl y] => ab_so (ab_roof h a) fun P => (ab_in x ∧ ab_in y) ∧ K (some (.inl (bI (wholeF P.2 x y)))) h
  | _ => False
theorem mo_X1_isWholeAt : ab_mo Tr_X1_isWholeAt := by
  intro as h K K' hk ht
  unfold Tr_X1_isWholeAt at ht ⊢
  split at ht
  · exact ab_so_mo (fun P q => ⟨q.1, hk _ _ q.2⟩) ht
  · exact ht.elim
def ca_X1_isWholeAt : Nat → Option ACS := ab_lk [(68, (0, 1, 3, 0, 0, Tr_X1_numberAt)), (65, (0, 1, 2, 0, 0, Tr_X1_isKnown))]
theorem ca_X1_isWholeAt_68 : ca_X1_isWholeAt 68 = some (0, 1, 3, 0, 0, Tr_X1_numberAt) := rfl
theorem ca_X1_isWholeAt_65 : ca_X1_isWholeAt 65 = some (0, 1, 2, 0, 0, Tr_X1_isKnown) := rfl
theorem cm_X1_isWholeAt : ∀ i q, ca_X1_isWholeAt i = some q → ab_moq i q := ab_lk_all (ab_all_c mo_X1_numberAt (ab_all_c mo_X1_isKnown (ab_all_n)))
set_option maxRecDepth 100000 in
set_option maxHeartbeats 1000000 in
theorem sem_X1_isWholeAt (base : Nat) : ab_Sem tbX1 lw_ts base cX1_isWholeAt ca_X1_isWholeAt 2 4 0 0 (fun as => ab_en as 4) Tr_X1_isWholeAt := by
  intro as h K hT V hV
  unfold Tr_X1_isWholeAt at hT
  split at hT
  · rename_i a x y
    obtain ⟨⟨ns, S⟩, hP, hs, hK⟩ := ab_so_el hT
    obtain ⟨hB, n0, n1, n2, n3, n4, n5, n6, n7, n8, rfl, nd, c, c0, c1, c2, c3, c4, c5, c6, c7, c8⟩ := roof_el hP
    dsimp only at hK hs
    show V 0 [some (.inr (.inl (some a))), some (.inl x), some (.inl y), none] [] h 0 0
    have hn := numberAtF_r hB x y
    have hcr := hB.crk_r (numberAtF S x y)
    have hl := hB.laid_r
    refine hV (fun _ => false) 80 _ _ _ _ _ _ ?_
    simp only [wholeF] at hK
    by_cases hth : isKnownF S (numberAtF S x y) = true
    · have hk := isKnownF_t hth
      simp only [c, c6, hth, bI_in, bI_0, bI_1, bI_t, bI_f, bI_01, hP, Tr_X1_isKnown, Tr_X1_numberAt, ae_aload_n, ae_baload, ae_getfield, ae_goto, ae_iconst, ae_ifCond, ae_iload_n, ae_invokevirtual, ae_ireturn, ae_istore_n, dX1_isWholeAt_0, dX1_isWholeAt_1, dX1_isWholeAt_2, dX1_isWholeAt_3, dX1_isWholeAt_6, dX1_isWholeAt_7, dX1_isWholeAt_8, dX1_isWholeAt_9, dX1_isWholeAt_12, dX1_isWholeAt_15, dX1_isWholeAt_16, dX1_isWholeAt_19, dX1_isWholeAt_20, dX1_isWholeAt_21, dX1_isWholeAt_24, dX1_isWholeAt_25, dX1_isWholeAt_28, dX1_isWholeAt_29, tbX1_g30, ca_X1_isWholeAt_68, ca_X1_isWholeAt_65, ab_wp0, ab_wps, ab_stp, ab_g, ab_st, ab_k2, ab_cl, ab_pop, ab_sz, ab_2, ab_ret, ab_f4, ab_tg, ab_I, ab_II, ab_A, ab_Rf, ab_VR, ab_IR, ab_VIR, ab_1, ab_LL, ab_DD, ab_ob, ab_pr, ab_qr, ab_ln, ab_so, ab_vI, ab_vA, ab_vD, ab_vL, ab_v2, ab_c, ab_fit, ab_rv, ab_tsw, ab_lsw, ab_up_eq, Fin.isValue, ab_f0, ab_f1, ab_f2, ab_f3, List.getElem?_cons_zero, List.getElem?_cons_succ, List.set_cons_zero, List.set_cons_succ, List.length_cons, List.length_nil, List.size_toArray, List.head?_cons, List.tail_cons, Option.map_some, cond_true, cond_false, true_and, and_true, false_and, and_false, not_true_eq_false, not_false_eq_true, true_imp_iff, false_imp_iff, if_true, if_false, ite_true, ite_false, ↓reduceIte, Nat.reduceAdd, Nat.reduceEqDiff, Nat.reduceLeDiff, Nat.reduceLT, Nat.reduceBEq, Nat.reduceBNe, Int.reduceAdd, Int.reduceNeg, Int.reduceSub, Int.reduceLE, Int.reduceLT, Int.reduceToNat, Int.reduceEq, Int.reduceMul, Int.cast_ofNat_Int, Nat.zero_add, Nat.add_zero, Nat.le_refl, eq_self, ne_eq, reduceCtorEq, or_true, true_or, or_false, false_or, Bool.or_true, Bool.or_false, Bool.true_or, Bool.false_or, Nat.zero_le, Int.le_refl, Int.ofNat_zero, Int.ofNat_one, Bool.false_eq_true]
      by_cases h1 : S.crk (numberAtF S x y) = 0 <;> (simp only [hth, h1, decide_true, decide_false, Bool.and_true, Bool.and_false, bI_t, bI_f] at hK; simp only [h1, not_false_eq_true, not_true_eq_false, true_imp_iff, false_imp_iff, true_and, and_true, if_true, if_false, eq_self, Bool.true_eq_false]; simp only [ab_in] at hs ⊢; (repeat' (first | intro _ | refine And.intro ?_ ?_)) <;> (first | exact hK | contradiction | omega | (exfalso; omega)))
    · simp only [hth, Bool.false_and, bI_f] at hK
      simp only [c, hth, bI_in, bI_0, bI_1, bI_t, bI_f, bI_01, hP, Tr_X1_isKnown, Tr_X1_numberAt, ae_aload_n, ae_baload, ae_getfield, ae_goto, ae_iconst, ae_ifCond, ae_iload_n, ae_invokevirtual, ae_ireturn, ae_istore_n, dX1_isWholeAt_0, dX1_isWholeAt_1, dX1_isWholeAt_2, dX1_isWholeAt_3, dX1_isWholeAt_6, dX1_isWholeAt_7, dX1_isWholeAt_8, dX1_isWholeAt_9, dX1_isWholeAt_12, dX1_isWholeAt_15, dX1_isWholeAt_16, dX1_isWholeAt_19, dX1_isWholeAt_20, dX1_isWholeAt_21, dX1_isWholeAt_24, dX1_isWholeAt_25, dX1_isWholeAt_28, dX1_isWholeAt_29, tbX1_g30, ca_X1_isWholeAt_68, ca_X1_isWholeAt_65, ab_wp0, ab_wps, ab_stp, ab_g, ab_st, ab_k2, ab_cl, ab_pop, ab_sz, ab_2, ab_ret, ab_f4, ab_tg, ab_I, ab_II, ab_A, ab_Rf, ab_VR, ab_IR, ab_VIR, ab_1, ab_LL, ab_DD, ab_ob, ab_pr, ab_qr, ab_ln, ab_so, ab_vI, ab_vA, ab_vD, ab_vL, ab_v2, ab_c, ab_fit, ab_rv, ab_tsw, ab_lsw, ab_up_eq, Fin.isValue, ab_f0, ab_f1, ab_f2, ab_f3, List.getElem?_cons_zero, List.getElem?_cons_succ, List.set_cons_zero, List.set_cons_succ, List.length_cons, List.length_nil, List.size_toArray, List.head?_cons, List.tail_cons, Option.map_some, cond_true, cond_false, true_and, and_true, false_and, and_false, not_true_eq_false, not_false_eq_true, true_imp_iff, false_imp_iff, if_true, if_false, ite_true, ite_false, ↓reduceIte, Nat.reduceAdd, Nat.reduceEqDiff, Nat.reduceLeDiff, Nat.reduceLT, Nat.reduceBEq, Nat.reduceBNe, Int.reduceAdd, Int.reduceNeg, Int.reduceSub, Int.reduceLE, Int.reduceLT, Int.reduceToNat, Int.reduceEq, Int.reduceMul, Int.cast_ofNat_Int, Nat.zero_add, Nat.add_zero, Nat.le_refl, eq_self, ne_eq, reduceCtorEq, or_true, true_or, or_false, false_or, Bool.or_true, Bool.or_false, Bool.true_or, Bool.false_or, Nat.zero_le, Int.le_refl, Int.ofNat_zero, Int.ofNat_one, Bool.false_eq_true]
      simp only [ab_in] at hs ⊢
      (repeat' (first | intro _ | refine And.intro ?_ ?_)) <;> (first | exact hK | contradiction | omega | (exfalso; omega))
  · exact hT.elim
set_option maxRecDepth 100000 in
theorem con_X1_isWholeAt (l : Launch) (D : va_G) (ty : Nat → ClassId) (base : Nat) : ab_Con l D vwCl ty lw_ts base lw_wd yX1_isWholeAt cX1_isWholeAt 4 (some .boolean) 1 22 0 0 Tr_X1_isWholeAt :=
  ab_con_of (own := RX1) (rt := 2) (tb := tbX1) (ini := false) (ca := ca_X1_isWholeAt) (by decide +kernel) rfl (fun h => by cases h) rfl lw_wd_ok wtbX1 lw_ar cm_X1_isWholeAt
    (fun p e R s m args below meth c K hcx => by
      obtain ⟨hx, hb, hml, hown, hF, rfl⟩ := hcx
      exact ab_lk_all (ab_all_c (ab_tc_V hx hb hml hown lw_wd_ok hF ⟨rfl, rfl⟩ (con_X1_numberAt l D ty base) rfl (lw_wi (by decide +kernel) (by decide +kernel)) (lw_wi (by decide +kernel) (by decide +kernel)) (lw_wi (by decide +kernel) (by decide +kernel)) (lw_wi (by decide +kernel) (by decide +kernel)) (lw_wi (by decide +kernel) (by decide +kernel)) (by decide +kernel) ⟨by decide, by decide⟩) (ab_all_c (ab_tc_V hx hb hml hown lw_wd_ok hF ⟨rfl, rfl⟩ (con_X1_isKnown l D ty base) rfl (lw_wi (by decide +kernel) (by decide +kernel)) (lw_wi (by decide +kernel) (by decide +kernel)) (lw_wi (by decide +kernel) (by decide +kernel)) (lw_wi (by decide +kernel) (by decide +kernel)) (lw_wi (by decide +kernel) (by decide +kernel)) (by decide +kernel) ⟨by decide, by decide⟩) (ab_all_n))))
    (by intro as h K ht; unfold Tr_X1_isWholeAt at ht; split at ht <;> first | exact ht.elim | exact Nat.le_of_ble_eq_true rfl) (sem_X1_isWholeAt base)
noncomputable def Tr_X1_isCovered : ATr := fun as h K => match as with
  | [.inr (.inl (some a)), .inl x, .inl y] => ab_so (ab_roof h a) fun P => (ab_in x ∧ (-1 ≤ y ∧ y ≤ 100)) ∧ K (some (.inl (bI (coveredF P.2 x y)))) h
  | _ => False
theorem mo_X1_isCovered : ab_mo Tr_X1_isCovered := by
  intro as h K K' hk ht
  unfold Tr_X1_isCovered at ht ⊢
  split at ht
  · exact ab_so_mo (fun P q => ⟨q.1, hk _ _ q.2⟩) ht
  · exact ht.elim
def ca_X1_isCovered : Nat → Option ACS := ab_lk [(119, (0, 1, 3, 0, 0, Tr_X1_isWholeAt))]
theorem ca_X1_isCovered_119 : ca_X1_isCovered 119 = some (0, 1, 3, 0, 0, Tr_X1_isWholeAt) := rfl
theorem cm_X1_isCovered : ∀ i q, ca_X1_isCovered i = some q → ab_moq i q := ab_lk_all (ab_all_c mo_X1_isWholeAt (ab_all_n))
set_option maxRecDepth 100000 in
set_option maxHeartbeats 1000000 in
theorem sem_X1_isCovered (base : Nat) : ab_Sem tbX1 lw_ts base cX1_isCovered ca_X1_isCovered 2 3 0 0 (fun as => ab_en as 3) Tr_X1_isCovered := by
  intro as h K hT V hV
  unfold Tr_X1_isCovered at hT
  split at hT
  · rename_i a x y
    obtain ⟨⟨ns, S⟩, hP, hs, hK⟩ := ab_so_el hT
    obtain ⟨hB, n0, n1, n2, n3, n4, n5, n6, n7, n8, rfl, nd, c, c0, c1, c2, c3, c4, c5, c6, c7, c8⟩ := roof_el hP
    dsimp only at hK hs
    show V 0 [some (.inr (.inl (some a))), some (.inl x), some (.inl y)] [] h 0 0
    refine hV (fun _ => false) 80 _ _ _ _ _ _ ?_
    simp only [coveredF] at hK
    simp only [c, bI_in, bI_0, bI_1, bI_t, bI_f, bI_01, hP, Tr_X1_isWholeAt, ae_aload_n, ae_goto, ae_iadd, ae_iconst, ae_ifCond, ae_iload_n, ae_invokevirtual, ae_ireturn, dX1_isCovered_0, dX1_isCovered_1, dX1_isCovered_2, dX1_isCovered_3, dX1_isCovered_6, dX1_isCovered_9, dX1_isCovered_10, dX1_isCovered_11, dX1_isCovered_12, dX1_isCovered_13, dX1_isCovered_14, dX1_isCovered_17, dX1_isCovered_20, dX1_isCovered_21, dX1_isCovered_24, dX1_isCovered_25, ca_X1_isCovered_119, ab_wp0, ab_wps, ab_stp, ab_g, ab_st, ab_k2, ab_cl, ab_pop, ab_sz, ab_2, ab_ret, ab_f4, ab_tg, ab_I, ab_II, ab_A, ab_Rf, ab_VR, ab_IR, ab_VIR, ab_1, ab_LL, ab_DD, ab_ob, ab_pr, ab_qr, ab_ln, ab_so, ab_vI, ab_vA, ab_vD, ab_vL, ab_v2, ab_c, ab_fit, ab_rv, ab_tsw, ab_lsw, ab_up_eq, Fin.isValue, ab_f0, ab_f1, ab_f2, ab_f3, List.getElem?_cons_zero, List.getElem?_cons_succ, List.set_cons_zero, List.set_cons_succ, List.length_cons, List.length_nil, List.size_toArray, List.head?_cons, List.tail_cons, Option.map_some, cond_true, cond_false, true_and, and_true, false_and, and_false, not_true_eq_false, not_false_eq_true, true_imp_iff, false_imp_iff, if_true, if_false, ite_true, ite_false, ↓reduceIte, Nat.reduceAdd, Nat.reduceEqDiff, Nat.reduceLeDiff, Nat.reduceLT, Nat.reduceBEq, Nat.reduceBNe, Int.reduceAdd, Int.reduceNeg, Int.reduceSub, Int.reduceLE, Int.reduceLT, Int.reduceToNat, Int.reduceEq, Int.reduceMul, Int.cast_ofNat_Int, Nat.zero_add, Nat.add_zero, Nat.le_refl, eq_self, ne_eq, reduceCtorEq, or_true, true_or, or_false, false_or, Bool.or_true, Bool.or_false, Bool.true_or, Bool.false_or, Nat.zero_le, Int.le_refl, Int.ofNat_zero, Int.ofNat_one, Bool.false_eq_true]
    cases h1 : wholeF S x y <;> cases h2 : wholeF S x (y + 1) <;> (simp only [h1, h2, Bool.or_self, Bool.true_or, Bool.or_true, Bool.false_or, bI_t, bI_f] at hK; simp only [not_false_eq_true, not_true_eq_false, true_imp_iff, false_imp_iff, true_and, and_true, if_true, if_false, eq_self, Bool.true_eq_false]; simp only [ab_in] at hs ⊢; (repeat' (first | intro _ | refine And.intro ?_ ?_)) <;> (first | exact hK | contradiction | omega | (exfalso; omega)))
  · exact hT.elim
set_option maxRecDepth 100000 in
theorem con_X1_isCovered (l : Launch) (D : va_G) (ty : Nat → ClassId) (base : Nat) : ab_Con l D vwCl ty lw_ts base lw_wd yX1_isCovered cX1_isCovered 3 (some .boolean) 2 45 0 0 Tr_X1_isCovered :=
  ab_con_of (own := RX1) (rt := 2) (tb := tbX1) (ini := false) (ca := ca_X1_isCovered) (by decide +kernel) rfl (fun h => by cases h) rfl lw_wd_ok wtbX1 lw_ar cm_X1_isCovered
    (fun p e R s m args below meth c K hcx => by
      obtain ⟨hx, hb, hml, hown, hF, rfl⟩ := hcx
      exact ab_lk_all (ab_all_c (ab_tc_V hx hb hml hown lw_wd_ok hF ⟨rfl, rfl⟩ (con_X1_isWholeAt l D ty base) rfl (lw_wi (by decide +kernel) (by decide +kernel)) (lw_wi (by decide +kernel) (by decide +kernel)) (lw_wi (by decide +kernel) (by decide +kernel)) (lw_wi (by decide +kernel) (by decide +kernel)) (lw_wi (by decide +kernel) (by decide +kernel)) (by decide +kernel) ⟨by decide, by decide⟩) (ab_all_n)))
    (by intro as h K ht; unfold Tr_X1_isCovered at ht; split at ht <;> first | exact ht.elim | exact Nat.le_of_ble_eq_true rfl) (sem_X1_isCovered base)
noncomputable def Tr_X1_coveredPlaces : ATr := fun as h K => match as with
  | [.inr (.inl (some a))] => ab_so (ab_roof h a) fun P => (True) ∧ K (some (.inl (covPlF P.2))) h
  | _ => False
theorem mo_X1_coveredPlaces : ab_mo Tr_X1_coveredPlaces := by
  intro as h K K' hk ht
  unfold Tr_X1_coveredPlaces at ht ⊢
  split at ht
  · exact ab_so_mo (fun P q => ⟨q.1, hk _ _ q.2⟩) ht
  · exact ht.elim
def ca_X1_coveredPlaces : Nat → Option ACS := ab_lk [(122, (0, 1, 3, 0, 0, Tr_X1_isCovered))]
theorem ca_X1_coveredPlaces_122 : ca_X1_coveredPlaces 122 = some (0, 1, 3, 0, 0, Tr_X1_isCovered) := rfl
theorem cm_X1_coveredPlaces : ∀ i q, ca_X1_coveredPlaces i = some q → ab_moq i q := ab_lk_all (ab_all_c mo_X1_isCovered (ab_all_n))
set_option maxRecDepth 100000 in
set_option maxHeartbeats 1000000 in
theorem sem_X1_coveredPlaces (base : Nat) : ab_Sem tbX1 lw_ts base cX1_coveredPlaces ca_X1_coveredPlaces 1 4 0 0 (fun as => ab_en as 4) Tr_X1_coveredPlaces := by
  intro as h K hT V hV
  unfold Tr_X1_coveredPlaces at hT
  split at hT
  · rename_i a
    obtain ⟨⟨ns, S⟩, hP, hs, hK⟩ := ab_so_el hT
    obtain ⟨hB, n0, n1, n2, n3, n4, n5, n6, n7, n8, rfl, nd, c, c0, c1, c2, c3, c4, c5, c6, c7, c8⟩ := roof_el hP
    dsimp only at hK hs
    show V 0 [some (.inr (.inl (some a))), none, none, none] [] h 0 0
    simp only [covPlF] at hK
    have inner : ∀ (y acc : Int), 0 ≤ y → y < 8 → ∀ (n : Nat) (x acc : Int), x + n = 12 → 0 ≤ x → V 36 [some (.inr (.inl (some a))), some (.inl (acc + sumR (fun x => bI (coveredF S x y)) n x)), some (.inl y), some (.inl 12)] [] h 0 0 → V 12 [some (.inr (.inl (some a))), some (.inl acc), some (.inl y), some (.inl x)] [] h 0 0 := by
      intro y acc hy0 hy n
      induction n with
      | zero =>
        intro x acc hx h0 hk2
        refine hV (fun p => bif p == 12 then true else p == 36) 80 _ _ _ _ _ _ ?_
        have he : x = 12 := by omega
        simp only [sumR, Int.add_zero] at hk2
        simp only [c, he, bI_in, bI_0, bI_1, bI_t, bI_f, bI_01, hP, ae_aload_n, ae_bipush, ae_goto, ae_iconst, ae_ifCond, ae_if_icmp, ae_iinc, ae_iload_n, ae_invokevirtual, ae_ireturn, ae_istore_n, dX1_coveredPlaces_0, dX1_coveredPlaces_1, dX1_coveredPlaces_2, dX1_coveredPlaces_3, dX1_coveredPlaces_4, dX1_coveredPlaces_5, dX1_coveredPlaces_7, dX1_coveredPlaces_10, dX1_coveredPlaces_11, dX1_coveredPlaces_12, dX1_coveredPlaces_13, dX1_coveredPlaces_15, dX1_coveredPlaces_18, dX1_coveredPlaces_19, dX1_coveredPlaces_20, dX1_coveredPlaces_21, dX1_coveredPlaces_24, dX1_coveredPlaces_27, dX1_coveredPlaces_30, dX1_coveredPlaces_33, dX1_coveredPlaces_36, dX1_coveredPlaces_39, dX1_coveredPlaces_42, dX1_coveredPlaces_43, ca_X1_coveredPlaces_122, ab_wp0, ab_wps, ab_stp, ab_g, ab_st, ab_k2, ab_cl, ab_pop, ab_sz, ab_2, ab_ret, ab_f4, ab_tg, ab_I, ab_II, ab_A, ab_Rf, ab_VR, ab_IR, ab_VIR, ab_1, ab_LL, ab_DD, ab_ob, ab_pr, ab_qr, ab_ln, ab_so, ab_vI, ab_vA, ab_vD, ab_vL, ab_v2, ab_c, ab_fit, ab_rv, ab_tsw, ab_lsw, ab_up_eq, Fin.isValue, ab_f0, ab_f1, ab_f2, ab_f3, List.getElem?_cons_zero, List.getElem?_cons_succ, List.set_cons_zero, List.set_cons_succ, List.length_cons, List.length_nil, List.size_toArray, List.head?_cons, List.tail_cons, Option.map_some, cond_true, cond_false, true_and, and_true, false_and, and_false, not_true_eq_false, not_false_eq_true, true_imp_iff, false_imp_iff, if_true, if_false, ite_true, ite_false, ↓reduceIte, Nat.reduceAdd, Nat.reduceEqDiff, Nat.reduceLeDiff, Nat.reduceLT, Nat.reduceBEq, Nat.reduceBNe, Int.reduceAdd, Int.reduceNeg, Int.reduceSub, Int.reduceLE, Int.reduceLT, Int.reduceToNat, Int.reduceEq, Int.reduceMul, Int.cast_ofNat_Int, Nat.zero_add, Nat.add_zero, Nat.le_refl, eq_self, ne_eq, reduceCtorEq, or_true, true_or, or_false, false_or, Bool.or_true, Bool.or_false, Bool.true_or, Bool.false_or, Nat.zero_le, Int.le_refl, Int.ofNat_zero, Int.ofNat_one, Bool.false_eq_true]
        simp only [ab_in]
        (repeat' (first | intro _ | refine And.intro ?_ ?_)) <;> (first | exact hk2 | contradiction | omega | (exfalso; omega))
      | succ n ih =>
        intro x acc hx h0 hk2
        refine hV (fun p => bif p == 12 then true else p == 36) 80 _ _ _ _ _ _ ?_
        have he : ¬ 12 ≤ x := by omega
        simp only [sumR, ← Int.add_assoc] at hk2
        simp only [c, he, bI_in, bI_0, bI_1, bI_t, bI_f, bI_01, hP, Tr_X1_isCovered, ae_aload_n, ae_bipush, ae_goto, ae_iconst, ae_ifCond, ae_if_icmp, ae_iinc, ae_iload_n, ae_invokevirtual, ae_ireturn, ae_istore_n, dX1_coveredPlaces_0, dX1_coveredPlaces_1, dX1_coveredPlaces_2, dX1_coveredPlaces_3, dX1_coveredPlaces_4, dX1_coveredPlaces_5, dX1_coveredPlaces_7, dX1_coveredPlaces_10, dX1_coveredPlaces_11, dX1_coveredPlaces_12, dX1_coveredPlaces_13, dX1_coveredPlaces_15, dX1_coveredPlaces_18, dX1_coveredPlaces_19, dX1_coveredPlaces_20, dX1_coveredPlaces_21, dX1_coveredPlaces_24, dX1_coveredPlaces_27, dX1_coveredPlaces_30, dX1_coveredPlaces_33, dX1_coveredPlaces_36, dX1_coveredPlaces_39, dX1_coveredPlaces_42, dX1_coveredPlaces_43, ca_X1_coveredPlaces_122, ab_wp0, ab_wps, ab_stp, ab_g, ab_st, ab_k2, ab_cl, ab_pop, ab_sz, ab_2, ab_ret, ab_f4, ab_tg, ab_I, ab_II, ab_A, ab_Rf, ab_VR, ab_IR, ab_VIR, ab_1, ab_LL, ab_DD, ab_ob, ab_pr, ab_qr, ab_ln, ab_so, ab_vI, ab_vA, ab_vD, ab_vL, ab_v2, ab_c, ab_fit, ab_rv, ab_tsw, ab_lsw, ab_up_eq, Fin.isValue, ab_f0, ab_f1, ab_f2, ab_f3, List.getElem?_cons_zero, List.getElem?_cons_succ, List.set_cons_zero, List.set_cons_succ, List.length_cons, List.length_nil, List.size_toArray, List.head?_cons, List.tail_cons, Option.map_some, cond_true, cond_false, true_and, and_true, false_and, and_false, not_true_eq_false, not_false_eq_true, true_imp_iff, false_imp_iff, if_true, if_false, ite_true, ite_false, ↓reduceIte, Nat.reduceAdd, Nat.reduceEqDiff, Nat.reduceLeDiff, Nat.reduceLT, Nat.reduceBEq, Nat.reduceBNe, Int.reduceAdd, Int.reduceNeg, Int.reduceSub, Int.reduceLE, Int.reduceLT, Int.reduceToNat, Int.reduceEq, Int.reduceMul, Int.cast_ofNat_Int, Nat.zero_add, Nat.add_zero, Nat.le_refl, eq_self, ne_eq, reduceCtorEq, or_true, true_or, or_false, false_or, Bool.or_true, Bool.or_false, Bool.true_or, Bool.false_or, Nat.zero_le, Int.le_refl, Int.ofNat_zero, Int.ofNat_one, Bool.false_eq_true]
        cases h1 : coveredF S x y
        · have ih1 := ih (x + 1) acc (by omega) (by omega)
          simp only [h1, bI_f, Int.add_zero] at hk2
          simp only [not_false_eq_true, not_true_eq_false, true_imp_iff, false_imp_iff, true_and, and_true, if_true, if_false, eq_self, Bool.true_eq_false]
          simp only [ab_in]
          (repeat' (first | intro _ | refine And.intro ?_ ?_)) <;> (first | exact ih1 hk2 | exact hk2 | contradiction | omega | (exfalso; omega))
        · have ih1 := ih (x + 1) (acc + 1) (by omega) (by omega)
          simp only [h1, bI_t] at hk2
          simp only [not_false_eq_true, not_true_eq_false, true_imp_iff, false_imp_iff, true_and, and_true, if_true, if_false, eq_self, Bool.true_eq_false]
          simp only [ab_in]
          (repeat' (first | intro _ | refine And.intro ?_ ?_)) <;> (first | exact ih1 hk2 | exact hk2 | contradiction | omega | (exfalso; omega))
    have outer : ∀ (n : Nat) (y acc : Int) (w : Option AV), y + n = 8 → 0 ≤ y → K (some (.inl (acc + sumR (fun y => sumR (fun x => bI (coveredF S x y)) 12 0) n y))) h → V 4 [some (.inr (.inl (some a))), some (.inl acc), some (.inl y), w] [] h 0 0 := by
      intro n
      induction n with
      | zero =>
        intro y acc w hy h0 hk2
        refine hV (fun p => bif p == 4 then true else bif p == 12 then true else p == 36) 80 _ _ _ _ _ _ ?_
        have he : y = 8 := by omega
        simp only [sumR, Int.add_zero] at hk2
        simp only [c, he, bI_in, bI_0, bI_1, bI_t, bI_f, bI_01, hP, ae_aload_n, ae_bipush, ae_goto, ae_iconst, ae_ifCond, ae_if_icmp, ae_iinc, ae_iload_n, ae_invokevirtual, ae_ireturn, ae_istore_n, dX1_coveredPlaces_0, dX1_coveredPlaces_1, dX1_coveredPlaces_2, dX1_coveredPlaces_3, dX1_coveredPlaces_4, dX1_coveredPlaces_5, dX1_coveredPlaces_7, dX1_coveredPlaces_10, dX1_coveredPlaces_11, dX1_coveredPlaces_12, dX1_coveredPlaces_13, dX1_coveredPlaces_15, dX1_coveredPlaces_18, dX1_coveredPlaces_19, dX1_coveredPlaces_20, dX1_coveredPlaces_21, dX1_coveredPlaces_24, dX1_coveredPlaces_27, dX1_coveredPlaces_30, dX1_coveredPlaces_33, dX1_coveredPlaces_36, dX1_coveredPlaces_39, dX1_coveredPlaces_42, dX1_coveredPlaces_43, ca_X1_coveredPlaces_122, ab_wp0, ab_wps, ab_stp, ab_g, ab_st, ab_k2, ab_cl, ab_pop, ab_sz, ab_2, ab_ret, ab_f4, ab_tg, ab_I, ab_II, ab_A, ab_Rf, ab_VR, ab_IR, ab_VIR, ab_1, ab_LL, ab_DD, ab_ob, ab_pr, ab_qr, ab_ln, ab_so, ab_vI, ab_vA, ab_vD, ab_vL, ab_v2, ab_c, ab_fit, ab_rv, ab_tsw, ab_lsw, ab_up_eq, Fin.isValue, ab_f0, ab_f1, ab_f2, ab_f3, List.getElem?_cons_zero, List.getElem?_cons_succ, List.set_cons_zero, List.set_cons_succ, List.length_cons, List.length_nil, List.size_toArray, List.head?_cons, List.tail_cons, Option.map_some, cond_true, cond_false, true_and, and_true, false_and, and_false, not_true_eq_false, not_false_eq_true, true_imp_iff, false_imp_iff, if_true, if_false, ite_true, ite_false, ↓reduceIte, Nat.reduceAdd, Nat.reduceEqDiff, Nat.reduceLeDiff, Nat.reduceLT, Nat.reduceBEq, Nat.reduceBNe, Int.reduceAdd, Int.reduceNeg, Int.reduceSub, Int.reduceLE, Int.reduceLT, Int.reduceToNat, Int.reduceEq, Int.reduceMul, Int.cast_ofNat_Int, Nat.zero_add, Nat.add_zero, Nat.le_refl, eq_self, ne_eq, reduceCtorEq, or_true, true_or, or_false, false_or, Bool.or_true, Bool.or_false, Bool.true_or, Bool.false_or, Nat.zero_le, Int.le_refl, Int.ofNat_zero, Int.ofNat_one, Bool.false_eq_true]
        simp only [ab_in]
        (repeat' (first | intro _ | refine And.intro ?_ ?_)) <;> (first | exact hk2 | contradiction | omega | (exfalso; omega))
      | succ n ih =>
        intro y acc w hy h0 hk2
        refine hV (fun p => bif p == 4 then true else bif p == 12 then true else p == 36) 80 _ _ _ _ _ _ ?_
        have he : ¬ 8 ≤ y := by omega
        have ih1 := ih (y + 1) (acc + sumR (fun x => bI (coveredF S x y)) 12 0) (some (.inl 12)) (by omega) (by omega) (by rw [Int.add_assoc]; exact hk2)
        have i1 := inner y acc h0 (by omega) 12 0 acc (by omega) (by omega) (by
          refine hV (fun p => bif p == 4 then true else p == 12) 80 _ _ _ _ _ _ ?_
          simp only [c, bI_in, bI_0, bI_1, bI_t, bI_f, bI_01, hP, ae_aload_n, ae_bipush, ae_goto, ae_iconst, ae_ifCond, ae_if_icmp, ae_iinc, ae_iload_n, ae_invokevirtual, ae_ireturn, ae_istore_n, dX1_coveredPlaces_0, dX1_coveredPlaces_1, dX1_coveredPlaces_2, dX1_coveredPlaces_3, dX1_coveredPlaces_4, dX1_coveredPlaces_5, dX1_coveredPlaces_7, dX1_coveredPlaces_10, dX1_coveredPlaces_11, dX1_coveredPlaces_12, dX1_coveredPlaces_13, dX1_coveredPlaces_15, dX1_coveredPlaces_18, dX1_coveredPlaces_19, dX1_coveredPlaces_20, dX1_coveredPlaces_21, dX1_coveredPlaces_24, dX1_coveredPlaces_27, dX1_coveredPlaces_30, dX1_coveredPlaces_33, dX1_coveredPlaces_36, dX1_coveredPlaces_39, dX1_coveredPlaces_42, dX1_coveredPlaces_43, ca_X1_coveredPlaces_122, ab_wp0, ab_wps, ab_stp, ab_g, ab_st, ab_k2, ab_cl, ab_pop, ab_sz, ab_2, ab_ret, ab_f4, ab_tg, ab_I, ab_II, ab_A, ab_Rf, ab_VR, ab_IR, ab_VIR, ab_1, ab_LL, ab_DD, ab_ob, ab_pr, ab_qr, ab_ln, ab_so, ab_vI, ab_vA, ab_vD, ab_vL, ab_v2, ab_c, ab_fit, ab_rv, ab_tsw, ab_lsw, ab_up_eq, Fin.isValue, ab_f0, ab_f1, ab_f2, ab_f3, List.getElem?_cons_zero, List.getElem?_cons_succ, List.set_cons_zero, List.set_cons_succ, List.length_cons, List.length_nil, List.size_toArray, List.head?_cons, List.tail_cons, Option.map_some, cond_true, cond_false, true_and, and_true, false_and, and_false, not_true_eq_false, not_false_eq_true, true_imp_iff, false_imp_iff, if_true, if_false, ite_true, ite_false, ↓reduceIte, Nat.reduceAdd, Nat.reduceEqDiff, Nat.reduceLeDiff, Nat.reduceLT, Nat.reduceBEq, Nat.reduceBNe, Int.reduceAdd, Int.reduceNeg, Int.reduceSub, Int.reduceLE, Int.reduceLT, Int.reduceToNat, Int.reduceEq, Int.reduceMul, Int.cast_ofNat_Int, Nat.zero_add, Nat.add_zero, Nat.le_refl, eq_self, ne_eq, reduceCtorEq, or_true, true_or, or_false, false_or, Bool.or_true, Bool.or_false, Bool.true_or, Bool.false_or, Nat.zero_le, Int.le_refl, Int.ofNat_zero, Int.ofNat_one, Bool.false_eq_true]
          exact ih1)
        simp only [c, he, bI_in, bI_0, bI_1, bI_t, bI_f, bI_01, hP, ae_aload_n, ae_bipush, ae_goto, ae_iconst, ae_ifCond, ae_if_icmp, ae_iinc, ae_iload_n, ae_invokevirtual, ae_ireturn, ae_istore_n, dX1_coveredPlaces_0, dX1_coveredPlaces_1, dX1_coveredPlaces_2, dX1_coveredPlaces_3, dX1_coveredPlaces_4, dX1_coveredPlaces_5, dX1_coveredPlaces_7, dX1_coveredPlaces_10, dX1_coveredPlaces_11, dX1_coveredPlaces_12, dX1_coveredPlaces_13, dX1_coveredPlaces_15, dX1_coveredPlaces_18, dX1_coveredPlaces_19, dX1_coveredPlaces_20, dX1_coveredPlaces_21, dX1_coveredPlaces_24, dX1_coveredPlaces_27, dX1_coveredPlaces_30, dX1_coveredPlaces_33, dX1_coveredPlaces_36, dX1_coveredPlaces_39, dX1_coveredPlaces_42, dX1_coveredPlaces_43, ca_X1_coveredPlaces_122, ab_wp0, ab_wps, ab_stp, ab_g, ab_st, ab_k2, ab_cl, ab_pop, ab_sz, ab_2, ab_ret, ab_f4, ab_tg, ab_I, ab_II, ab_A, ab_Rf, ab_VR, ab_IR, ab_VIR, ab_1, ab_LL, ab_DD, ab_ob, ab_pr, ab_qr, ab_ln, ab_so, ab_vI, ab_vA, ab_vD, ab_vL, ab_v2, ab_c, ab_fit, ab_rv, ab_tsw, ab_lsw, ab_up_eq, Fin.isValue, ab_f0, ab_f1, ab_f2, ab_f3, List.getElem?_cons_zero, List.getElem?_cons_succ, List.set_cons_zero, List.set_cons_succ, List.length_cons, List.length_nil, List.size_toArray, List.head?_cons, List.tail_cons, Option.map_some, cond_true, cond_false, true_and, and_true, false_and, and_false, not_true_eq_false, not_false_eq_true, true_imp_iff, false_imp_iff, if_true, if_false, ite_true, ite_false, ↓reduceIte, Nat.reduceAdd, Nat.reduceEqDiff, Nat.reduceLeDiff, Nat.reduceLT, Nat.reduceBEq, Nat.reduceBNe, Int.reduceAdd, Int.reduceNeg, Int.reduceSub, Int.reduceLE, Int.reduceLT, Int.reduceToNat, Int.reduceEq, Int.reduceMul, Int.cast_ofNat_Int, Nat.zero_add, Nat.add_zero, Nat.le_refl, eq_self, ne_eq, reduceCtorEq, or_true, true_or, or_false, false_or, Bool.or_true, Bool.or_false, Bool.true_or, Bool.false_or, Nat.zero_le, Int.le_refl, Int.ofNat_zero, Int.ofNat_one, Bool.false_eq_true]
        simp only [ab_in]
        (repeat' (first | intro _ | refine And.intro ?_ ?_)) <;> (first | exact i1 | contradiction | omega | (exfalso; omega))
    refine hV (fun p => p == 4) 80 _ _ _ _ _ _ ?_
    have l0 := outer 8 0 0 none (by omega) (by omega) (by rw [Int.zero_add]; exact hK)
    simp only [c, bI_in, bI_0, bI_1, bI_t, bI_f, bI_01, hP, ae_aload_n, ae_bipush, ae_goto, ae_iconst, ae_ifCond, ae_if_icmp, ae_iinc, ae_iload_n, ae_invokevirtual, ae_ireturn, ae_istore_n, dX1_coveredPlaces_0, dX1_coveredPlaces_1, dX1_coveredPlaces_2, dX1_coveredPlaces_3, dX1_coveredPlaces_4, dX1_coveredPlaces_5, dX1_coveredPlaces_7, dX1_coveredPlaces_10, dX1_coveredPlaces_11, dX1_coveredPlaces_12, dX1_coveredPlaces_13, dX1_coveredPlaces_15, dX1_coveredPlaces_18, dX1_coveredPlaces_19, dX1_coveredPlaces_20, dX1_coveredPlaces_21, dX1_coveredPlaces_24, dX1_coveredPlaces_27, dX1_coveredPlaces_30, dX1_coveredPlaces_33, dX1_coveredPlaces_36, dX1_coveredPlaces_39, dX1_coveredPlaces_42, dX1_coveredPlaces_43, ca_X1_coveredPlaces_122, ab_wp0, ab_wps, ab_stp, ab_g, ab_st, ab_k2, ab_cl, ab_pop, ab_sz, ab_2, ab_ret, ab_f4, ab_tg, ab_I, ab_II, ab_A, ab_Rf, ab_VR, ab_IR, ab_VIR, ab_1, ab_LL, ab_DD, ab_ob, ab_pr, ab_qr, ab_ln, ab_so, ab_vI, ab_vA, ab_vD, ab_vL, ab_v2, ab_c, ab_fit, ab_rv, ab_tsw, ab_lsw, ab_up_eq, Fin.isValue, ab_f0, ab_f1, ab_f2, ab_f3, List.getElem?_cons_zero, List.getElem?_cons_succ, List.set_cons_zero, List.set_cons_succ, List.length_cons, List.length_nil, List.size_toArray, List.head?_cons, List.tail_cons, Option.map_some, cond_true, cond_false, true_and, and_true, false_and, and_false, not_true_eq_false, not_false_eq_true, true_imp_iff, false_imp_iff, if_true, if_false, ite_true, ite_false, ↓reduceIte, Nat.reduceAdd, Nat.reduceEqDiff, Nat.reduceLeDiff, Nat.reduceLT, Nat.reduceBEq, Nat.reduceBNe, Int.reduceAdd, Int.reduceNeg, Int.reduceSub, Int.reduceLE, Int.reduceLT, Int.reduceToNat, Int.reduceEq, Int.reduceMul, Int.cast_ofNat_Int, Nat.zero_add, Nat.add_zero, Nat.le_refl, eq_self, ne_eq, reduceCtorEq, or_true, true_or, or_false, false_or, Bool.or_true, Bool.or_false, Bool.true_or, Bool.false_or, Nat.zero_le, Int.le_refl, Int.ofNat_zero, Int.ofNat_one, Bool.false_eq_true]
    exact l0
  · exact hT.elim
set_option maxRecDepth 100000 in
theorem con_X1_coveredPlaces (l : Launch) (D : va_G) (ty : Nat → ClassId) (base : Nat) : ab_Con l D vwCl ty lw_ts base lw_wd yX1_coveredPlaces cX1_coveredPlaces 4 (some .int) 3 67 0 0 Tr_X1_coveredPlaces :=
  ab_con_of (own := RX1) (rt := 1) (tb := tbX1) (ini := false) (ca := ca_X1_coveredPlaces) (by decide +kernel) rfl (fun h => by cases h) rfl lw_wd_ok wtbX1 lw_ar cm_X1_coveredPlaces
    (fun p e R s m args below meth c K hcx => by
      obtain ⟨hx, hb, hml, hown, hF, rfl⟩ := hcx
      exact ab_lk_all (ab_all_c (ab_tc_V hx hb hml hown lw_wd_ok hF ⟨rfl, rfl⟩ (con_X1_isCovered l D ty base) rfl (lw_wi (by decide +kernel) (by decide +kernel)) (lw_wi (by decide +kernel) (by decide +kernel)) (lw_wi (by decide +kernel) (by decide +kernel)) (lw_wi (by decide +kernel) (by decide +kernel)) (lw_wi (by decide +kernel) (by decide +kernel)) (by decide +kernel) ⟨by decide, by decide⟩) (ab_all_n)))
    (by intro as h K ht; unfold Tr_X1_coveredPlaces at ht; split at ht <;> first | exact ht.elim | exact Nat.le_of_ble_eq_true rfl) (sem_X1_coveredPlaces base)
noncomputable def Tr_X1_crackedThere : ATr := fun as h K => match as with
  | [.inr (.inl (some a))] => ab_so (ab_roof h a) fun P => (True) ∧ K (some (.inl (crkThF P.2))) h
  | _ => False
theorem mo_X1_crackedThere : ab_mo Tr_X1_crackedThere := by
  intro as h K K' hk ht
  unfold Tr_X1_crackedThere at ht ⊢
  split at ht
  · exact ab_so_mo (fun P q => ⟨q.1, hk _ _ q.2⟩) ht
  · exact ht.elim
def ca_X1_crackedThere : Nat → Option ACS := ab_lk []
theorem cm_X1_crackedThere : ∀ i q, ca_X1_crackedThere i = some q → ab_moq i q := ab_lk_all (ab_all_n)
set_option maxRecDepth 100000 in
set_option maxHeartbeats 1000000 in
theorem sem_X1_crackedThere (base : Nat) : ab_Sem tbX1 lw_ts base cX1_crackedThere ca_X1_crackedThere 1 3 0 0 (fun as => ab_en as 3) Tr_X1_crackedThere := by
  intro as h K hT V hV
  unfold Tr_X1_crackedThere at hT
  split at hT
  · rename_i a
    obtain ⟨⟨ns, S⟩, hP, hs, hK⟩ := ab_so_el hT
    obtain ⟨hB, n0, n1, n2, n3, n4, n5, n6, n7, n8, rfl, nd, c, c0, c1, c2, c3, c4, c5, c6, c7, c8⟩ := roof_el hP
    dsimp only at hK hs
    show V 0 [some (.inr (.inl (some a))), none, none] [] h 0 0
    simp only [crkThF] at hK
    have hl := hB.laid_r
    have loop : ∀ (n : Nat) (x acc : Int), x + n = S.laid → 0 ≤ x → K (some (.inl (acc + sumR (fun s => bI (decide (S.onr s = 1) && decide (S.crk s = 1))) n x))) h → V 4 [some (.inr (.inl (some a))), some (.inl acc), some (.inl x)] [] h 0 0 := by
      intro n
      induction n with
      | zero =>
        intro x acc hx h0 hk2
        refine hV (fun p => p == 4) 80 _ _ _ _ _ _ ?_
        have he : S.laid ≤ x := by omega
        simp only [sumR, Int.add_zero] at hk2
        simp only [c, he, bI_in, bI_0, bI_1, bI_t, bI_f, bI_01, hP, ae_aload_n, ae_baload, ae_getfield, ae_goto, ae_iconst, ae_ifCond, ae_if_icmp, ae_iinc, ae_iload_n, ae_ireturn, ae_istore_n, ae_sipush, dX1_crackedThere_0, dX1_crackedThere_1, dX1_crackedThere_2, dX1_crackedThere_3, dX1_crackedThere_4, dX1_crackedThere_5, dX1_crackedThere_6, dX1_crackedThere_9, dX1_crackedThere_12, dX1_crackedThere_13, dX1_crackedThere_16, dX1_crackedThere_19, dX1_crackedThere_20, dX1_crackedThere_23, dX1_crackedThere_24, dX1_crackedThere_25, dX1_crackedThere_28, dX1_crackedThere_29, dX1_crackedThere_32, dX1_crackedThere_33, dX1_crackedThere_34, dX1_crackedThere_37, dX1_crackedThere_40, dX1_crackedThere_43, dX1_crackedThere_46, dX1_crackedThere_47, tbX1_g30, tbX1_g34, tbX1_g44, ab_wp0, ab_wps, ab_stp, ab_g, ab_st, ab_k2, ab_cl, ab_pop, ab_sz, ab_2, ab_ret, ab_f4, ab_tg, ab_I, ab_II, ab_A, ab_Rf, ab_VR, ab_IR, ab_VIR, ab_1, ab_LL, ab_DD, ab_ob, ab_pr, ab_qr, ab_ln, ab_so, ab_vI, ab_vA, ab_vD, ab_vL, ab_v2, ab_c, ab_fit, ab_rv, ab_tsw, ab_lsw, ab_up_eq, Fin.isValue, ab_f0, ab_f1, ab_f2, ab_f3, List.getElem?_cons_zero, List.getElem?_cons_succ, List.set_cons_zero, List.set_cons_succ, List.length_cons, List.length_nil, List.size_toArray, List.head?_cons, List.tail_cons, Option.map_some, cond_true, cond_false, true_and, and_true, false_and, and_false, not_true_eq_false, not_false_eq_true, true_imp_iff, false_imp_iff, if_true, if_false, ite_true, ite_false, ↓reduceIte, Nat.reduceAdd, Nat.reduceEqDiff, Nat.reduceLeDiff, Nat.reduceLT, Nat.reduceBEq, Nat.reduceBNe, Int.reduceAdd, Int.reduceNeg, Int.reduceSub, Int.reduceLE, Int.reduceLT, Int.reduceToNat, Int.reduceEq, Int.reduceMul, Int.cast_ofNat_Int, Nat.zero_add, Nat.add_zero, Nat.le_refl, eq_self, ne_eq, reduceCtorEq, or_true, true_or, or_false, false_or, Bool.or_true, Bool.or_false, Bool.true_or, Bool.false_or, Nat.zero_le, Int.le_refl, Int.ofNat_zero, Int.ofNat_one, Bool.false_eq_true]
        simp only [ab_in]
        (repeat' (first | intro _ | refine And.intro ?_ ?_)) <;> (first | exact hk2 | contradiction | omega | (exfalso; omega))
      | succ n ih =>
        intro x acc hx h0 hk2
        refine hV (fun p => p == 4) 80 _ _ _ _ _ _ ?_
        have he : ¬ S.laid ≤ x := by omega
        have he2 : ¬ 200 ≤ x := by omega
        have ho := hB.onr_r x
        have hcr := hB.crk_r x
        simp only [sumR, ← Int.add_assoc] at hk2
        have ih1 := ih (x + 1) acc (by omega) (by omega)
        have ih2 := ih (x + 1) (acc + 1) (by omega) (by omega)
        simp only [c, c6, c7, he, he2, bI_in, bI_0, bI_1, bI_t, bI_f, bI_01, hP, ae_aload_n, ae_baload, ae_getfield, ae_goto, ae_iconst, ae_ifCond, ae_if_icmp, ae_iinc, ae_iload_n, ae_ireturn, ae_istore_n, ae_sipush, dX1_crackedThere_0, dX1_crackedThere_1, dX1_crackedThere_2, dX1_crackedThere_3, dX1_crackedThere_4, dX1_crackedThere_5, dX1_crackedThere_6, dX1_crackedThere_9, dX1_crackedThere_12, dX1_crackedThere_13, dX1_crackedThere_16, dX1_crackedThere_19, dX1_crackedThere_20, dX1_crackedThere_23, dX1_crackedThere_24, dX1_crackedThere_25, dX1_crackedThere_28, dX1_crackedThere_29, dX1_crackedThere_32, dX1_crackedThere_33, dX1_crackedThere_34, dX1_crackedThere_37, dX1_crackedThere_40, dX1_crackedThere_43, dX1_crackedThere_46, dX1_crackedThere_47, tbX1_g30, tbX1_g34, tbX1_g44, ab_wp0, ab_wps, ab_stp, ab_g, ab_st, ab_k2, ab_cl, ab_pop, ab_sz, ab_2, ab_ret, ab_f4, ab_tg, ab_I, ab_II, ab_A, ab_Rf, ab_VR, ab_IR, ab_VIR, ab_1, ab_LL, ab_DD, ab_ob, ab_pr, ab_qr, ab_ln, ab_so, ab_vI, ab_vA, ab_vD, ab_vL, ab_v2, ab_c, ab_fit, ab_rv, ab_tsw, ab_lsw, ab_up_eq, Fin.isValue, ab_f0, ab_f1, ab_f2, ab_f3, List.getElem?_cons_zero, List.getElem?_cons_succ, List.set_cons_zero, List.set_cons_succ, List.length_cons, List.length_nil, List.size_toArray, List.head?_cons, List.tail_cons, Option.map_some, cond_true, cond_false, true_and, and_true, false_and, and_false, not_true_eq_false, not_false_eq_true, true_imp_iff, false_imp_iff, if_true, if_false, ite_true, ite_false, ↓reduceIte, Nat.reduceAdd, Nat.reduceEqDiff, Nat.reduceLeDiff, Nat.reduceLT, Nat.reduceBEq, Nat.reduceBNe, Int.reduceAdd, Int.reduceNeg, Int.reduceSub, Int.reduceLE, Int.reduceLT, Int.reduceToNat, Int.reduceEq, Int.reduceMul, Int.cast_ofNat_Int, Nat.zero_add, Nat.add_zero, Nat.le_refl, eq_self, ne_eq, reduceCtorEq, or_true, true_or, or_false, false_or, Bool.or_true, Bool.or_false, Bool.true_or, Bool.false_or, Nat.zero_le, Int.le_refl, Int.ofNat_zero, Int.ofNat_one, Bool.false_eq_true]
        rcases ho with ho | ho <;> rcases hcr with hcr | hcr <;> (simp only [ho, hcr, Int.reduceEq, decide_true, decide_false, Bool.and_self, Bool.false_and, Bool.and_false, Bool.and_true, bI_t, bI_f, Int.add_zero] at hk2; simp only [ho, hcr, not_false_eq_true, not_true_eq_false, true_imp_iff, false_imp_iff, true_and, and_true, if_true, if_false, eq_self, Int.reduceEq]; simp only [ab_in]; (repeat' (first | intro _ | refine And.intro ?_ ?_)) <;> (first | exact ih1 hk2 | exact ih2 hk2 | exact hk2 | contradiction | omega | (exfalso; omega)))
    refine hV (fun p => p == 4) 80 _ _ _ _ _ _ ?_
    have l0 := loop S.laid.toNat 0 0 (by omega) (by omega) (by rw [Int.zero_add]; exact hK)
    simp only [c, bI_in, bI_0, bI_1, bI_t, bI_f, bI_01, hP, ae_aload_n, ae_baload, ae_getfield, ae_goto, ae_iconst, ae_ifCond, ae_if_icmp, ae_iinc, ae_iload_n, ae_ireturn, ae_istore_n, ae_sipush, dX1_crackedThere_0, dX1_crackedThere_1, dX1_crackedThere_2, dX1_crackedThere_3, dX1_crackedThere_4, dX1_crackedThere_5, dX1_crackedThere_6, dX1_crackedThere_9, dX1_crackedThere_12, dX1_crackedThere_13, dX1_crackedThere_16, dX1_crackedThere_19, dX1_crackedThere_20, dX1_crackedThere_23, dX1_crackedThere_24, dX1_crackedThere_25, dX1_crackedThere_28, dX1_crackedThere_29, dX1_crackedThere_32, dX1_crackedThere_33, dX1_crackedThere_34, dX1_crackedThere_37, dX1_crackedThere_40, dX1_crackedThere_43, dX1_crackedThere_46, dX1_crackedThere_47, tbX1_g30, tbX1_g34, tbX1_g44, ab_wp0, ab_wps, ab_stp, ab_g, ab_st, ab_k2, ab_cl, ab_pop, ab_sz, ab_2, ab_ret, ab_f4, ab_tg, ab_I, ab_II, ab_A, ab_Rf, ab_VR, ab_IR, ab_VIR, ab_1, ab_LL, ab_DD, ab_ob, ab_pr, ab_qr, ab_ln, ab_so, ab_vI, ab_vA, ab_vD, ab_vL, ab_v2, ab_c, ab_fit, ab_rv, ab_tsw, ab_lsw, ab_up_eq, Fin.isValue, ab_f0, ab_f1, ab_f2, ab_f3, List.getElem?_cons_zero, List.getElem?_cons_succ, List.set_cons_zero, List.set_cons_succ, List.length_cons, List.length_nil, List.size_toArray, List.head?_cons, List.tail_cons, Option.map_some, cond_true, cond_false, true_and, and_true, false_and, and_false, not_true_eq_false, not_false_eq_true, true_imp_iff, false_imp_iff, if_true, if_false, ite_true, ite_false, ↓reduceIte, Nat.reduceAdd, Nat.reduceEqDiff, Nat.reduceLeDiff, Nat.reduceLT, Nat.reduceBEq, Nat.reduceBNe, Int.reduceAdd, Int.reduceNeg, Int.reduceSub, Int.reduceLE, Int.reduceLT, Int.reduceToNat, Int.reduceEq, Int.reduceMul, Int.cast_ofNat_Int, Nat.zero_add, Nat.add_zero, Nat.le_refl, eq_self, ne_eq, reduceCtorEq, or_true, true_or, or_false, false_or, Bool.or_true, Bool.or_false, Bool.true_or, Bool.false_or, Nat.zero_le, Int.le_refl, Int.ofNat_zero, Int.ofNat_one, Bool.false_eq_true]
    exact l0
  · exact hT.elim
set_option maxRecDepth 100000 in
theorem con_X1_crackedThere (l : Launch) (D : va_G) (ty : Nat → ClassId) (base : Nat) : ab_Con l D vwCl ty lw_ts base lw_wd yX1_crackedThere cX1_crackedThere 3 (some .int) 0 0 0 0 Tr_X1_crackedThere :=
  ab_con_of (own := RX1) (rt := 1) (tb := tbX1) (ini := false) (ca := ca_X1_crackedThere) (by decide +kernel) rfl (fun h => by cases h) rfl lw_wd_ok wtbX1 lw_ar cm_X1_crackedThere
    (fun p e R s m args below meth c K hcx => by
      obtain ⟨hx, hb, hml, hown, hF, rfl⟩ := hcx
      exact ab_lk_all (ab_all_n))
    (by intro as h K ht; unfold Tr_X1_crackedThere at ht; split at ht <;> first | exact ht.elim | exact Nat.le_of_ble_eq_true rfl) (sem_X1_crackedThere base)
noncomputable def Tr_X1_allRot : ATr := fun as h K => match as with
  | [.inr (.inl (some a))] => ab_so (ab_roof h a) fun P => (True) ∧ K (some (.inl (allRotF P.2))) h
  | _ => False
theorem mo_X1_allRot : ab_mo Tr_X1_allRot := by
  intro as h K K' hk ht
  unfold Tr_X1_allRot at ht ⊢
  split at ht
  · exact ab_so_mo (fun P q => ⟨q.1, hk _ _ q.2⟩) ht
  · exact ht.elim
def ca_X1_allRot : Nat → Option ACS := ab_lk []
theorem cm_X1_allRot : ∀ i q, ca_X1_allRot i = some q → ab_moq i q := ab_lk_all (ab_all_n)
set_option maxRecDepth 100000 in
set_option maxHeartbeats 1000000 in
theorem sem_X1_allRot (base : Nat) : ab_Sem tbX1 lw_ts base cX1_allRot ca_X1_allRot 1 3 0 0 (fun as => ab_en as 3) Tr_X1_allRot := by
  intro as h K hT V hV
  unfold Tr_X1_allRot at hT
  split at hT
  · rename_i a
    obtain ⟨⟨ns, S⟩, hP, hs, hK⟩ := ab_so_el hT
    obtain ⟨hB, n0, n1, n2, n3, n4, n5, n6, n7, n8, rfl, nd, c, c0, c1, c2, c3, c4, c5, c6, c7, c8⟩ := roof_el hP
    dsimp only at hK hs
    show V 0 [some (.inr (.inl (some a))), none, none] [] h 0 0
    simp only [allRotF] at hK
    have loop : ∀ (n : Nat) (x acc : Int), x + n = 96 → 0 ≤ x → K (some (.inl (acc + sumR S.rot n x))) h → V 4 [some (.inr (.inl (some a))), some (.inl acc), some (.inl x)] [] h 0 0 := by
      intro n
      induction n with
      | zero =>
        intro x acc hx h0 hk2
        refine hV (fun p => p == 4) 80 _ _ _ _ _ _ ?_
        have he : x = 96 := by omega
        simp only [sumR, Int.add_zero] at hk2
        simp only [c, he, bI_in, bI_0, bI_1, bI_t, bI_f, bI_01, hP, ae_aload_n, ae_bipush, ae_getfield, ae_goto, ae_iadd, ae_iaload, ae_iconst, ae_if_icmp, ae_iinc, ae_iload_n, ae_ireturn, ae_istore_n, dX1_allRot_0, dX1_allRot_1, dX1_allRot_2, dX1_allRot_3, dX1_allRot_4, dX1_allRot_5, dX1_allRot_7, dX1_allRot_10, dX1_allRot_11, dX1_allRot_12, dX1_allRot_15, dX1_allRot_16, dX1_allRot_17, dX1_allRot_18, dX1_allRot_19, dX1_allRot_22, dX1_allRot_25, dX1_allRot_26, tbX1_g15, ab_wp0, ab_wps, ab_stp, ab_g, ab_st, ab_k2, ab_cl, ab_pop, ab_sz, ab_2, ab_ret, ab_f4, ab_tg, ab_I, ab_II, ab_A, ab_Rf, ab_VR, ab_IR, ab_VIR, ab_1, ab_LL, ab_DD, ab_ob, ab_pr, ab_qr, ab_ln, ab_so, ab_vI, ab_vA, ab_vD, ab_vL, ab_v2, ab_c, ab_fit, ab_rv, ab_tsw, ab_lsw, ab_up_eq, Fin.isValue, ab_f0, ab_f1, ab_f2, ab_f3, List.getElem?_cons_zero, List.getElem?_cons_succ, List.set_cons_zero, List.set_cons_succ, List.length_cons, List.length_nil, List.size_toArray, List.head?_cons, List.tail_cons, Option.map_some, cond_true, cond_false, true_and, and_true, false_and, and_false, not_true_eq_false, not_false_eq_true, true_imp_iff, false_imp_iff, if_true, if_false, ite_true, ite_false, ↓reduceIte, Nat.reduceAdd, Nat.reduceEqDiff, Nat.reduceLeDiff, Nat.reduceLT, Nat.reduceBEq, Nat.reduceBNe, Int.reduceAdd, Int.reduceNeg, Int.reduceSub, Int.reduceLE, Int.reduceLT, Int.reduceToNat, Int.reduceEq, Int.reduceMul, Int.cast_ofNat_Int, Nat.zero_add, Nat.add_zero, Nat.le_refl, eq_self, ne_eq, reduceCtorEq, or_true, true_or, or_false, false_or, Bool.or_true, Bool.or_false, Bool.true_or, Bool.false_or, Nat.zero_le, Int.le_refl, Int.ofNat_zero, Int.ofNat_one, Bool.false_eq_true]
        simp only [ab_in]
        (repeat' (first | intro _ | refine And.intro ?_ ?_)) <;> (first | exact hk2 | contradiction | omega | (exfalso; omega))
      | succ n ih =>
        intro x acc hx h0 hk2
        refine hV (fun p => p == 4) 80 _ _ _ _ _ _ ?_
        have he : ¬ 96 ≤ x := by omega
        simp only [sumR, ← Int.add_assoc] at hk2
        have ih1 := ih (x + 1) (acc + S.rot x) (by omega) (by omega)
        simp only [c, c1, he, bI_in, bI_0, bI_1, bI_t, bI_f, bI_01, hP, ae_aload_n, ae_bipush, ae_getfield, ae_goto, ae_iadd, ae_iaload, ae_iconst, ae_if_icmp, ae_iinc, ae_iload_n, ae_ireturn, ae_istore_n, dX1_allRot_0, dX1_allRot_1, dX1_allRot_2, dX1_allRot_3, dX1_allRot_4, dX1_allRot_5, dX1_allRot_7, dX1_allRot_10, dX1_allRot_11, dX1_allRot_12, dX1_allRot_15, dX1_allRot_16, dX1_allRot_17, dX1_allRot_18, dX1_allRot_19, dX1_allRot_22, dX1_allRot_25, dX1_allRot_26, tbX1_g15, ab_wp0, ab_wps, ab_stp, ab_g, ab_st, ab_k2, ab_cl, ab_pop, ab_sz, ab_2, ab_ret, ab_f4, ab_tg, ab_I, ab_II, ab_A, ab_Rf, ab_VR, ab_IR, ab_VIR, ab_1, ab_LL, ab_DD, ab_ob, ab_pr, ab_qr, ab_ln, ab_so, ab_vI, ab_vA, ab_vD, ab_vL, ab_v2, ab_c, ab_fit, ab_rv, ab_tsw, ab_lsw, ab_up_eq, Fin.isValue, ab_f0, ab_f1, ab_f2, ab_f3, List.getElem?_cons_zero, List.getElem?_cons_succ, List.set_cons_zero, List.set_cons_succ, List.length_cons, List.length_nil, List.size_toArray, List.head?_cons, List.tail_cons, Option.map_some, cond_true, cond_false, true_and, and_true, false_and, and_false, not_true_eq_false, not_false_eq_true, true_imp_iff, false_imp_iff, if_true, if_false, ite_true, ite_false, ↓reduceIte, Nat.reduceAdd, Nat.reduceEqDiff, Nat.reduceLeDiff, Nat.reduceLT, Nat.reduceBEq, Nat.reduceBNe, Int.reduceAdd, Int.reduceNeg, Int.reduceSub, Int.reduceLE, Int.reduceLT, Int.reduceToNat, Int.reduceEq, Int.reduceMul, Int.cast_ofNat_Int, Nat.zero_add, Nat.add_zero, Nat.le_refl, eq_self, ne_eq, reduceCtorEq, or_true, true_or, or_false, false_or, Bool.or_true, Bool.or_false, Bool.true_or, Bool.false_or, Nat.zero_le, Int.le_refl, Int.ofNat_zero, Int.ofNat_one, Bool.false_eq_true]
        simp only [ab_in]
        (repeat' (first | intro _ | refine And.intro ?_ ?_)) <;> (first | exact ih1 hk2 | exact hk2 | contradiction | omega | (exfalso; omega))
    refine hV (fun p => p == 4) 80 _ _ _ _ _ _ ?_
    have l0 := loop 96 0 0 (by omega) (by omega) (by rw [Int.zero_add]; exact hK)
    simp only [c, bI_in, bI_0, bI_1, bI_t, bI_f, bI_01, hP, ae_aload_n, ae_bipush, ae_getfield, ae_goto, ae_iadd, ae_iaload, ae_iconst, ae_if_icmp, ae_iinc, ae_iload_n, ae_ireturn, ae_istore_n, dX1_allRot_0, dX1_allRot_1, dX1_allRot_2, dX1_allRot_3, dX1_allRot_4, dX1_allRot_5, dX1_allRot_7, dX1_allRot_10, dX1_allRot_11, dX1_allRot_12, dX1_allRot_15, dX1_allRot_16, dX1_allRot_17, dX1_allRot_18, dX1_allRot_19, dX1_allRot_22, dX1_allRot_25, dX1_allRot_26, tbX1_g15, ab_wp0, ab_wps, ab_stp, ab_g, ab_st, ab_k2, ab_cl, ab_pop, ab_sz, ab_2, ab_ret, ab_f4, ab_tg, ab_I, ab_II, ab_A, ab_Rf, ab_VR, ab_IR, ab_VIR, ab_1, ab_LL, ab_DD, ab_ob, ab_pr, ab_qr, ab_ln, ab_so, ab_vI, ab_vA, ab_vD, ab_vL, ab_v2, ab_c, ab_fit, ab_rv, ab_tsw, ab_lsw, ab_up_eq, Fin.isValue, ab_f0, ab_f1, ab_f2, ab_f3, List.getElem?_cons_zero, List.getElem?_cons_succ, List.set_cons_zero, List.set_cons_succ, List.length_cons, List.length_nil, List.size_toArray, List.head?_cons, List.tail_cons, Option.map_some, cond_true, cond_false, true_and, and_true, false_and, and_false, not_true_eq_false, not_false_eq_true, true_imp_iff, false_imp_iff, if_true, if_false, ite_true, ite_false, ↓reduceIte, Nat.reduceAdd, Nat.reduceEqDiff, Nat.reduceLeDiff, Nat.reduceLT, Nat.reduceBEq, Nat.reduceBNe, Int.reduceAdd, Int.reduceNeg, Int.reduceSub, Int.reduceLE, Int.reduceLT, Int.reduceToNat, Int.reduceEq, Int.reduceMul, Int.cast_ofNat_Int, Nat.zero_add, Nat.add_zero, Nat.le_refl, eq_self, ne_eq, reduceCtorEq, or_true, true_or, or_false, false_or, Bool.or_true, Bool.or_false, Bool.true_or, Bool.false_or, Nat.zero_le, Int.le_refl, Int.ofNat_zero, Int.ofNat_one, Bool.false_eq_true]
    exact l0
  · exact hT.elim
set_option maxRecDepth 100000 in
theorem con_X1_allRot (l : Launch) (D : va_G) (ty : Nat → ClassId) (base : Nat) : ab_Con l D vwCl ty lw_ts base lw_wd yX1_allRot cX1_allRot 3 (some .int) 0 0 0 0 Tr_X1_allRot :=
  ab_con_of (own := RX1) (rt := 1) (tb := tbX1) (ini := false) (ca := ca_X1_allRot) (by decide +kernel) rfl (fun h => by cases h) rfl lw_wd_ok wtbX1 lw_ar cm_X1_allRot
    (fun p e R s m args below meth c K hcx => by
      obtain ⟨hx, hb, hml, hown, hF, rfl⟩ := hcx
      exact ab_lk_all (ab_all_n))
    (by intro as h K ht; unfold Tr_X1_allRot at ht; split at ht <;> first | exact ht.elim | exact Nat.le_of_ble_eq_true rfl) (sem_X1_allRot base)
noncomputable def Tr_X1_isGoing : ATr := fun as h K => match as with
  | [.inr (.inl (some a)), .inl s] => ab_so (ab_roof h a) fun P => (ab_in s) ∧ K (some (.inl (bI (isKnownF P.2 s && decide (P.2.goe s = 1))))) h
  | _ => False
theorem mo_X1_isGoing : ab_mo Tr_X1_isGoing := by
  intro as h K K' hk ht
  unfold Tr_X1_isGoing at ht ⊢
  split at ht
  · exact ab_so_mo (fun P q => ⟨q.1, hk _ _ q.2⟩) ht
  · exact ht.elim
def ca_X1_isGoing : Nat → Option ACS := ab_lk [(65, (0, 1, 2, 0, 0, Tr_X1_isKnown))]
theorem ca_X1_isGoing_65 : ca_X1_isGoing 65 = some (0, 1, 2, 0, 0, Tr_X1_isKnown) := rfl
theorem cm_X1_isGoing : ∀ i q, ca_X1_isGoing i = some q → ab_moq i q := ab_lk_all (ab_all_c mo_X1_isKnown (ab_all_n))
set_option maxRecDepth 100000 in
set_option maxHeartbeats 1000000 in
theorem sem_X1_isGoing (base : Nat) : ab_Sem tbX1 lw_ts base cX1_isGoing ca_X1_isGoing 2 2 0 0 (fun as => ab_en as 2) Tr_X1_isGoing := by
  intro as h K hT V hV
  unfold Tr_X1_isGoing at hT
  split at hT
  · rename_i a s
    obtain ⟨⟨ns, S⟩, hP, hs, hK⟩ := ab_so_el hT
    obtain ⟨hB, n0, n1, n2, n3, n4, n5, n6, n7, n8, rfl, nd, c, c0, c1, c2, c3, c4, c5, c6, c7, c8⟩ := roof_el hP
    dsimp only at hK hs
    show V 0 [some (.inr (.inl (some a))), some (.inl s)] [] h 0 0
    have hl := hB.laid_r
    have hg := hB.goe_r s
    refine hV (fun _ => false) 80 _ _ _ _ _ _ ?_
    by_cases hth : isKnownF S s = true
    · have hk := isKnownF_t hth
      simp only [c, c8, hth, bI_in, bI_0, bI_1, bI_t, bI_f, bI_01, hP, Tr_X1_isKnown, ae_aload_n, ae_baload, ae_getfield, ae_goto, ae_iconst, ae_ifCond, ae_iload_n, ae_invokevirtual, ae_ireturn, dX1_isGoing_0, dX1_isGoing_1, dX1_isGoing_2, dX1_isGoing_5, dX1_isGoing_8, dX1_isGoing_9, dX1_isGoing_12, dX1_isGoing_13, dX1_isGoing_14, dX1_isGoing_17, dX1_isGoing_18, dX1_isGoing_21, dX1_isGoing_22, tbX1_g37, ca_X1_isGoing_65, ab_wp0, ab_wps, ab_stp, ab_g, ab_st, ab_k2, ab_cl, ab_pop, ab_sz, ab_2, ab_ret, ab_f4, ab_tg, ab_I, ab_II, ab_A, ab_Rf, ab_VR, ab_IR, ab_VIR, ab_1, ab_LL, ab_DD, ab_ob, ab_pr, ab_qr, ab_ln, ab_so, ab_vI, ab_vA, ab_vD, ab_vL, ab_v2, ab_c, ab_fit, ab_rv, ab_tsw, ab_lsw, ab_up_eq, Fin.isValue, ab_f0, ab_f1, ab_f2, ab_f3, List.getElem?_cons_zero, List.getElem?_cons_succ, List.set_cons_zero, List.set_cons_succ, List.length_cons, List.length_nil, List.size_toArray, List.head?_cons, List.tail_cons, Option.map_some, cond_true, cond_false, true_and, and_true, false_and, and_false, not_true_eq_false, not_false_eq_true, true_imp_iff, false_imp_iff, if_true, if_false, ite_true, ite_false, ↓reduceIte, Nat.reduceAdd, Nat.reduceEqDiff, Nat.reduceLeDiff, Nat.reduceLT, Nat.reduceBEq, Nat.reduceBNe, Int.reduceAdd, Int.reduceNeg, Int.reduceSub, Int.reduceLE, Int.reduceLT, Int.reduceToNat, Int.reduceEq, Int.reduceMul, Int.cast_ofNat_Int, Nat.zero_add, Nat.add_zero, Nat.le_refl, eq_self, ne_eq, reduceCtorEq, or_true, true_or, or_false, false_or, Bool.or_true, Bool.or_false, Bool.true_or, Bool.false_or, Nat.zero_le, Int.le_refl, Int.ofNat_zero, Int.ofNat_one, Bool.false_eq_true]
      rcases hg with hg | hg <;> (simp only [hth, hg, Int.reduceEq, decide_true, decide_false, Bool.and_self, Bool.and_true, Bool.and_false, bI_t, bI_f] at hK; simp only [hg, not_false_eq_true, not_true_eq_false, true_imp_iff, false_imp_iff, true_and, and_true, if_true, if_false, eq_self, Int.reduceEq, Bool.true_eq_false]; simp only [ab_in] at hs ⊢; (repeat' (first | intro _ | refine And.intro ?_ ?_)) <;> (first | exact hK | contradiction | omega | (exfalso; omega)))
    · simp only [hth, Bool.false_and, bI_f] at hK
      simp only [c, hth, bI_in, bI_0, bI_1, bI_t, bI_f, bI_01, hP, Tr_X1_isKnown, ae_aload_n, ae_baload, ae_getfield, ae_goto, ae_iconst, ae_ifCond, ae_iload_n, ae_invokevirtual, ae_ireturn, dX1_isGoing_0, dX1_isGoing_1, dX1_isGoing_2, dX1_isGoing_5, dX1_isGoing_8, dX1_isGoing_9, dX1_isGoing_12, dX1_isGoing_13, dX1_isGoing_14, dX1_isGoing_17, dX1_isGoing_18, dX1_isGoing_21, dX1_isGoing_22, tbX1_g37, ca_X1_isGoing_65, ab_wp0, ab_wps, ab_stp, ab_g, ab_st, ab_k2, ab_cl, ab_pop, ab_sz, ab_2, ab_ret, ab_f4, ab_tg, ab_I, ab_II, ab_A, ab_Rf, ab_VR, ab_IR, ab_VIR, ab_1, ab_LL, ab_DD, ab_ob, ab_pr, ab_qr, ab_ln, ab_so, ab_vI, ab_vA, ab_vD, ab_vL, ab_v2, ab_c, ab_fit, ab_rv, ab_tsw, ab_lsw, ab_up_eq, Fin.isValue, ab_f0, ab_f1, ab_f2, ab_f3, List.getElem?_cons_zero, List.getElem?_cons_succ, List.set_cons_zero, List.set_cons_succ, List.length_cons, List.length_nil, List.size_toArray, List.head?_cons, List.tail_cons, Option.map_some, cond_true, cond_false, true_and, and_true, false_and, and_false, not_true_eq_false, not_false_eq_true, true_imp_iff, false_imp_iff, if_true, if_false, ite_true, ite_false, ↓reduceIte, Nat.reduceAdd, Nat.reduceEqDiff, Nat.reduceLeDiff, Nat.reduceLT, Nat.reduceBEq, Nat.reduceBNe, Int.reduceAdd, Int.reduceNeg, Int.reduceSub, Int.reduceLE, Int.reduceLT, Int.reduceToNat, Int.reduceEq, Int.reduceMul, Int.cast_ofNat_Int, Nat.zero_add, Nat.add_zero, Nat.le_refl, eq_self, ne_eq, reduceCtorEq, or_true, true_or, or_false, false_or, Bool.or_true, Bool.or_false, Bool.true_or, Bool.false_or, Nat.zero_le, Int.le_refl, Int.ofNat_zero, Int.ofNat_one, Bool.false_eq_true]
      simp only [ab_in] at hs ⊢
      (repeat' (first | intro _ | refine And.intro ?_ ?_)) <;> (first | exact hK | contradiction | omega | (exfalso; omega))
  · exact hT.elim
set_option maxRecDepth 100000 in
theorem con_X1_isGoing (l : Launch) (D : va_G) (ty : Nat → ClassId) (base : Nat) : ab_Con l D vwCl ty lw_ts base lw_wd yX1_isGoing cX1_isGoing 2 (some .boolean) 1 21 0 0 Tr_X1_isGoing :=
  ab_con_of (own := RX1) (rt := 2) (tb := tbX1) (ini := false) (ca := ca_X1_isGoing) (by decide +kernel) rfl (fun h => by cases h) rfl lw_wd_ok wtbX1 lw_ar cm_X1_isGoing
    (fun p e R s m args below meth c K hcx => by
      obtain ⟨hx, hb, hml, hown, hF, rfl⟩ := hcx
      exact ab_lk_all (ab_all_c (ab_tc_V hx hb hml hown lw_wd_ok hF ⟨rfl, rfl⟩ (con_X1_isKnown l D ty base) rfl (lw_wi (by decide +kernel) (by decide +kernel)) (lw_wi (by decide +kernel) (by decide +kernel)) (lw_wi (by decide +kernel) (by decide +kernel)) (lw_wi (by decide +kernel) (by decide +kernel)) (lw_wi (by decide +kernel) (by decide +kernel)) (by decide +kernel) ⟨by decide, by decide⟩) (ab_all_n)))
    (by intro as h K ht; unfold Tr_X1_isGoing at ht; split at ht <;> first | exact ht.elim | exact Nat.le_of_ble_eq_true rfl) (sem_X1_isGoing base)
noncomputable def Tr_X1_nailsOf : ATr := fun as h K => match as with
  | [.inr (.inl (some a)), .inl s] => ab_so (ab_roof h a) fun P => (ab_in s) ∧ K (some (.inl (bif isKnownF P.2 s then P.2.nai s else 0))) h
  | _ => False
theorem mo_X1_nailsOf : ab_mo Tr_X1_nailsOf := by
  intro as h K K' hk ht
  unfold Tr_X1_nailsOf at ht ⊢
  split at ht
  · exact ab_so_mo (fun P q => ⟨q.1, hk _ _ q.2⟩) ht
  · exact ht.elim
def ca_X1_nailsOf : Nat → Option ACS := ab_lk [(65, (0, 1, 2, 0, 0, Tr_X1_isKnown))]
theorem ca_X1_nailsOf_65 : ca_X1_nailsOf 65 = some (0, 1, 2, 0, 0, Tr_X1_isKnown) := rfl
theorem cm_X1_nailsOf : ∀ i q, ca_X1_nailsOf i = some q → ab_moq i q := ab_lk_all (ab_all_c mo_X1_isKnown (ab_all_n))
set_option maxRecDepth 100000 in
set_option maxHeartbeats 1000000 in
theorem sem_X1_nailsOf (base : Nat) : ab_Sem tbX1 lw_ts base cX1_nailsOf ca_X1_nailsOf 1 2 0 0 (fun as => ab_en as 2) Tr_X1_nailsOf := by
  intro as h K hT V hV
  unfold Tr_X1_nailsOf at hT
  split at hT
  · rename_i a s
    obtain ⟨⟨ns, S⟩, hP, hs, hK⟩ := ab_so_el hT
    obtain ⟨hB, n0, n1, n2, n3, n4, n5, n6, n7, n8, rfl, nd, c, c0, c1, c2, c3, c4, c5, c6, c7, c8⟩ := roof_el hP
    dsimp only at hK hs
    show V 0 [some (.inr (.inl (some a))), some (.inl s)] [] h 0 0
    have hl := hB.laid_r
    refine hV (fun _ => false) 80 _ _ _ _ _ _ ?_
    by_cases hth : isKnownF S s = true
    · have hk := isKnownF_t hth
      simp only [hth, cond_true] at hK
      simp only [c, c5, hth, bI_in, bI_0, bI_1, bI_t, bI_f, bI_01, hP, Tr_X1_isKnown, ae_aload_n, ae_getfield, ae_goto, ae_iaload, ae_iconst, ae_ifCond, ae_iload_n, ae_invokevirtual, ae_ireturn, dX1_nailsOf_0, dX1_nailsOf_1, dX1_nailsOf_2, dX1_nailsOf_5, dX1_nailsOf_8, dX1_nailsOf_9, dX1_nailsOf_12, dX1_nailsOf_13, dX1_nailsOf_14, dX1_nailsOf_17, dX1_nailsOf_18, tbX1_g27, ca_X1_nailsOf_65, ab_wp0, ab_wps, ab_stp, ab_g, ab_st, ab_k2, ab_cl, ab_pop, ab_sz, ab_2, ab_ret, ab_f4, ab_tg, ab_I, ab_II, ab_A, ab_Rf, ab_VR, ab_IR, ab_VIR, ab_1, ab_LL, ab_DD, ab_ob, ab_pr, ab_qr, ab_ln, ab_so, ab_vI, ab_vA, ab_vD, ab_vL, ab_v2, ab_c, ab_fit, ab_rv, ab_tsw, ab_lsw, ab_up_eq, Fin.isValue, ab_f0, ab_f1, ab_f2, ab_f3, List.getElem?_cons_zero, List.getElem?_cons_succ, List.set_cons_zero, List.set_cons_succ, List.length_cons, List.length_nil, List.size_toArray, List.head?_cons, List.tail_cons, Option.map_some, cond_true, cond_false, true_and, and_true, false_and, and_false, not_true_eq_false, not_false_eq_true, true_imp_iff, false_imp_iff, if_true, if_false, ite_true, ite_false, ↓reduceIte, Nat.reduceAdd, Nat.reduceEqDiff, Nat.reduceLeDiff, Nat.reduceLT, Nat.reduceBEq, Nat.reduceBNe, Int.reduceAdd, Int.reduceNeg, Int.reduceSub, Int.reduceLE, Int.reduceLT, Int.reduceToNat, Int.reduceEq, Int.reduceMul, Int.cast_ofNat_Int, Nat.zero_add, Nat.add_zero, Nat.le_refl, eq_self, ne_eq, reduceCtorEq, or_true, true_or, or_false, false_or, Bool.or_true, Bool.or_false, Bool.true_or, Bool.false_or, Nat.zero_le, Int.le_refl, Int.ofNat_zero, Int.ofNat_one, Bool.false_eq_true]
      simp only [ab_in] at hs ⊢
      (repeat' (first | intro _ | refine And.intro ?_ ?_)) <;> (first | exact hK | contradiction | omega | (exfalso; omega))
    · simp only [hth, cond_false] at hK
      simp only [c, hth, bI_in, bI_0, bI_1, bI_t, bI_f, bI_01, hP, Tr_X1_isKnown, ae_aload_n, ae_getfield, ae_goto, ae_iaload, ae_iconst, ae_ifCond, ae_iload_n, ae_invokevirtual, ae_ireturn, dX1_nailsOf_0, dX1_nailsOf_1, dX1_nailsOf_2, dX1_nailsOf_5, dX1_nailsOf_8, dX1_nailsOf_9, dX1_nailsOf_12, dX1_nailsOf_13, dX1_nailsOf_14, dX1_nailsOf_17, dX1_nailsOf_18, tbX1_g27, ca_X1_nailsOf_65, ab_wp0, ab_wps, ab_stp, ab_g, ab_st, ab_k2, ab_cl, ab_pop, ab_sz, ab_2, ab_ret, ab_f4, ab_tg, ab_I, ab_II, ab_A, ab_Rf, ab_VR, ab_IR, ab_VIR, ab_1, ab_LL, ab_DD, ab_ob, ab_pr, ab_qr, ab_ln, ab_so, ab_vI, ab_vA, ab_vD, ab_vL, ab_v2, ab_c, ab_fit, ab_rv, ab_tsw, ab_lsw, ab_up_eq, Fin.isValue, ab_f0, ab_f1, ab_f2, ab_f3, List.getElem?_cons_zero, List.getElem?_cons_succ, List.set_cons_zero, List.set_cons_succ, List.length_cons, List.length_nil, List.size_toArray, List.head?_cons, List.tail_cons, Option.map_some, cond_true, cond_false, true_and, and_true, false_and, and_false, not_true_eq_false, not_false_eq_true, true_imp_iff, false_imp_iff, if_true, if_false, ite_true, ite_false, ↓reduceIte, Nat.reduceAdd, Nat.reduceEqDiff, Nat.reduceLeDiff, Nat.reduceLT, Nat.reduceBEq, Nat.reduceBNe, Int.reduceAdd, Int.reduceNeg, Int.reduceSub, Int.reduceLE, Int.reduceLT, Int.reduceToNat, Int.reduceEq, Int.reduceMul, Int.cast_ofNat_Int, Nat.zero_add, Nat.add_zero, Nat.le_refl, eq_self, ne_eq, reduceCtorEq, or_true, true_or, or_false, false_or, Bool.or_true, Bool.or_false, Bool.true_or, Bool.false_or, Nat.zero_le, Int.le_refl, Int.ofNat_zero, Int.ofNat_one, Bool.false_eq_true]
      simp only [ab_in] at hs ⊢
      (repeat' (first | intro _ | refine And.intro ?_ ?_)) <;> (first | exact hK | contradiction | omega | (exfalso; omega))
  · exact hT.elim
set_option maxRecDepth 100000 in
theorem con_X1_nailsOf (l : Launch) (D : va_G) (ty : Nat → ClassId) (base : Nat) : ab_Con l D vwCl ty lw_ts base lw_wd yX1_nailsOf cX1_nailsOf 2 (some .int) 1 21 0 0 Tr_X1_nailsOf :=
  ab_con_of (own := RX1) (rt := 1) (tb := tbX1) (ini := false) (ca := ca_X1_nailsOf) (by decide +kernel) rfl (fun h => by cases h) rfl lw_wd_ok wtbX1 lw_ar cm_X1_nailsOf
    (fun p e R s m args below meth c K hcx => by
      obtain ⟨hx, hb, hml, hown, hF, rfl⟩ := hcx
      exact ab_lk_all (ab_all_c (ab_tc_V hx hb hml hown lw_wd_ok hF ⟨rfl, rfl⟩ (con_X1_isKnown l D ty base) rfl (lw_wi (by decide +kernel) (by decide +kernel)) (lw_wi (by decide +kernel) (by decide +kernel)) (lw_wi (by decide +kernel) (by decide +kernel)) (lw_wi (by decide +kernel) (by decide +kernel)) (lw_wi (by decide +kernel) (by decide +kernel)) (by decide +kernel) ⟨by decide, by decide⟩) (ab_all_n)))
    (by intro as h K ht; unfold Tr_X1_nailsOf at ht; split at ht <;> first | exact ht.elim | exact Nat.le_of_ble_eq_true rfl) (sem_X1_nailsOf base)
noncomputable def Tr_X1_isOpen : ATr := fun as h K => match as with
  | [.inr (.inl (some a)), .inl s] => ab_so (ab_roof h a) fun P => (ab_in s) ∧ K (some (.inl (bI (isThereF P.2 s && decide (uponF P.2 s = 0))))) h
  | _ => False
theorem mo_X1_isOpen : ab_mo Tr_X1_isOpen := by
  intro as h K K' hk ht
  unfold Tr_X1_isOpen at ht ⊢
  split at ht
  · exact ab_so_mo (fun P q => ⟨q.1, hk _ _ q.2⟩) ht
  · exact ht.elim
def ca_X1_isOpen : Nat → Option ACS := ab_lk [(53, (0, 1, 2, 0, 0, Tr_X1_isThere)), (57, (0, 1, 2, 0, 0, Tr_X1_uponIt))]
theorem ca_X1_isOpen_53 : ca_X1_isOpen 53 = some (0, 1, 2, 0, 0, Tr_X1_isThere) := rfl
theorem ca_X1_isOpen_57 : ca_X1_isOpen 57 = some (0, 1, 2, 0, 0, Tr_X1_uponIt) := rfl
theorem cm_X1_isOpen : ∀ i q, ca_X1_isOpen i = some q → ab_moq i q := ab_lk_all (ab_all_c mo_X1_isThere (ab_all_c mo_X1_uponIt (ab_all_n)))
set_option maxRecDepth 100000 in
set_option maxHeartbeats 1000000 in
theorem sem_X1_isOpen (base : Nat) : ab_Sem tbX1 lw_ts base cX1_isOpen ca_X1_isOpen 2 2 0 0 (fun as => ab_en as 2) Tr_X1_isOpen := by
  intro as h K hT V hV
  unfold Tr_X1_isOpen at hT
  split at hT
  · rename_i a s
    obtain ⟨⟨ns, S⟩, hP, hs, hK⟩ := ab_so_el hT
    obtain ⟨hB, n0, n1, n2, n3, n4, n5, n6, n7, n8, rfl, nd, c, c0, c1, c2, c3, c4, c5, c6, c7, c8⟩ := roof_el hP
    dsimp only at hK hs
    show V 0 [some (.inr (.inl (some a))), some (.inl s)] [] h 0 0
    have hu := uponF_r hB s
    refine hV (fun _ => false) 80 _ _ _ _ _ _ ?_
    simp only [c, bI_in, bI_0, bI_1, bI_t, bI_f, bI_01, hP, Tr_X1_isThere, Tr_X1_uponIt, ae_aload_n, ae_goto, ae_iconst, ae_ifCond, ae_iload_n, ae_invokevirtual, ae_ireturn, dX1_isOpen_0, dX1_isOpen_1, dX1_isOpen_2, dX1_isOpen_5, dX1_isOpen_8, dX1_isOpen_9, dX1_isOpen_10, dX1_isOpen_13, dX1_isOpen_16, dX1_isOpen_17, dX1_isOpen_20, dX1_isOpen_21, ca_X1_isOpen_53, ca_X1_isOpen_57, ab_wp0, ab_wps, ab_stp, ab_g, ab_st, ab_k2, ab_cl, ab_pop, ab_sz, ab_2, ab_ret, ab_f4, ab_tg, ab_I, ab_II, ab_A, ab_Rf, ab_VR, ab_IR, ab_VIR, ab_1, ab_LL, ab_DD, ab_ob, ab_pr, ab_qr, ab_ln, ab_so, ab_vI, ab_vA, ab_vD, ab_vL, ab_v2, ab_c, ab_fit, ab_rv, ab_tsw, ab_lsw, ab_up_eq, Fin.isValue, ab_f0, ab_f1, ab_f2, ab_f3, List.getElem?_cons_zero, List.getElem?_cons_succ, List.set_cons_zero, List.set_cons_succ, List.length_cons, List.length_nil, List.size_toArray, List.head?_cons, List.tail_cons, Option.map_some, cond_true, cond_false, true_and, and_true, false_and, and_false, not_true_eq_false, not_false_eq_true, true_imp_iff, false_imp_iff, if_true, if_false, ite_true, ite_false, ↓reduceIte, Nat.reduceAdd, Nat.reduceEqDiff, Nat.reduceLeDiff, Nat.reduceLT, Nat.reduceBEq, Nat.reduceBNe, Int.reduceAdd, Int.reduceNeg, Int.reduceSub, Int.reduceLE, Int.reduceLT, Int.reduceToNat, Int.reduceEq, Int.reduceMul, Int.cast_ofNat_Int, Nat.zero_add, Nat.add_zero, Nat.le_refl, eq_self, ne_eq, reduceCtorEq, or_true, true_or, or_false, false_or, Bool.or_true, Bool.or_false, Bool.true_or, Bool.false_or, Nat.zero_le, Int.le_refl, Int.ofNat_zero, Int.ofNat_one, Bool.false_eq_true]
    cases hth : isThereF S s <;> by_cases h1 : uponF S s = 0 <;> (simp only [hth, h1, decide_true, decide_false, Bool.and_self, Bool.and_true, Bool.and_false, Bool.false_and, bI_t, bI_f] at hK; simp only [h1, not_false_eq_true, not_true_eq_false, true_imp_iff, false_imp_iff, true_and, and_true, if_true, if_false, eq_self, Bool.true_eq_false]; simp only [ab_in] at hs ⊢; (repeat' (first | intro _ | refine And.intro ?_ ?_)) <;> (first | exact hK | contradiction | omega | (exfalso; omega)))
  · exact hT.elim
set_option maxRecDepth 100000 in
theorem con_X1_isOpen (l : Launch) (D : va_G) (ty : Nat → ClassId) (base : Nat) : ab_Con l D vwCl ty lw_ts base lw_wd yX1_isOpen cX1_isOpen 2 (some .boolean) 2 47 0 0 Tr_X1_isOpen :=
  ab_con_of (own := RX1) (rt := 2) (tb := tbX1) (ini := false) (ca := ca_X1_isOpen) (by decide +kernel) rfl (fun h => by cases h) rfl lw_wd_ok wtbX1 lw_ar cm_X1_isOpen
    (fun p e R s m args below meth c K hcx => by
      obtain ⟨hx, hb, hml, hown, hF, rfl⟩ := hcx
      exact ab_lk_all (ab_all_c (ab_tc_V hx hb hml hown lw_wd_ok hF ⟨rfl, rfl⟩ (con_X1_isThere l D ty base) rfl (lw_wi (by decide +kernel) (by decide +kernel)) (lw_wi (by decide +kernel) (by decide +kernel)) (lw_wi (by decide +kernel) (by decide +kernel)) (lw_wi (by decide +kernel) (by decide +kernel)) (lw_wi (by decide +kernel) (by decide +kernel)) (by decide +kernel) ⟨by decide, by decide⟩) (ab_all_c (ab_tc_V hx hb hml hown lw_wd_ok hF ⟨rfl, rfl⟩ (con_X1_uponIt l D ty base) rfl (lw_wi (by decide +kernel) (by decide +kernel)) (lw_wi (by decide +kernel) (by decide +kernel)) (lw_wi (by decide +kernel) (by decide +kernel)) (lw_wi (by decide +kernel) (by decide +kernel)) (lw_wi (by decide +kernel) (by decide +kernel)) (by decide +kernel) ⟨by decide, by decide⟩) (ab_all_n))))
    (by intro as h K ht; unfold Tr_X1_isOpen at ht; split at ht <;> first | exact ht.elim | exact Nat.le_of_ble_eq_true rfl) (sem_X1_isOpen base)
noncomputable def Tr_X1_tellSlate : ATr := fun as h K => match as with
  | [.inr (.inl (some a)), .inl s, .inl what] => ab_so (ab_roof h a) fun P => (ab_in s ∧ (0 ≤ what ∧ what ≤ 7)) ∧ K (some (.inl (tellF P.2 s what))) h
  | _ => False
theorem mo_X1_tellSlate : ab_mo Tr_X1_tellSlate := by
  intro as h K K' hk ht
  unfold Tr_X1_tellSlate at ht ⊢
  split at ht
  · exact ab_so_mo (fun P q => ⟨q.1, hk _ _ q.2⟩) ht
  · exact ht.elim
def ca_X1_tellSlate : Nat → Option ACS := ab_lk [(65, (0, 1, 2, 0, 0, Tr_X1_isKnown)), (76, (0, 1, 2, 0, 0, Tr_X1_holdOf)), (57, (0, 1, 2, 0, 0, Tr_X1_uponIt))]
theorem ca_X1_tellSlate_65 : ca_X1_tellSlate 65 = some (0, 1, 2, 0, 0, Tr_X1_isKnown) := rfl
theorem ca_X1_tellSlate_76 : ca_X1_tellSlate 76 = some (0, 1, 2, 0, 0, Tr_X1_holdOf) := rfl
theorem ca_X1_tellSlate_57 : ca_X1_tellSlate 57 = some (0, 1, 2, 0, 0, Tr_X1_uponIt) := rfl
theorem cm_X1_tellSlate : ∀ i q, ca_X1_tellSlate i = some q → ab_moq i q := ab_lk_all (ab_all_c mo_X1_isKnown (ab_all_c mo_X1_holdOf (ab_all_c mo_X1_uponIt (ab_all_n))))
set_option maxRecDepth 100000 in
set_option maxHeartbeats 1000000 in
theorem sem_X1_tellSlate (base : Nat) : ab_Sem tbX1 lw_ts base cX1_tellSlate ca_X1_tellSlate 1 3 0 0 (fun as => ab_en as 3) Tr_X1_tellSlate := by
  intro as h K hT V hV
  unfold Tr_X1_tellSlate at hT
  split at hT
  · rename_i a s what
    obtain ⟨⟨ns, S⟩, hP, hs, hK⟩ := ab_so_el hT
    obtain ⟨hB, n0, n1, n2, n3, n4, n5, n6, n7, n8, rfl, nd, c, c0, c1, c2, c3, c4, c5, c6, c7, c8⟩ := roof_el hP
    dsimp only at hK hs
    show V 0 [some (.inr (.inl (some a))), some (.inl s), some (.inl what)] [] h 0 0
    have hl := hB.laid_r
    have hcr := hB.crk_r s
    have ho := hB.onr_r s
    refine hV (fun _ => false) 80 _ _ _ _ _ _ ?_
    by_cases hth : isKnownF S s = true
    · have hk := isKnownF_t hth
      simp only [tellF, hth, cond_true] at hK
      simp only [c, c2, c3, c4, c5, c6, c7, hth, bI_in, bI_0, bI_1, bI_t, bI_f, bI_01, hP, Tr_X1_isKnown, Tr_X1_holdOf, Tr_X1_uponIt, ae_aload_n, ae_baload, ae_getfield, ae_goto, ae_iaload, ae_iconst, ae_ifCond, ae_iload_n, ae_invokevirtual, ae_ireturn, ae_tableswitch, dX1_tellSlate_0, dX1_tellSlate_1, dX1_tellSlate_2, dX1_tellSlate_5, dX1_tellSlate_8, dX1_tellSlate_9, dX1_tellSlate_10, dX1_tellSlate_11, dX1_tellSlate_52, dX1_tellSlate_53, dX1_tellSlate_56, dX1_tellSlate_57, dX1_tellSlate_58, dX1_tellSlate_59, dX1_tellSlate_60, dX1_tellSlate_63, dX1_tellSlate_64, dX1_tellSlate_65, dX1_tellSlate_66, dX1_tellSlate_67, dX1_tellSlate_70, dX1_tellSlate_71, dX1_tellSlate_72, dX1_tellSlate_73, dX1_tellSlate_74, dX1_tellSlate_77, dX1_tellSlate_78, dX1_tellSlate_79, dX1_tellSlate_80, dX1_tellSlate_81, dX1_tellSlate_84, dX1_tellSlate_85, dX1_tellSlate_86, dX1_tellSlate_89, dX1_tellSlate_90, dX1_tellSlate_93, dX1_tellSlate_94, dX1_tellSlate_95, dX1_tellSlate_96, dX1_tellSlate_99, dX1_tellSlate_100, dX1_tellSlate_101, dX1_tellSlate_104, dX1_tellSlate_105, dX1_tellSlate_108, dX1_tellSlate_109, dX1_tellSlate_110, dX1_tellSlate_111, dX1_tellSlate_112, dX1_tellSlate_115, dX1_tellSlate_116, dX1_tellSlate_117, dX1_tellSlate_118, dX1_tellSlate_121, tbX1_g18, tbX1_g21, tbX1_g24, tbX1_g27, tbX1_g30, tbX1_g34, ca_X1_tellSlate_65, ca_X1_tellSlate_76, ca_X1_tellSlate_57, ab_wp0, ab_wps, ab_stp, ab_g, ab_st, ab_k2, ab_cl, ab_pop, ab_sz, ab_2, ab_ret, ab_f4, ab_tg, ab_I, ab_II, ab_A, ab_Rf, ab_VR, ab_IR, ab_VIR, ab_1, ab_LL, ab_DD, ab_ob, ab_pr, ab_qr, ab_ln, ab_so, ab_vI, ab_vA, ab_vD, ab_vL, ab_v2, ab_c, ab_fit, ab_rv, ab_tsw, ab_lsw, ab_up_eq, Fin.isValue, ab_f0, ab_f1, ab_f2, ab_f3, List.getElem?_cons_zero, List.getElem?_cons_succ, List.set_cons_zero, List.set_cons_succ, List.length_cons, List.length_nil, List.size_toArray, List.head?_cons, List.tail_cons, Option.map_some, cond_true, cond_false, true_and, and_true, false_and, and_false, not_true_eq_false, not_false_eq_true, true_imp_iff, false_imp_iff, if_true, if_false, ite_true, ite_false, ↓reduceIte, Nat.reduceAdd, Nat.reduceEqDiff, Nat.reduceLeDiff, Nat.reduceLT, Nat.reduceBEq, Nat.reduceBNe, Int.reduceAdd, Int.reduceNeg, Int.reduceSub, Int.reduceLE, Int.reduceLT, Int.reduceToNat, Int.reduceEq, Int.reduceMul, Int.cast_ofNat_Int, Nat.zero_add, Nat.add_zero, Nat.le_refl, eq_self, ne_eq, reduceCtorEq, or_true, true_or, or_false, false_or, Bool.or_true, Bool.or_false, Bool.true_or, Bool.false_or, Nat.zero_le, Int.le_refl, Int.ofNat_zero, Int.ofNat_one, Bool.false_eq_true]
      have hw : what = 0 ∨ what = 1 ∨ what = 2 ∨ what = 3 ∨ what = 4 ∨ what = 5 ∨ what = 6 ∨ what = 7 := by omega
      rcases hw with rfl | rfl | rfl | rfl | rfl | rfl | rfl | rfl <;> simp only [Int.reduceEq, if_true, if_false] at hK <;> rcases hcr with hcr | hcr <;> rcases ho with ho | ho <;> ((try simp only [hcr, ho] at hK); simp only [hcr, ho, Int.reduceEq, Int.reduceAdd, Int.reduceLT, Int.reduceNeg, not_false_eq_true, not_true_eq_false, true_imp_iff, false_imp_iff, true_and, and_true, if_true, if_false, eq_self, Bool.true_eq_false, or_self]; simp only [ab_in] at hs ⊢; (repeat' (first | intro _ | refine And.intro ?_ ?_)) <;> (first | exact hK | contradiction | omega | (exfalso; omega)))
    · simp only [tellF, hth, cond_false] at hK
      simp only [c, hth, bI_in, bI_0, bI_1, bI_t, bI_f, bI_01, hP, Tr_X1_isKnown, ae_aload_n, ae_baload, ae_getfield, ae_goto, ae_iaload, ae_iconst, ae_ifCond, ae_iload_n, ae_invokevirtual, ae_ireturn, ae_tableswitch, dX1_tellSlate_0, dX1_tellSlate_1, dX1_tellSlate_2, dX1_tellSlate_5, dX1_tellSlate_8, dX1_tellSlate_9, dX1_tellSlate_10, dX1_tellSlate_11, dX1_tellSlate_52, dX1_tellSlate_53, dX1_tellSlate_56, dX1_tellSlate_57, dX1_tellSlate_58, dX1_tellSlate_59, dX1_tellSlate_60, dX1_tellSlate_63, dX1_tellSlate_64, dX1_tellSlate_65, dX1_tellSlate_66, dX1_tellSlate_67, dX1_tellSlate_70, dX1_tellSlate_71, dX1_tellSlate_72, dX1_tellSlate_73, dX1_tellSlate_74, dX1_tellSlate_77, dX1_tellSlate_78, dX1_tellSlate_79, dX1_tellSlate_80, dX1_tellSlate_81, dX1_tellSlate_84, dX1_tellSlate_85, dX1_tellSlate_86, dX1_tellSlate_89, dX1_tellSlate_90, dX1_tellSlate_93, dX1_tellSlate_94, dX1_tellSlate_95, dX1_tellSlate_96, dX1_tellSlate_99, dX1_tellSlate_100, dX1_tellSlate_101, dX1_tellSlate_104, dX1_tellSlate_105, dX1_tellSlate_108, dX1_tellSlate_109, dX1_tellSlate_110, dX1_tellSlate_111, dX1_tellSlate_112, dX1_tellSlate_115, dX1_tellSlate_116, dX1_tellSlate_117, dX1_tellSlate_118, dX1_tellSlate_121, tbX1_g18, tbX1_g21, tbX1_g24, tbX1_g27, tbX1_g30, tbX1_g34, ca_X1_tellSlate_65, ca_X1_tellSlate_76, ca_X1_tellSlate_57, ab_wp0, ab_wps, ab_stp, ab_g, ab_st, ab_k2, ab_cl, ab_pop, ab_sz, ab_2, ab_ret, ab_f4, ab_tg, ab_I, ab_II, ab_A, ab_Rf, ab_VR, ab_IR, ab_VIR, ab_1, ab_LL, ab_DD, ab_ob, ab_pr, ab_qr, ab_ln, ab_so, ab_vI, ab_vA, ab_vD, ab_vL, ab_v2, ab_c, ab_fit, ab_rv, ab_tsw, ab_lsw, ab_up_eq, Fin.isValue, ab_f0, ab_f1, ab_f2, ab_f3, List.getElem?_cons_zero, List.getElem?_cons_succ, List.set_cons_zero, List.set_cons_succ, List.length_cons, List.length_nil, List.size_toArray, List.head?_cons, List.tail_cons, Option.map_some, cond_true, cond_false, true_and, and_true, false_and, and_false, not_true_eq_false, not_false_eq_true, true_imp_iff, false_imp_iff, if_true, if_false, ite_true, ite_false, ↓reduceIte, Nat.reduceAdd, Nat.reduceEqDiff, Nat.reduceLeDiff, Nat.reduceLT, Nat.reduceBEq, Nat.reduceBNe, Int.reduceAdd, Int.reduceNeg, Int.reduceSub, Int.reduceLE, Int.reduceLT, Int.reduceToNat, Int.reduceEq, Int.reduceMul, Int.cast_ofNat_Int, Nat.zero_add, Nat.add_zero, Nat.le_refl, eq_self, ne_eq, reduceCtorEq, or_true, true_or, or_false, false_or, Bool.or_true, Bool.or_false, Bool.true_or, Bool.false_or, Nat.zero_le, Int.le_refl, Int.ofNat_zero, Int.ofNat_one, Bool.false_eq_true]
      simp only [ab_in] at hs ⊢
      (repeat' (first | intro _ | refine And.intro ?_ ?_)) <;> (first | exact hK | contradiction | omega | (exfalso; omega))
  · exact hT.elim
set_option maxRecDepth 100000 in
theorem con_X1_tellSlate (l : Launch) (D : va_G) (ty : Nat → ClassId) (base : Nat) : ab_Con l D vwCl ty lw_ts base lw_wd yX1_tellSlate cX1_tellSlate 3 (some .int) 3 70 0 0 Tr_X1_tellSlate :=
  ab_con_of (own := RX1) (rt := 1) (tb := tbX1) (ini := false) (ca := ca_X1_tellSlate) (by decide +kernel) rfl (fun h => by cases h) rfl lw_wd_ok wtbX1 lw_ar cm_X1_tellSlate
    (fun p e R s m args below meth c K hcx => by
      obtain ⟨hx, hb, hml, hown, hF, rfl⟩ := hcx
      exact ab_lk_all (ab_all_c (ab_tc_V hx hb hml hown lw_wd_ok hF ⟨rfl, rfl⟩ (con_X1_isKnown l D ty base) rfl (lw_wi (by decide +kernel) (by decide +kernel)) (lw_wi (by decide +kernel) (by decide +kernel)) (lw_wi (by decide +kernel) (by decide +kernel)) (lw_wi (by decide +kernel) (by decide +kernel)) (lw_wi (by decide +kernel) (by decide +kernel)) (by decide +kernel) ⟨by decide, by decide⟩) (ab_all_c (ab_tc_V hx hb hml hown lw_wd_ok hF ⟨rfl, rfl⟩ (con_X1_holdOf l D ty base) rfl (lw_wi (by decide +kernel) (by decide +kernel)) (lw_wi (by decide +kernel) (by decide +kernel)) (lw_wi (by decide +kernel) (by decide +kernel)) (lw_wi (by decide +kernel) (by decide +kernel)) (lw_wi (by decide +kernel) (by decide +kernel)) (by decide +kernel) ⟨by decide, by decide⟩) (ab_all_c (ab_tc_V hx hb hml hown lw_wd_ok hF ⟨rfl, rfl⟩ (con_X1_uponIt l D ty base) rfl (lw_wi (by decide +kernel) (by decide +kernel)) (lw_wi (by decide +kernel) (by decide +kernel)) (lw_wi (by decide +kernel) (by decide +kernel)) (lw_wi (by decide +kernel) (by decide +kernel)) (lw_wi (by decide +kernel) (by decide +kernel)) (by decide +kernel) ⟨by decide, by decide⟩) (ab_all_n)))))
    (by intro as h K ht; unfold Tr_X1_tellSlate at ht; split at ht <;> first | exact ht.elim | exact Nat.le_of_ble_eq_true rfl) (sem_X1_tellSlate base)
