/-! ===== what is covered: reading a roof, a slate thought of ===== -/
noncomputable def Tr_X0_addSlate : ATr := fun as h K => match as with
  | [.inr (.inl (some a)), .inl row, .inl from9, .inl wide] => ab_so (ab_cov h a) fun P => ((0 ≤ row ∧ row ≤ 7) ∧ (0 ≤ from9 ∧ from9 ≤ 12) ∧ (0 ≤ wide ∧ wide ≤ 4)) ∧ ∀ h', ab_cov h' a = some (P.1, covAddL row wide.toNat from9 P.2) → ab_fr h h' (a :: [P.1]) → K (none) h'
  | _ => False
theorem mo_X0_addSlate : ab_mo Tr_X0_addSlate := by
  intro as h K K' hk ht
  unfold Tr_X0_addSlate at ht ⊢
  split at ht
  · exact ab_so_mo (fun P q => ⟨q.1, fun h' e1 e2 => hk _ _ (q.2 h' e1 e2)⟩) ht
  · exact ht.elim
def ca_X0_addSlate : Nat → Option ACS := ab_lk [(21, (0, 0, 3, 0, 0, Tr_X0_coverOne))]
theorem ca_X0_addSlate_21 : ca_X0_addSlate 21 = some (0, 0, 3, 0, 0, Tr_X0_coverOne) := rfl
theorem cm_X0_addSlate : ∀ i q, ca_X0_addSlate i = some q → ab_moq i q := ab_lk_all (ab_all_c mo_X0_coverOne (ab_all_n))
set_option maxRecDepth 100000 in
set_option maxHeartbeats 2000000 in
theorem sem_X0_addSlate (base : Nat) : ab_Sem tbX0 lw_ts base cX0_addSlate ca_X0_addSlate 0 5 0 0 (fun as => ab_en as 5) Tr_X0_addSlate := by
  intro as h K hT V hV
  unfold Tr_X0_addSlate at hT
  split at hT
  · rename_i a row from9 wide
    obtain ⟨P, hP, hs, hK⟩ := ab_so_el hT
    obtain ⟨n0, f⟩ := P
    have hP' := hP
    obtain ⟨hB, nd, (c : h a = some (.inl (0, [.inr (.inl (some n0))]))), (c0 : h n0 = some (.inr (.inl (1, 96, f))))⟩ := cov_el hP
    try dsimp only at hK hs
    show V 0 [some (.inr (.inl (some a))), some (.inl row), some (.inl from9), some (.inl wide), none] [] h 0 0
    have loop : ∀ (n : Nat) (x : Int) (h1 : AH) (f1 : Int → Int), x + n = from9 + wide → 0 ≤ x → ab_cov h1 a = some (n0, f1) → ab_fr h h1 [a, n0] → covAddL row n x f1 = covAddL row wide.toNat from9 f → V 3 [some (.inr (.inl (some a))), some (.inl row), some (.inl from9), some (.inl wide), some (.inl x)] [] h1 0 0 := by
      intro n
      induction n with
      | zero =>
        intro x h1 f1 hx h0 hP1 fr hr
        have he : from9 + wide ≤ x := by omega
        simp only [covAddL] at hr
        rw [← hr] at hK
        have hk2 := hK h1 hP1 fr
        refine hV (fun p => p == 3) 80 _ _ _ _ _ _ ?_
        simp only [he, bI_in, bI_0, bI_1, bI_t, bI_f, bI_01, ae_aload_n, ae_goto, ae_iadd, ae_iconst, ae_if_icmp, ae_iinc, ae_iload, ae_iload_n, ae_invokevirtual, ae_istore, ae_isub, ae_return_, dX0_addSlate_0, dX0_addSlate_1, dX0_addSlate_3, dX0_addSlate_5, dX0_addSlate_6, dX0_addSlate_7, dX0_addSlate_8, dX0_addSlate_11, dX0_addSlate_12, dX0_addSlate_14, dX0_addSlate_15, dX0_addSlate_18, dX0_addSlate_19, dX0_addSlate_21, dX0_addSlate_22, dX0_addSlate_23, dX0_addSlate_24, dX0_addSlate_27, dX0_addSlate_30, dX0_addSlate_33, ca_X0_addSlate_21, ab_wp0, ab_wps, ab_stp, ab_g, ab_st, ab_k2, ab_cl, ab_pop, ab_sz, ab_2, ab_ret, ab_f4, ab_tg, ab_I, ab_II, ab_A, ab_Rf, ab_VR, ab_IR, ab_VIR, ab_1, ab_LL, ab_DD, ab_ob, ab_pr, ab_qr, ab_ln, ab_so, ab_vI, ab_vA, ab_vD, ab_vL, ab_v2, ab_c, ab_fit, ab_rv, ab_tsw, ab_lsw, ab_up_eq, Fin.isValue, ab_f0, ab_f1, ab_f2, ab_f3, List.getElem?_cons_zero, List.getElem?_cons_succ, List.set_cons_zero, List.set_cons_succ, List.length_cons, List.length_nil, List.size_toArray, List.head?_cons, List.tail_cons, Option.map_some, cond_true, cond_false, true_and, and_true, false_and, and_false, not_true_eq_false, not_false_eq_true, true_imp_iff, false_imp_iff, if_true, if_false, ite_true, ite_false, ↓reduceIte, Nat.reduceAdd, Nat.reduceEqDiff, Nat.reduceLeDiff, Nat.reduceLT, Nat.reduceBEq, Nat.reduceBNe, Int.reduceAdd, Int.reduceNeg, Int.reduceSub, Int.reduceLE, Int.reduceLT, Int.reduceToNat, Int.reduceEq, Int.reduceMul, Int.cast_ofNat_Int, Nat.zero_add, Nat.add_zero, Nat.le_refl, eq_self, ne_eq, reduceCtorEq, or_true, true_or, or_false, false_or, Bool.or_true, Bool.or_false, Bool.true_or, Bool.false_or, Nat.zero_le, Int.le_refl, Int.ofNat_zero, Int.ofNat_one, Bool.false_eq_true]
        simp only [ab_in]
        (repeat' (first | intro _ | refine And.intro ?_ ?_)) <;> (first | exact hk2 | contradiction | omega | (exfalso; omega))
      | succ n ih =>
        intro x h1 f1 hx h0 hP1 fr hr
        have he : ¬ from9 + wide ≤ x := by omega
        simp only [covAddL] at hr
        obtain ⟨-, -, d, -⟩ := cov_el hP1
        dsimp only at d
        have a2 : ∀ h3, ab_cov h3 a = some (n0, covOneF (covOneF f1 x row) x (row - 1)) → ab_fr h h3 [a, n0] → V 27 [some (.inr (.inl (some a))), some (.inl row), some (.inl from9), some (.inl wide), some (.inl x)] [] h3 0 0 := by
          intro h3 hP3 fr3
          have ih1 := ih (x + 1) h3 _ (by omega) (by omega) hP3 fr3 hr
          refine hV (fun p => p == 3) 80 _ _ _ _ _ _ ?_
          simp only [ae_goto, ae_iinc, dX0_addSlate_27, dX0_addSlate_30, ca_X0_addSlate_21, ab_wp0, ab_wps, ab_stp, ab_g, ab_st, ab_k2, ab_cl, ab_pop, ab_sz, ab_2, ab_ret, ab_f4, ab_tg, ab_I, ab_II, ab_A, ab_Rf, ab_VR, ab_IR, ab_VIR, ab_1, ab_LL, ab_DD, ab_ob, ab_pr, ab_qr, ab_ln, ab_so, ab_vI, ab_vA, ab_vD, ab_vL, ab_v2, ab_c, ab_fit, ab_rv, ab_tsw, ab_lsw, ab_up_eq, Fin.isValue, ab_f0, ab_f1, ab_f2, ab_f3, List.getElem?_cons_zero, List.getElem?_cons_succ, List.set_cons_zero, List.set_cons_succ, List.length_cons, List.length_nil, List.size_toArray, List.head?_cons, List.tail_cons, Option.map_some, cond_true, cond_false, true_and, and_true, false_and, and_false, not_true_eq_false, not_false_eq_true, true_imp_iff, false_imp_iff, if_true, if_false, ite_true, ite_false, ↓reduceIte, Nat.reduceAdd, Nat.reduceEqDiff, Nat.reduceLeDiff, Nat.reduceLT, Nat.reduceBEq, Nat.reduceBNe, Int.reduceAdd, Int.reduceNeg, Int.reduceSub, Int.reduceLE, Int.reduceLT, Int.reduceToNat, Int.reduceEq, Int.reduceMul, Int.cast_ofNat_Int, Nat.zero_add, Nat.add_zero, Nat.le_refl, eq_self, ne_eq, reduceCtorEq, or_true, true_or, or_false, false_or, Bool.or_true, Bool.or_false, Bool.true_or, Bool.false_or, Nat.zero_le, Int.le_refl, Int.ofNat_zero, Int.ofNat_one, Bool.false_eq_true]
          exact ih1
        have a1 : ∀ h2, ab_cov h2 a = some (n0, covOneF f1 x row) → ab_fr h h2 [a, n0] → V 18 [some (.inr (.inl (some a))), some (.inl row), some (.inl from9), some (.inl wide), some (.inl x)] [] h2 0 0 := by
          intro h2 hP2 fr2
          obtain ⟨-, -, e9, -⟩ := cov_el hP2
          dsimp only at e9
          refine hV (fun p => bif p == 3 then true else p == 27) 80 _ _ _ _ _ _ ?_
          simp only [e9, hP2, bI_in, bI_0, bI_1, bI_t, bI_f, bI_01, Tr_X0_coverOne, ae_aload_n, ae_iconst, ae_iload, ae_iload_n, ae_invokevirtual, ae_isub, dX0_addSlate_18, dX0_addSlate_19, dX0_addSlate_21, dX0_addSlate_22, dX0_addSlate_23, dX0_addSlate_24, ca_X0_addSlate_21, ab_wp0, ab_wps, ab_stp, ab_g, ab_st, ab_k2, ab_cl, ab_pop, ab_sz, ab_2, ab_ret, ab_f4, ab_tg, ab_I, ab_II, ab_A, ab_Rf, ab_VR, ab_IR, ab_VIR, ab_1, ab_LL, ab_DD, ab_ob, ab_pr, ab_qr, ab_ln, ab_so, ab_vI, ab_vA, ab_vD, ab_vL, ab_v2, ab_c, ab_fit, ab_rv, ab_tsw, ab_lsw, ab_up_eq, Fin.isValue, ab_f0, ab_f1, ab_f2, ab_f3, List.getElem?_cons_zero, List.getElem?_cons_succ, List.set_cons_zero, List.set_cons_succ, List.length_cons, List.length_nil, List.size_toArray, List.head?_cons, List.tail_cons, Option.map_some, cond_true, cond_false, true_and, and_true, false_and, and_false, not_true_eq_false, not_false_eq_true, true_imp_iff, false_imp_iff, if_true, if_false, ite_true, ite_false, ↓reduceIte, Nat.reduceAdd, Nat.reduceEqDiff, Nat.reduceLeDiff, Nat.reduceLT, Nat.reduceBEq, Nat.reduceBNe, Int.reduceAdd, Int.reduceNeg, Int.reduceSub, Int.reduceLE, Int.reduceLT, Int.reduceToNat, Int.reduceEq, Int.reduceMul, Int.cast_ofNat_Int, Nat.zero_add, Nat.add_zero, Nat.le_refl, eq_self, ne_eq, reduceCtorEq, or_true, true_or, or_false, false_or, Bool.or_true, Bool.or_false, Bool.true_or, Bool.false_or, Nat.zero_le, Int.le_refl, Int.ofNat_zero, Int.ofNat_one, Bool.false_eq_true]
          simp only [ab_in]
          (repeat' (first | intro _ | refine And.intro ?_ ?_)) <;> (first | exact a2 _ (by assumption) (fr2.tr (by assumption)) | contradiction | omega | (exfalso; omega))
        refine hV (fun p => bif p == 3 then true else p == 18) 80 _ _ _ _ _ _ ?_
        simp only [d, he, hP1, bI_in, bI_0, bI_1, bI_t, bI_f, bI_01, Tr_X0_coverOne, ae_aload_n, ae_iadd, ae_if_icmp, ae_iload, ae_iload_n, ae_invokevirtual, ae_istore, dX0_addSlate_0, dX0_addSlate_1, dX0_addSlate_3, dX0_addSlate_5, dX0_addSlate_6, dX0_addSlate_7, dX0_addSlate_8, dX0_addSlate_11, dX0_addSlate_12, dX0_addSlate_14, dX0_addSlate_15, ca_X0_addSlate_21, ab_wp0, ab_wps, ab_stp, ab_g, ab_st, ab_k2, ab_cl, ab_pop, ab_sz, ab_2, ab_ret, ab_f4, ab_tg, ab_I, ab_II, ab_A, ab_Rf, ab_VR, ab_IR, ab_VIR, ab_1, ab_LL, ab_DD, ab_ob, ab_pr, ab_qr, ab_ln, ab_so, ab_vI, ab_vA, ab_vD, ab_vL, ab_v2, ab_c, ab_fit, ab_rv, ab_tsw, ab_lsw, ab_up_eq, Fin.isValue, ab_f0, ab_f1, ab_f2, ab_f3, List.getElem?_cons_zero, List.getElem?_cons_succ, List.set_cons_zero, List.set_cons_succ, List.length_cons, List.length_nil, List.size_toArray, List.head?_cons, List.tail_cons, Option.map_some, cond_true, cond_false, true_and, and_true, false_and, and_false, not_true_eq_false, not_false_eq_true, true_imp_iff, false_imp_iff, if_true, if_false, ite_true, ite_false, ↓reduceIte, Nat.reduceAdd, Nat.reduceEqDiff, Nat.reduceLeDiff, Nat.reduceLT, Nat.reduceBEq, Nat.reduceBNe, Int.reduceAdd, Int.reduceNeg, Int.reduceSub, Int.reduceLE, Int.reduceLT, Int.reduceToNat, Int.reduceEq, Int.reduceMul, Int.cast_ofNat_Int, Nat.zero_add, Nat.add_zero, Nat.le_refl, eq_self, ne_eq, reduceCtorEq, or_true, true_or, or_false, false_or, Bool.or_true, Bool.or_false, Bool.true_or, Bool.false_or, Nat.zero_le, Int.le_refl, Int.ofNat_zero, Int.ofNat_one, Bool.false_eq_true]
        simp only [ab_in]
        (repeat' (first | intro _ | refine And.intro ?_ ?_)) <;> (first | exact a1 _ (by assumption) (fr.tr (by assumption)) | contradiction | omega | (exfalso; omega))
    have l0 := loop wide.toNat from9 h f (by omega) (by omega) hP ab_fr.rf rfl
    refine hV (fun p => p == 3) 80 _ _ _ _ _ _ ?_
    simp only [bI_in, bI_0, bI_1, bI_t, bI_f, bI_01, ae_aload_n, ae_goto, ae_iadd, ae_iconst, ae_if_icmp, ae_iinc, ae_iload, ae_iload_n, ae_invokevirtual, ae_istore, ae_isub, ae_return_, dX0_addSlate_0, dX0_addSlate_1, dX0_addSlate_3, dX0_addSlate_5, dX0_addSlate_6, dX0_addSlate_7, dX0_addSlate_8, dX0_addSlate_11, dX0_addSlate_12, dX0_addSlate_14, dX0_addSlate_15, dX0_addSlate_18, dX0_addSlate_19, dX0_addSlate_21, dX0_addSlate_22, dX0_addSlate_23, dX0_addSlate_24, dX0_addSlate_27, dX0_addSlate_30, dX0_addSlate_33, ca_X0_addSlate_21, ab_wp0, ab_wps, ab_stp, ab_g, ab_st, ab_k2, ab_cl, ab_pop, ab_sz, ab_2, ab_ret, ab_f4, ab_tg, ab_I, ab_II, ab_A, ab_Rf, ab_VR, ab_IR, ab_VIR, ab_1, ab_LL, ab_DD, ab_ob, ab_pr, ab_qr, ab_ln, ab_so, ab_vI, ab_vA, ab_vD, ab_vL, ab_v2, ab_c, ab_fit, ab_rv, ab_tsw, ab_lsw, ab_up_eq, Fin.isValue, ab_f0, ab_f1, ab_f2, ab_f3, List.getElem?_cons_zero, List.getElem?_cons_succ, List.set_cons_zero, List.set_cons_succ, List.length_cons, List.length_nil, List.size_toArray, List.head?_cons, List.tail_cons, Option.map_some, cond_true, cond_false, true_and, and_true, false_and, and_false, not_true_eq_false, not_false_eq_true, true_imp_iff, false_imp_iff, if_true, if_false, ite_true, ite_false, ↓reduceIte, Nat.reduceAdd, Nat.reduceEqDiff, Nat.reduceLeDiff, Nat.reduceLT, Nat.reduceBEq, Nat.reduceBNe, Int.reduceAdd, Int.reduceNeg, Int.reduceSub, Int.reduceLE, Int.reduceLT, Int.reduceToNat, Int.reduceEq, Int.reduceMul, Int.cast_ofNat_Int, Nat.zero_add, Nat.add_zero, Nat.le_refl, eq_self, ne_eq, reduceCtorEq, or_true, true_or, or_false, false_or, Bool.or_true, Bool.or_false, Bool.true_or, Bool.false_or, Nat.zero_le, Int.le_refl, Int.ofNat_zero, Int.ofNat_one, Bool.false_eq_true]
    exact l0
  · exact hT.elim
set_option maxRecDepth 100000 in
theorem con_X0_addSlate (l : Launch) (D : va_G) (ty : Nat → ClassId) (base : Nat) : ab_Con l D vwCl ty lw_ts base lw_wd yX0_addSlate cX0_addSlate 5 none 2 43 0 0 Tr_X0_addSlate :=
  ab_con_of (own := RX0) (rt := 0) (tb := tbX0) (ini := false) (ca := ca_X0_addSlate) (by decide +kernel) rfl (fun h => by cases h) rfl lw_wd_ok wtbX0 lw_ar cm_X0_addSlate
    (fun p e R s m args below meth c K hcx => by
      obtain ⟨hx, hb, hml, hown, hF, rfl⟩ := hcx
      exact ab_lk_all (ab_all_c (ab_tc_V hx hb hml hown lw_wd_ok hF ⟨rfl, rfl⟩ (con_X0_coverOne l D ty base) rfl (lw_wi (by decide +kernel) (by decide +kernel)) (lw_wi (by decide +kernel) (by decide +kernel)) (lw_wi (by decide +kernel) (by decide +kernel)) (lw_wi (by decide +kernel) (by decide +kernel)) (lw_wi (by decide +kernel) (by decide +kernel)) (by decide +kernel) ⟨by decide, by decide⟩) (ab_all_n)))
    (by intro as h K ht; unfold Tr_X0_addSlate at ht; split at ht <;> first | exact ht.elim | exact Nat.le_of_ble_eq_true rfl) (sem_X0_addSlate base)
noncomputable def Tr_X0_readFrom : ATr := fun as h K => match as with
  | [.inr (.inl (some a)), .inr (.inl (some b))] => ab_so (ab_cov h a) fun P => ab_so (ab_roof h b) fun Q => ∀ h', ab_cov h' a = some (P.1, rdL Q.2 P.2 96) → ab_fr h h' (a :: [P.1]) → K (none) h'
  | _ => False
theorem mo_X0_readFrom : ab_mo Tr_X0_readFrom := by
  intro as h K K' hk ht
  unfold Tr_X0_readFrom at ht ⊢
  split at ht
  · exact ab_so_mo (fun P q => ab_so_mo (fun Q q2 => fun h' e1 e2 => hk _ _ (q2 h' e1 e2)) q) ht
  · exact ht.elim
def ca_X0_readFrom : Nat → Option ACS := ab_lk [(15, (0, 1, 3, 0, 0, Tr_X1_isCovered))]
theorem ca_X0_readFrom_15 : ca_X0_readFrom 15 = some (0, 1, 3, 0, 0, Tr_X1_isCovered) := rfl
theorem cm_X0_readFrom : ∀ i q, ca_X0_readFrom i = some q → ab_moq i q := ab_lk_all (ab_all_c mo_X1_isCovered (ab_all_n))
set_option maxRecDepth 100000 in
set_option maxHeartbeats 2000000 in
theorem sem_X0_readFrom (base : Nat) : ab_Sem tbX0 lw_ts base cX0_readFrom ca_X0_readFrom 0 4 0 0 (fun as => ab_en as 4) Tr_X0_readFrom := by
  intro as h K hT V hV
  unfold Tr_X0_readFrom at hT
  split at hT
  · rename_i a b
    obtain ⟨⟨n0, f⟩, hP, hT2⟩ := ab_so_el hT
    obtain ⟨⟨ns, S⟩, hQ, hK⟩ := ab_so_el hT2
    dsimp only at hK
    have hdj := cov_roof hP hQ
    obtain ⟨hB, nd, -, -⟩ := cov_el hP
    dsimp only at hB nd hdj
    show V 0 [some (.inr (.inl (some a))), some (.inr (.inl (some b))), none, none] [] h 0 0
    have inner : ∀ (y : Int), 0 ≤ y → y < 8 → (∀ h2, ab_cov h2 a = some (n0, rdL S f (12 * y + 12)) → ab_fr h h2 [a, n0] → V 39 [some (.inr (.inl (some a))), some (.inr (.inl (some b))), some (.inl y), some (.inl 12)] [] h2 0 0) → ∀ (n : Nat) (x : Int) (h1 : AH), x + n = 12 → 0 ≤ x → ab_cov h1 a = some (n0, rdL S f (12 * y + x)) → ab_fr h h1 [a, n0] → V 10 [some (.inr (.inl (some a))), some (.inr (.inl (some b))), some (.inl y), some (.inl x)] [] h1 0 0 := by
      intro y hy0 hy hk2 n
      induction n with
      | zero =>
        intro x h1 hx h0 hP1 fr
        have he : x = 12 := by omega
        subst he
        have hk3 := hk2 h1 hP1 fr
        refine hV (fun p => bif p == 10 then true else p == 39) 80 _ _ _ _ _ _ ?_
        simp only [bI_in, bI_0, bI_1, bI_t, bI_f, bI_01, ae_aload_n, ae_bastore, ae_bipush, ae_getfield, ae_goto, ae_iadd, ae_iconst, ae_if_icmp, ae_iinc, ae_iload_n, ae_imul, ae_invokevirtual, ae_istore_n, ae_return_, dX0_readFrom_0, dX0_readFrom_1, dX0_readFrom_2, dX0_readFrom_3, dX0_readFrom_5, dX0_readFrom_8, dX0_readFrom_9, dX0_readFrom_10, dX0_readFrom_11, dX0_readFrom_13, dX0_readFrom_16, dX0_readFrom_17, dX0_readFrom_20, dX0_readFrom_22, dX0_readFrom_23, dX0_readFrom_24, dX0_readFrom_25, dX0_readFrom_26, dX0_readFrom_27, dX0_readFrom_28, dX0_readFrom_29, dX0_readFrom_32, dX0_readFrom_33, dX0_readFrom_36, dX0_readFrom_39, dX0_readFrom_42, dX0_readFrom_45, tbX0_g9, ca_X0_readFrom_15, ab_wp0, ab_wps, ab_stp, ab_g, ab_st, ab_k2, ab_cl, ab_pop, ab_sz, ab_2, ab_ret, ab_f4, ab_tg, ab_I, ab_II, ab_A, ab_Rf, ab_VR, ab_IR, ab_VIR, ab_1, ab_LL, ab_DD, ab_ob, ab_pr, ab_qr, ab_ln, ab_so, ab_vI, ab_vA, ab_vD, ab_vL, ab_v2, ab_c, ab_fit, ab_rv, ab_tsw, ab_lsw, ab_up_eq, Fin.isValue, ab_f0, ab_f1, ab_f2, ab_f3, List.getElem?_cons_zero, List.getElem?_cons_succ, List.set_cons_zero, List.set_cons_succ, List.length_cons, List.length_nil, List.size_toArray, List.head?_cons, List.tail_cons, Option.map_some, cond_true, cond_false, true_and, and_true, false_and, and_false, not_true_eq_false, not_false_eq_true, true_imp_iff, false_imp_iff, if_true, if_false, ite_true, ite_false, ↓reduceIte, Nat.reduceAdd, Nat.reduceEqDiff, Nat.reduceLeDiff, Nat.reduceLT, Nat.reduceBEq, Nat.reduceBNe, Int.reduceAdd, Int.reduceNeg, Int.reduceSub, Int.reduceLE, Int.reduceLT, Int.reduceToNat, Int.reduceEq, Int.reduceMul, Int.cast_ofNat_Int, Nat.zero_add, Nat.add_zero, Nat.le_refl, eq_self, ne_eq, reduceCtorEq, or_true, true_or, or_false, false_or, Bool.or_true, Bool.or_false, Bool.true_or, Bool.false_or, Nat.zero_le, Int.le_refl, Int.ofNat_zero, Int.ofNat_one, Bool.false_eq_true]
        simp only [ab_in]
        (repeat' (first | intro _ | refine And.intro ?_ ?_)) <;> (first | exact hk3 | contradiction | omega | (exfalso; omega))
      | succ n ih =>
        intro x h1 hx h0 hP1 fr
        have he : ¬ 12 ≤ x := by omega
        obtain ⟨-, -, d, d0⟩ := cov_el hP1
        dsimp only at d d0
        have hQ1 := roof_fr hQ (h' := h1) (fun q hq => fr q (by have := hdj q hq; simp [this]))
        obtain ⟨-, m0, m1, m2, m3, m4, m5, m6, m7, m8, -, -, e9, -⟩ := roof_el hQ1
        have ih1 := ih (x + 1) (ab_up h1 n0 (.inr (.inl (1, 96, rdL S f (12 * y + (x + 1)))))) (by omega) (by omega) (cov_of ⟨rdL_r hB _, nd, by rw [ab_up_ap, if_neg nd]; exact d, by rw [ab_up_ap, if_pos rfl]⟩) (fr.up (by simp))
        rw [← rdL_s S f x y (by omega) hy0] at ih1
        refine hV (fun p => bif p == 10 then true else p == 39) 80 _ _ _ _ _ _ ?_
        simp only [d, d0, e9, he, hQ1, bI_in, bI_0, bI_1, bI_t, bI_f, bI_01, Tr_X1_isCovered, ae_aload_n, ae_bastore, ae_bipush, ae_getfield, ae_goto, ae_iadd, ae_iconst, ae_if_icmp, ae_iinc, ae_iload_n, ae_imul, ae_invokevirtual, ae_istore_n, ae_return_, dX0_readFrom_0, dX0_readFrom_1, dX0_readFrom_2, dX0_readFrom_3, dX0_readFrom_5, dX0_readFrom_8, dX0_readFrom_9, dX0_readFrom_10, dX0_readFrom_11, dX0_readFrom_13, dX0_readFrom_16, dX0_readFrom_17, dX0_readFrom_20, dX0_readFrom_22, dX0_readFrom_23, dX0_readFrom_24, dX0_readFrom_25, dX0_readFrom_26, dX0_readFrom_27, dX0_readFrom_28, dX0_readFrom_29, dX0_readFrom_32, dX0_readFrom_33, dX0_readFrom_36, dX0_readFrom_39, dX0_readFrom_42, dX0_readFrom_45, tbX0_g9, ca_X0_readFrom_15, ab_wp0, ab_wps, ab_stp, ab_g, ab_st, ab_k2, ab_cl, ab_pop, ab_sz, ab_2, ab_ret, ab_f4, ab_tg, ab_I, ab_II, ab_A, ab_Rf, ab_VR, ab_IR, ab_VIR, ab_1, ab_LL, ab_DD, ab_ob, ab_pr, ab_qr, ab_ln, ab_so, ab_vI, ab_vA, ab_vD, ab_vL, ab_v2, ab_c, ab_fit, ab_rv, ab_tsw, ab_lsw, ab_up_eq, Fin.isValue, ab_f0, ab_f1, ab_f2, ab_f3, List.getElem?_cons_zero, List.getElem?_cons_succ, List.set_cons_zero, List.set_cons_succ, List.length_cons, List.length_nil, List.size_toArray, List.head?_cons, List.tail_cons, Option.map_some, cond_true, cond_false, true_and, and_true, false_and, and_false, not_true_eq_false, not_false_eq_true, true_imp_iff, false_imp_iff, if_true, if_false, ite_true, ite_false, ↓reduceIte, Nat.reduceAdd, Nat.reduceEqDiff, Nat.reduceLeDiff, Nat.reduceLT, Nat.reduceBEq, Nat.reduceBNe, Int.reduceAdd, Int.reduceNeg, Int.reduceSub, Int.reduceLE, Int.reduceLT, Int.reduceToNat, Int.reduceEq, Int.reduceMul, Int.cast_ofNat_Int, Nat.zero_add, Nat.add_zero, Nat.le_refl, eq_self, ne_eq, reduceCtorEq, or_true, true_or, or_false, false_or, Bool.or_true, Bool.or_false, Bool.true_or, Bool.false_or, Nat.zero_le, Int.le_refl, Int.ofNat_zero, Int.ofNat_one, Bool.false_eq_true]
        simp only [ab_in]
        (repeat' (first | intro _ | refine And.intro ?_ ?_)) <;> (first | exact ih1 | exact (Bool.eq_false_or_eq_true _).symm | contradiction | omega | (exfalso; omega))
    have outer : ∀ (n : Nat) (y : Int) (h1 : AH) (w : Option AV), y + n = 8 → 0 ≤ y → ab_cov h1 a = some (n0, rdL S f (12 * y)) → ab_fr h h1 [a, n0] → V 2 [some (.inr (.inl (some a))), some (.inr (.inl (some b))), some (.inl y), w] [] h1 0 0 := by
      intro n
      induction n with
      | zero =>
        intro y h1 w hy h0 hP1 fr
        have he : y = 8 := by omega
        subst he
        have hk3 := hK h1 hP1 fr
        refine hV (fun p => p == 2) 80 _ _ _ _ _ _ ?_
        simp only [bI_in, bI_0, bI_1, bI_t, bI_f, bI_01, ae_aload_n, ae_bastore, ae_bipush, ae_getfield, ae_goto, ae_iadd, ae_iconst, ae_if_icmp, ae_iinc, ae_iload_n, ae_imul, ae_invokevirtual, ae_istore_n, ae_return_, dX0_readFrom_0, dX0_readFrom_1, dX0_readFrom_2, dX0_readFrom_3, dX0_readFrom_5, dX0_readFrom_8, dX0_readFrom_9, dX0_readFrom_10, dX0_readFrom_11, dX0_readFrom_13, dX0_readFrom_16, dX0_readFrom_17, dX0_readFrom_20, dX0_readFrom_22, dX0_readFrom_23, dX0_readFrom_24, dX0_readFrom_25, dX0_readFrom_26, dX0_readFrom_27, dX0_readFrom_28, dX0_readFrom_29, dX0_readFrom_32, dX0_readFrom_33, dX0_readFrom_36, dX0_readFrom_39, dX0_readFrom_42, dX0_readFrom_45, tbX0_g9, ca_X0_readFrom_15, ab_wp0, ab_wps, ab_stp, ab_g, ab_st, ab_k2, ab_cl, ab_pop, ab_sz, ab_2, ab_ret, ab_f4, ab_tg, ab_I, ab_II, ab_A, ab_Rf, ab_VR, ab_IR, ab_VIR, ab_1, ab_LL, ab_DD, ab_ob, ab_pr, ab_qr, ab_ln, ab_so, ab_vI, ab_vA, ab_vD, ab_vL, ab_v2, ab_c, ab_fit, ab_rv, ab_tsw, ab_lsw, ab_up_eq, Fin.isValue, ab_f0, ab_f1, ab_f2, ab_f3, List.getElem?_cons_zero, List.getElem?_cons_succ, List.set_cons_zero, List.set_cons_succ, List.length_cons, List.length_nil, List.size_toArray, List.head?_cons, List.tail_cons, Option.map_some, cond_true, cond_false, true_and, and_true, false_and, and_false, not_true_eq_false, not_false_eq_true, true_imp_iff, false_imp_iff, if_true, if_false, ite_true, ite_false, ↓reduceIte, Nat.reduceAdd, Nat.reduceEqDiff, Nat.reduceLeDiff, Nat.reduceLT, Nat.reduceBEq, Nat.reduceBNe, Int.reduceAdd, Int.reduceNeg, Int.reduceSub, Int.reduceLE, Int.reduceLT, Int.reduceToNat, Int.reduceEq, Int.reduceMul, Int.cast_ofNat_Int, Nat.zero_add, Nat.add_zero, Nat.le_refl, eq_self, ne_eq, reduceCtorEq, or_true, true_or, or_false, false_or, Bool.or_true, Bool.or_false, Bool.true_or, Bool.false_or, Nat.zero_le, Int.le_refl, Int.ofNat_zero, Int.ofNat_one, Bool.false_eq_true]
        simp only [ab_in]
        (repeat' (first | intro _ | refine And.intro ?_ ?_)) <;> (first | exact hk3 | contradiction | omega | (exfalso; omega))
      | succ n ih =>
        intro y h1 w hy h0 hP1 fr
        have he : ¬ 8 ≤ y := by omega
        have i1 := inner y h0 (by omega) (by
          intro h2 hP2 fr2
          have ih1 := ih (y + 1) h2 (some (.inl 12)) (by omega) (by omega) (by rw [show 12 * (y + 1) = 12 * y + 12 by omega]; exact hP2) fr2
          refine hV (fun p => p == 2) 80 _ _ _ _ _ _ ?_
          simp only [bI_in, bI_0, bI_1, bI_t, bI_f, bI_01, ae_aload_n, ae_bastore, ae_bipush, ae_getfield, ae_goto, ae_iadd, ae_iconst, ae_if_icmp, ae_iinc, ae_iload_n, ae_imul, ae_invokevirtual, ae_istore_n, ae_return_, dX0_readFrom_0, dX0_readFrom_1, dX0_readFrom_2, dX0_readFrom_3, dX0_readFrom_5, dX0_readFrom_8, dX0_readFrom_9, dX0_readFrom_10, dX0_readFrom_11, dX0_readFrom_13, dX0_readFrom_16, dX0_readFrom_17, dX0_readFrom_20, dX0_readFrom_22, dX0_readFrom_23, dX0_readFrom_24, dX0_readFrom_25, dX0_readFrom_26, dX0_readFrom_27, dX0_readFrom_28, dX0_readFrom_29, dX0_readFrom_32, dX0_readFrom_33, dX0_readFrom_36, dX0_readFrom_39, dX0_readFrom_42, dX0_readFrom_45, tbX0_g9, ca_X0_readFrom_15, ab_wp0, ab_wps, ab_stp, ab_g, ab_st, ab_k2, ab_cl, ab_pop, ab_sz, ab_2, ab_ret, ab_f4, ab_tg, ab_I, ab_II, ab_A, ab_Rf, ab_VR, ab_IR, ab_VIR, ab_1, ab_LL, ab_DD, ab_ob, ab_pr, ab_qr, ab_ln, ab_so, ab_vI, ab_vA, ab_vD, ab_vL, ab_v2, ab_c, ab_fit, ab_rv, ab_tsw, ab_lsw, ab_up_eq, Fin.isValue, ab_f0, ab_f1, ab_f2, ab_f3, List.getElem?_cons_zero, List.getElem?_cons_succ, List.set_cons_zero, List.set_cons_succ, List.length_cons, List.length_nil, List.size_toArray, List.head?_cons, List.tail_cons, Option.map_some, cond_true, cond_false, true_and, and_true, false_and, and_false, not_true_eq_false, not_false_eq_true, true_imp_iff, false_imp_iff, if_true, if_false, ite_true, ite_false, ↓reduceIte, Nat.reduceAdd, Nat.reduceEqDiff, Nat.reduceLeDiff, Nat.reduceLT, Nat.reduceBEq, Nat.reduceBNe, Int.reduceAdd, Int.reduceNeg, Int.reduceSub, Int.reduceLE, Int.reduceLT, Int.reduceToNat, Int.reduceEq, Int.reduceMul, Int.cast_ofNat_Int, Nat.zero_add, Nat.add_zero, Nat.le_refl, eq_self, ne_eq, reduceCtorEq, or_true, true_or, or_false, false_or, Bool.or_true, Bool.or_false, Bool.true_or, Bool.false_or, Nat.zero_le, Int.le_refl, Int.ofNat_zero, Int.ofNat_one, Bool.false_eq_true]
          exact ih1) 12 0 h1 (by omega) (by omega) (by rw [Int.add_zero]; exact hP1) fr
        cases w
        all_goals (refine hV (fun p => bif p == 2 then true else p == 10) 80 _ _ _ _ _ _ ?_; simp only [he, bI_in, bI_0, bI_1, bI_t, bI_f, bI_01, ae_aload_n, ae_bastore, ae_bipush, ae_getfield, ae_goto, ae_iadd, ae_iconst, ae_if_icmp, ae_iinc, ae_iload_n, ae_imul, ae_invokevirtual, ae_istore_n, ae_return_, dX0_readFrom_0, dX0_readFrom_1, dX0_readFrom_2, dX0_readFrom_3, dX0_readFrom_5, dX0_readFrom_8, dX0_readFrom_9, dX0_readFrom_10, dX0_readFrom_11, dX0_readFrom_13, dX0_readFrom_16, dX0_readFrom_17, dX0_readFrom_20, dX0_readFrom_22, dX0_readFrom_23, dX0_readFrom_24, dX0_readFrom_25, dX0_readFrom_26, dX0_readFrom_27, dX0_readFrom_28, dX0_readFrom_29, dX0_readFrom_32, dX0_readFrom_33, dX0_readFrom_36, dX0_readFrom_39, dX0_readFrom_42, dX0_readFrom_45, tbX0_g9, ca_X0_readFrom_15, ab_wp0, ab_wps, ab_stp, ab_g, ab_st, ab_k2, ab_cl, ab_pop, ab_sz, ab_2, ab_ret, ab_f4, ab_tg, ab_I, ab_II, ab_A, ab_Rf, ab_VR, ab_IR, ab_VIR, ab_1, ab_LL, ab_DD, ab_ob, ab_pr, ab_qr, ab_ln, ab_so, ab_vI, ab_vA, ab_vD, ab_vL, ab_v2, ab_c, ab_fit, ab_rv, ab_tsw, ab_lsw, ab_up_eq, Fin.isValue, ab_f0, ab_f1, ab_f2, ab_f3, List.getElem?_cons_zero, List.getElem?_cons_succ, List.set_cons_zero, List.set_cons_succ, List.length_cons, List.length_nil, List.size_toArray, List.head?_cons, List.tail_cons, Option.map_some, cond_true, cond_false, true_and, and_true, false_and, and_false, not_true_eq_false, not_false_eq_true, true_imp_iff, false_imp_iff, if_true, if_false, ite_true, ite_false, ↓reduceIte, Nat.reduceAdd, Nat.reduceEqDiff, Nat.reduceLeDiff, Nat.reduceLT, Nat.reduceBEq, Nat.reduceBNe, Int.reduceAdd, Int.reduceNeg, Int.reduceSub, Int.reduceLE, Int.reduceLT, Int.reduceToNat, Int.reduceEq, Int.reduceMul, Int.cast_ofNat_Int, Nat.zero_add, Nat.add_zero, Nat.le_refl, eq_self, ne_eq, reduceCtorEq, or_true, true_or, or_false, false_or, Bool.or_true, Bool.or_false, Bool.true_or, Bool.false_or, Nat.zero_le, Int.le_refl, Int.ofNat_zero, Int.ofNat_one, Bool.false_eq_true]; simp only [ab_in]; (repeat' (first | intro _ | refine And.intro ?_ ?_)) <;> (first | exact i1 | contradiction | omega | (exfalso; omega)))
    have l0 := outer 8 0 h none (by omega) (by omega) (by rw [Int.mul_zero, rdL_0]; exact hP) ab_fr.rf
    refine hV (fun p => p == 2) 80 _ _ _ _ _ _ ?_
    simp only [bI_in, bI_0, bI_1, bI_t, bI_f, bI_01, ae_aload_n, ae_bastore, ae_bipush, ae_getfield, ae_goto, ae_iadd, ae_iconst, ae_if_icmp, ae_iinc, ae_iload_n, ae_imul, ae_invokevirtual, ae_istore_n, ae_return_, dX0_readFrom_0, dX0_readFrom_1, dX0_readFrom_2, dX0_readFrom_3, dX0_readFrom_5, dX0_readFrom_8, dX0_readFrom_9, dX0_readFrom_10, dX0_readFrom_11, dX0_readFrom_13, dX0_readFrom_16, dX0_readFrom_17, dX0_readFrom_20, dX0_readFrom_22, dX0_readFrom_23, dX0_readFrom_24, dX0_readFrom_25, dX0_readFrom_26, dX0_readFrom_27, dX0_readFrom_28, dX0_readFrom_29, dX0_readFrom_32, dX0_readFrom_33, dX0_readFrom_36, dX0_readFrom_39, dX0_readFrom_42, dX0_readFrom_45, tbX0_g9, ca_X0_readFrom_15, ab_wp0, ab_wps, ab_stp, ab_g, ab_st, ab_k2, ab_cl, ab_pop, ab_sz, ab_2, ab_ret, ab_f4, ab_tg, ab_I, ab_II, ab_A, ab_Rf, ab_VR, ab_IR, ab_VIR, ab_1, ab_LL, ab_DD, ab_ob, ab_pr, ab_qr, ab_ln, ab_so, ab_vI, ab_vA, ab_vD, ab_vL, ab_v2, ab_c, ab_fit, ab_rv, ab_tsw, ab_lsw, ab_up_eq, Fin.isValue, ab_f0, ab_f1, ab_f2, ab_f3, List.getElem?_cons_zero, List.getElem?_cons_succ, List.set_cons_zero, List.set_cons_succ, List.length_cons, List.length_nil, List.size_toArray, List.head?_cons, List.tail_cons, Option.map_some, cond_true, cond_false, true_and, and_true, false_and, and_false, not_true_eq_false, not_false_eq_true, true_imp_iff, false_imp_iff, if_true, if_false, ite_true, ite_false, ↓reduceIte, Nat.reduceAdd, Nat.reduceEqDiff, Nat.reduceLeDiff, Nat.reduceLT, Nat.reduceBEq, Nat.reduceBNe, Int.reduceAdd, Int.reduceNeg, Int.reduceSub, Int.reduceLE, Int.reduceLT, Int.reduceToNat, Int.reduceEq, Int.reduceMul, Int.cast_ofNat_Int, Nat.zero_add, Nat.add_zero, Nat.le_refl, eq_self, ne_eq, reduceCtorEq, or_true, true_or, or_false, false_or, Bool.or_true, Bool.or_false, Bool.true_or, Bool.false_or, Nat.zero_le, Int.le_refl, Int.ofNat_zero, Int.ofNat_one, Bool.false_eq_true]
    exact l0
  · exact hT.elim
set_option maxRecDepth 100000 in
theorem con_X0_readFrom (l : Launch) (D : va_G) (ty : Nat → ClassId) (base : Nat) : ab_Con l D vwCl ty lw_ts base lw_wd yX0_readFrom cX0_readFrom 4 none 3 67 0 0 Tr_X0_readFrom :=
  ab_con_of (own := RX0) (rt := 0) (tb := tbX0) (ini := false) (ca := ca_X0_readFrom) (by decide +kernel) rfl (fun h => by cases h) rfl lw_wd_ok wtbX0 lw_ar cm_X0_readFrom
    (fun p e R s m args below meth c K hcx => by
      obtain ⟨hx, hb, hml, hown, hF, rfl⟩ := hcx
      exact ab_lk_all (ab_all_c (ab_tc_V hx hb hml hown lw_wd_ok hF ⟨rfl, rfl⟩ (con_X1_isCovered l D ty base) rfl (lw_wi (by decide +kernel) (by decide +kernel)) (lw_wi (by decide +kernel) (by decide +kernel)) (lw_wi (by decide +kernel) (by decide +kernel)) (lw_wi (by decide +kernel) (by decide +kernel)) (lw_wi (by decide +kernel) (by decide +kernel)) (by decide +kernel) ⟨by decide, by decide⟩) (ab_all_n)))
    (by intro as h K ht; unfold Tr_X0_readFrom at ht; split at ht <;> first | exact ht.elim | exact Nat.le_of_ble_eq_true rfl) (sem_X0_readFrom base)
