/-! ===== SlateRoofs on a fresh object: count and place as digest calls them; share, digest ===== -/
noncomputable def Tr_X3_count : ATr := fun as h K => match as with
  | [.inr (.inl (some a)), .inl what] => ab_so (ab_sr h a) fun P => (P.2 = sv0 ∧ (0 ≤ what ∧ what ≤ 6)) ∧ K (some (.inl 0)) h
  | _ => False
theorem mo_X3_count : ab_mo Tr_X3_count := by
  intro as h K K' hk ht
  unfold Tr_X3_count at ht ⊢
  split at ht
  · exact ab_so_mo (fun P q => ⟨q.1, hk _ _ q.2⟩) ht
  · exact ht.elim
/- -/
set_option maxRecDepth 100000 in
set_option maxHeartbeats 4000000 in
theorem sem_X3_count (base : Nat) : ab_Sem tbX3 lw_ts base cX3_count ca_X3_count 1 2 0 0 (fun as => ab_en as 2) Tr_X3_count := by
  intro as h K hT V hV
  unfold Tr_X3_count at hT
  split at hT
  · rename_i a what
    obtain ⟨⟨⟨⟨r, ns⟩, ⟨t, ms⟩, ⟨c, n⟩, b, q0, q1, q2, q3⟩, v9⟩, hP, ⟨hv9, hs⟩, hK⟩ := ab_so_el hT
    dsimp only at hv9
    subst hv9
    have hA := sr_el hP
    obtain ⟨D, D0, D1, D2, D3, D4⟩ := id hA
    dsimp only [sv0] at D D0 D1 D2 D3
    dsimp only at D4
    try dsimp only at hK hs
    obtain ⟨-, m0, m1, m2, m3, m4, m5, m6, m7, m8, hm9, -, e9, -⟩ := roof_el D0
    rw [r0_laid, r0_there, r0_day, r0_blown] at e9
    show V 0 [some (.inr (.inl (some a))), some (.inl what)] [] h 0 0
    have hu : isUpToF what 6 = true := decide_eq_true hs
    refine hV (fun _ => false) 80 _ _ _ _ _ _ ?_
    simp only [D, D0, e9, hu, bI_in, bI_0, bI_1, bI_t, bI_f, bI_01, r0_laid, r0_there, r0_day, r0_blown, br_known bareR0, br_there bareR0, br_num bareR0, br_rot bareR0, br_cov bareR0, br_free bareR0, br_covPl bareR0, br_crkTh bareR0, br_allRot bareR0, Tr_X3_isUpTo, Tr_X1_crackedThere, Tr_X1_coveredPlaces, Tr_X1_allRot, ae_aload_n, ae_bipush, ae_dup, ae_getfield, ae_ifCond, ae_iload_n, ae_invokespecial, ae_invokestatic, ae_invokevirtual, ae_ireturn, ae_ldc, ae_new, ae_tableswitch, dX3_count_0, dX3_count_1, dX3_count_3, dX3_count_6, dX3_count_9, dX3_count_12, dX3_count_13, dX3_count_15, dX3_count_18, dX3_count_19, dX3_count_20, dX3_count_60, dX3_count_61, dX3_count_64, dX3_count_67, dX3_count_68, dX3_count_69, dX3_count_72, dX3_count_75, dX3_count_76, dX3_count_77, dX3_count_80, dX3_count_83, dX3_count_84, dX3_count_85, dX3_count_88, dX3_count_91, dX3_count_92, dX3_count_93, dX3_count_96, dX3_count_99, dX3_count_100, dX3_count_101, dX3_count_104, dX3_count_107, dX3_count_108, dX3_count_109, dX3_count_112, dX3_count_115, tbX3_g12, tbX3_g139, tbX3_g149, tbX3_g48, tbX3_g52, ca_X3_count_113, ca_X3_count_142, ca_X3_count_146, ca_X3_count_152, ab_wp0, ab_wps, ab_stp, ab_g, ab_st, ab_k2, ab_cl, ab_pop, ab_sz, ab_2, ab_ret, ab_f4, ab_tg, ab_I, ab_II, ab_A, ab_Rf, ab_VR, ab_IR, ab_VIR, ab_1, ab_LL, ab_DD, ab_ob, ab_pr, ab_qr, ab_ln, ab_so, ab_vI, ab_vA, ab_vD, ab_vL, ab_v2, ab_c, ab_fit, ab_rv, ab_tsw, ab_lsw, ab_up_eq, Fin.isValue, ab_f0, ab_f1, ab_f2, ab_f3, List.getElem?_cons_zero, List.getElem?_cons_succ, List.set_cons_zero, List.set_cons_succ, List.length_cons, List.length_nil, List.size_toArray, List.head?_cons, List.tail_cons, Option.map_some, cond_true, cond_false, true_and, and_true, false_and, and_false, not_true_eq_false, not_false_eq_true, true_imp_iff, false_imp_iff, if_true, if_false, ite_true, ite_false, ↓reduceIte, Nat.reduceAdd, Nat.reduceEqDiff, Nat.reduceLeDiff, Nat.reduceLT, Nat.reduceBEq, Nat.reduceBNe, Int.reduceAdd, Int.reduceNeg, Int.reduceSub, Int.reduceLE, Int.reduceLT, Int.reduceToNat, Int.reduceEq, Int.reduceMul, Int.cast_ofNat_Int, Nat.zero_add, Nat.add_zero, Nat.le_refl, eq_self, ne_eq, reduceCtorEq, or_true, true_or, or_false, false_or, Bool.or_true, Bool.or_false, Bool.true_or, Bool.false_or, Nat.zero_le, Int.le_refl, Int.ofNat_zero, Int.ofNat_one, Bool.false_eq_true]
    try simp only [ab_in] at hs ⊢
    (repeat' (first | intro _ | refine And.intro ?_ ?_)) <;> (first | exact hK | exact rfl | contradiction | omega | (exfalso; omega))
  · exact hT.elim
set_option maxRecDepth 100000 in
theorem con_X3_count (l : Launch) (D : va_G) (ty : Nat → ClassId) (base : Nat) : ab_Con l D vwCl ty lw_ts base lw_wd yX3_count cX3_count 2 (some .int) 4 90 0 0 Tr_X3_count :=
  ab_con_of (own := RX3) (rt := 1) (tb := tbX3) (ini := false) (ca := ca_X3_count) (by decide +kernel) rfl (fun h => by cases h) rfl lw_wd_ok wtbX3 lw_ar cm_X3_count
    (fun p e R s m args below meth c K hcx => by
      obtain ⟨hx, hb, hml, hown, hF, rfl⟩ := hcx
      exact ab_lk_all (ab_all_c (ab_tc_S hx hb hml hown lw_wd_ok hF ⟨rfl, rfl⟩ (con_X3_isUpTo l D ty base) (lw_wi (by decide +kernel) (by decide +kernel)) (lw_wi (by decide +kernel) (by decide +kernel)) (lw_wi (by decide +kernel) (by decide +kernel)) (lw_wi (by decide +kernel) (by decide +kernel)) (by decide +kernel) ⟨by decide, by decide⟩) (ab_all_c (ab_tc_V hx hb hml hown lw_wd_ok hF ⟨rfl, rfl⟩ (con_X1_crackedThere l D ty base) rfl (lw_wi (by decide +kernel) (by decide +kernel)) (lw_wi (by decide +kernel) (by decide +kernel)) (lw_wi (by decide +kernel) (by decide +kernel)) (lw_wi (by decide +kernel) (by decide +kernel)) (lw_wi (by decide +kernel) (by decide +kernel)) (by decide +kernel) ⟨by decide, by decide⟩) (ab_all_c (ab_tc_V hx hb hml hown lw_wd_ok hF ⟨rfl, rfl⟩ (con_X1_coveredPlaces l D ty base) rfl (lw_wi (by decide +kernel) (by decide +kernel)) (lw_wi (by decide +kernel) (by decide +kernel)) (lw_wi (by decide +kernel) (by decide +kernel)) (lw_wi (by decide +kernel) (by decide +kernel)) (lw_wi (by decide +kernel) (by decide +kernel)) (by decide +kernel) ⟨by decide, by decide⟩) (ab_all_c (ab_tc_V hx hb hml hown lw_wd_ok hF ⟨rfl, rfl⟩ (con_X1_allRot l D ty base) rfl (lw_wi (by decide +kernel) (by decide +kernel)) (lw_wi (by decide +kernel) (by decide +kernel)) (lw_wi (by decide +kernel) (by decide +kernel)) (lw_wi (by decide +kernel) (by decide +kernel)) (lw_wi (by decide +kernel) (by decide +kernel)) (by decide +kernel) ⟨by decide, by decide⟩) (ab_all_n))))))
    (by intro as h K ht; unfold Tr_X3_count at ht; split at ht <;> first | exact ht.elim | exact Nat.le_of_ble_eq_true rfl) (sem_X3_count base)
noncomputable def Tr_X3_place : ATr := fun as h K => match as with
  | [.inr (.inl (some a)), .inl x, .inl y, .inl what] => ab_so (ab_sr h a) fun P => (P.2 = sv0 ∧ ((0 ≤ x ∧ x < 12 ∧ 0 ≤ y ∧ y < 8) ∧ 0 ≤ what ∧ what ≤ 2)) ∧ K (some (.inl (if what = 0 then -1 else 0))) h
  | _ => False
theorem mo_X3_place : ab_mo Tr_X3_place := by
  intro as h K K' hk ht
  unfold Tr_X3_place at ht ⊢
  split at ht
  · exact ab_so_mo (fun P q => ⟨q.1, hk _ _ q.2⟩) ht
  · exact ht.elim
/- -/
set_option maxRecDepth 100000 in
set_option maxHeartbeats 4000000 in
theorem sem_X3_place (base : Nat) : ab_Sem tbX3 lw_ts base cX3_place ca_X3_place 1 4 0 0 (fun as => ab_en as 4) Tr_X3_place := by
  intro as h K hT V hV
  unfold Tr_X3_place at hT
  split at hT
  · rename_i a x y what
    obtain ⟨⟨⟨⟨r, ns⟩, ⟨t, ms⟩, ⟨c, n⟩, b, q0, q1, q2, q3⟩, v9⟩, hP, ⟨hv9, hs⟩, hK⟩ := ab_so_el hT
    dsimp only at hv9
    subst hv9
    have hA := sr_el hP
    obtain ⟨D, D0, D1, D2, D3, D4⟩ := id hA
    dsimp only [sv0] at D D0 D1 D2 D3
    dsimp only at D4
    try dsimp only at hK hs
    obtain ⟨-, m0, m1, m2, m3, m4, m5, m6, m7, m8, hm9, -, e9, -⟩ := roof_el D0
    rw [r0_laid, r0_there, r0_day, r0_blown] at e9
    show V 0 [some (.inr (.inl (some a))), some (.inl x), some (.inl y), some (.inl what)] [] h 0 0
    have hp : isPlaceF x y = true := decide_eq_true hs.1
    have hu : isUpToF what 2 = true := decide_eq_true hs.2
    have k0 : what = 0 → K (some (.inl (-1))) h := fun q => by rw [if_pos q] at hK; exact hK
    have k1 : ¬ what = 0 → K (some (.inl 0)) h := fun q => by rw [if_neg q] at hK; exact hK
    refine hV (fun _ => false) 80 _ _ _ _ _ _ ?_
    simp only [D, D0, e9, hp, hu, bI_in, bI_0, bI_1, bI_t, bI_f, bI_01, r0_laid, r0_there, r0_day, r0_blown, br_known bareR0, br_there bareR0, br_num bareR0, br_rot bareR0, br_cov bareR0, br_free bareR0, br_covPl bareR0, br_crkTh bareR0, br_allRot bareR0, Tr_X3_isPlace, Tr_X3_isUpTo, Tr_X1_numberAt, Tr_X1_isCovered, Tr_X1_rotAt, ae_aload_n, ae_dup, ae_getfield, ae_goto, ae_iconst, ae_ifCond, ae_iload_n, ae_invokespecial, ae_invokestatic, ae_invokevirtual, ae_ireturn, ae_ldc, ae_lookupswitch, ae_new, dX3_place_0, dX3_place_1, dX3_place_2, dX3_place_5, dX3_place_8, dX3_place_9, dX3_place_10, dX3_place_13, dX3_place_16, dX3_place_19, dX3_place_20, dX3_place_22, dX3_place_25, dX3_place_26, dX3_place_27, dX3_place_52, dX3_place_53, dX3_place_56, dX3_place_57, dX3_place_58, dX3_place_61, dX3_place_62, dX3_place_63, dX3_place_66, dX3_place_67, dX3_place_68, dX3_place_71, dX3_place_74, dX3_place_75, dX3_place_78, dX3_place_79, dX3_place_80, dX3_place_81, dX3_place_84, dX3_place_85, dX3_place_86, dX3_place_89, tbX3_g12, ca_X3_place_94, ca_X3_place_113, ca_X3_place_100, ca_X3_place_134, ca_X3_place_106, ab_wp0, ab_wps, ab_stp, ab_g, ab_st, ab_k2, ab_cl, ab_pop, ab_sz, ab_2, ab_ret, ab_f4, ab_tg, ab_I, ab_II, ab_A, ab_Rf, ab_VR, ab_IR, ab_VIR, ab_1, ab_LL, ab_DD, ab_ob, ab_pr, ab_qr, ab_ln, ab_so, ab_vI, ab_vA, ab_vD, ab_vL, ab_v2, ab_c, ab_fit, ab_rv, ab_tsw, ab_lsw, ab_up_eq, Fin.isValue, ab_f0, ab_f1, ab_f2, ab_f3, List.getElem?_cons_zero, List.getElem?_cons_succ, List.set_cons_zero, List.set_cons_succ, List.length_cons, List.length_nil, List.size_toArray, List.head?_cons, List.tail_cons, Option.map_some, cond_true, cond_false, true_and, and_true, false_and, and_false, not_true_eq_false, not_false_eq_true, true_imp_iff, false_imp_iff, if_true, if_false, ite_true, ite_false, ↓reduceIte, Nat.reduceAdd, Nat.reduceEqDiff, Nat.reduceLeDiff, Nat.reduceLT, Nat.reduceBEq, Nat.reduceBNe, Int.reduceAdd, Int.reduceNeg, Int.reduceSub, Int.reduceLE, Int.reduceLT, Int.reduceToNat, Int.reduceEq, Int.reduceMul, Int.cast_ofNat_Int, Nat.zero_add, Nat.add_zero, Nat.le_refl, eq_self, ne_eq, reduceCtorEq, or_true, true_or, or_false, false_or, Bool.or_true, Bool.or_false, Bool.true_or, Bool.false_or, Nat.zero_le, Int.le_refl, Int.ofNat_zero, Int.ofNat_one, Bool.false_eq_true]
    try simp only [ab_in] at hs ⊢
    (repeat' (first | intro _ | refine And.intro ?_ ?_)) <;> (first | exact k0 (by omega) | exact k1 (by omega) | exact rfl | contradiction | omega | (exfalso; omega))
  · exact hT.elim
set_option maxRecDepth 100000 in
theorem con_X3_place (l : Launch) (D : va_G) (ty : Nat → ClassId) (base : Nat) : ab_Con l D vwCl ty lw_ts base lw_wd yX3_place cX3_place 4 (some .int) 3 67 0 0 Tr_X3_place :=
  ab_con_of (own := RX3) (rt := 1) (tb := tbX3) (ini := false) (ca := ca_X3_place) (by decide +kernel) rfl (fun h => by cases h) rfl lw_wd_ok wtbX3 lw_ar cm_X3_place
    (fun p e R s m args below meth c K hcx => by
      obtain ⟨hx, hb, hml, hown, hF, rfl⟩ := hcx
      exact ab_lk_all (ab_all_c (ab_tc_S hx hb hml hown lw_wd_ok hF ⟨rfl, rfl⟩ (con_X3_isPlace l D ty base) (lw_wi (by decide +kernel) (by decide +kernel)) (lw_wi (by decide +kernel) (by decide +kernel)) (lw_wi (by decide +kernel) (by decide +kernel)) (lw_wi (by decide +kernel) (by decide +kernel)) (by decide +kernel) ⟨by decide, by decide⟩) (ab_all_c (ab_tc_S hx hb hml hown lw_wd_ok hF ⟨rfl, rfl⟩ (con_X3_isUpTo l D ty base) (lw_wi (by decide +kernel) (by decide +kernel)) (lw_wi (by decide +kernel) (by decide +kernel)) (lw_wi (by decide +kernel) (by decide +kernel)) (lw_wi (by decide +kernel) (by decide +kernel)) (by decide +kernel) ⟨by decide, by decide⟩) (ab_all_c (ab_tc_V hx hb hml hown lw_wd_ok hF ⟨rfl, rfl⟩ (con_X1_numberAt l D ty base) rfl (lw_wi (by decide +kernel) (by decide +kernel)) (lw_wi (by decide +kernel) (by decide +kernel)) (lw_wi (by decide +kernel) (by decide +kernel)) (lw_wi (by decide +kernel) (by decide +kernel)) (lw_wi (by decide +kernel) (by decide +kernel)) (by decide +kernel) ⟨by decide, by decide⟩) (ab_all_c (ab_tc_V hx hb hml hown lw_wd_ok hF ⟨rfl, rfl⟩ (con_X1_isCovered l D ty base) rfl (lw_wi (by decide +kernel) (by decide +kernel)) (lw_wi (by decide +kernel) (by decide +kernel)) (lw_wi (by decide +kernel) (by decide +kernel)) (lw_wi (by decide +kernel) (by decide +kernel)) (lw_wi (by decide +kernel) (by decide +kernel)) (by decide +kernel) ⟨by decide, by decide⟩) (ab_all_c (ab_tc_V hx hb hml hown lw_wd_ok hF ⟨rfl, rfl⟩ (con_X1_rotAt l D ty base) rfl (lw_wi (by decide +kernel) (by decide +kernel)) (lw_wi (by decide +kernel) (by decide +kernel)) (lw_wi (by decide +kernel) (by decide +kernel)) (lw_wi (by decide +kernel) (by decide +kernel)) (lw_wi (by decide +kernel) (by decide +kernel)) (by decide +kernel) ⟨by decide, by decide⟩) (ab_all_n)))))))
    (by intro as h K ht; unfold Tr_X3_place at ht; split at ht <;> first | exact ht.elim | exact Nat.le_of_ble_eq_true rfl) (sem_X3_place base)
def shD : UInt64 := FP.ddiv (FP.i2d (Int32.ofInt 0)) 4636455816377925632
theorem shD_n : vf_n64 (FP.ddiv (FP.i2d (Int32.ofInt 0)) 4636455816377925632) := by
  unfold vf_n64
  decide +kernel
noncomputable def Tr_X3_share : ATr := fun as h K => match as with
  | [.inr (.inl (some a))] => ab_so (ab_sr h a) fun P => (P.2 = sv0 ∧ (True)) ∧ K (some (.inr (.inr (.inr shD)))) h
  | _ => False
theorem mo_X3_share : ab_mo Tr_X3_share := by
  intro as h K K' hk ht
  unfold Tr_X3_share at ht ⊢
  split at ht
  · exact ab_so_mo (fun P q => ⟨q.1, hk _ _ q.2⟩) ht
  · exact ht.elim
def ca_X3_share : Nat → Option ACS := ab_lk [(146, (0, 1, 1, 0, 0, Tr_X1_coveredPlaces))]
theorem ca_X3_share_146 : ca_X3_share 146 = some (0, 1, 1, 0, 0, Tr_X1_coveredPlaces) := rfl
theorem cm_X3_share : ∀ i q, ca_X3_share i = some q → ab_moq i q := ab_lk_all (ab_all_c mo_X1_coveredPlaces (ab_all_n))
set_option maxRecDepth 100000 in
set_option maxHeartbeats 4000000 in
theorem sem_X3_share (base : Nat) : ab_Sem tbX3 lw_ts base cX3_share ca_X3_share 4 1 0 0 (fun as => ab_en as 1) Tr_X3_share := by
  intro as h K hT V hV
  unfold Tr_X3_share at hT
  split at hT
  · rename_i a
    obtain ⟨⟨⟨⟨r, ns⟩, ⟨t, ms⟩, ⟨c, n⟩, b, q0, q1, q2, q3⟩, v9⟩, hP, ⟨hv9, hs⟩, hK⟩ := ab_so_el hT
    dsimp only at hv9
    subst hv9
    have hA := sr_el hP
    obtain ⟨D, D0, D1, D2, D3, D4⟩ := id hA
    dsimp only [sv0] at D D0 D1 D2 D3
    dsimp only at D4
    try dsimp only at hK hs
    obtain ⟨-, m0, m1, m2, m3, m4, m5, m6, m7, m8, hm9, -, e9, -⟩ := roof_el D0
    rw [r0_laid, r0_there, r0_day, r0_blown] at e9
    show V 0 [some (.inr (.inl (some a)))] [] h 0 0
    have hn := shD_n
    unfold shD at hK
    refine hV (fun _ => false) 80 _ _ _ _ _ _ ?_
    simp only [D, D0, e9, bI_in, bI_0, bI_1, bI_t, bI_f, bI_01, r0_laid, r0_there, r0_day, r0_blown, br_known bareR0, br_there bareR0, br_num bareR0, br_rot bareR0, br_cov bareR0, br_free bareR0, br_covPl bareR0, br_crkTh bareR0, br_allRot bareR0, Tr_X1_coveredPlaces, ae_aload_n, ae_ddiv, ae_dreturn, ae_getfield, ae_i2d, ae_invokevirtual, ae_ldc2_w, dX3_share_0, dX3_share_1, dX3_share_4, dX3_share_7, dX3_share_8, dX3_share_11, dX3_share_12, tbX3_c210, tbX3_g12, ca_X3_share_146, ab_wp0, ab_wps, ab_stp, ab_g, ab_st, ab_k2, ab_cl, ab_pop, ab_sz, ab_2, ab_ret, ab_f4, ab_tg, ab_I, ab_II, ab_A, ab_Rf, ab_VR, ab_IR, ab_VIR, ab_1, ab_LL, ab_DD, ab_ob, ab_pr, ab_qr, ab_ln, ab_so, ab_vI, ab_vA, ab_vD, ab_vL, ab_v2, ab_c, ab_fit, ab_rv, ab_tsw, ab_lsw, ab_up_eq, Fin.isValue, ab_f0, ab_f1, ab_f2, ab_f3, List.getElem?_cons_zero, List.getElem?_cons_succ, List.set_cons_zero, List.set_cons_succ, List.length_cons, List.length_nil, List.size_toArray, List.head?_cons, List.tail_cons, Option.map_some, cond_true, cond_false, true_and, and_true, false_and, and_false, not_true_eq_false, not_false_eq_true, true_imp_iff, false_imp_iff, if_true, if_false, ite_true, ite_false, ↓reduceIte, Nat.reduceAdd, Nat.reduceEqDiff, Nat.reduceLeDiff, Nat.reduceLT, Nat.reduceBEq, Nat.reduceBNe, Int.reduceAdd, Int.reduceNeg, Int.reduceSub, Int.reduceLE, Int.reduceLT, Int.reduceToNat, Int.reduceEq, Int.reduceMul, Int.cast_ofNat_Int, Nat.zero_add, Nat.add_zero, Nat.le_refl, eq_self, ne_eq, reduceCtorEq, or_true, true_or, or_false, false_or, Bool.or_true, Bool.or_false, Bool.true_or, Bool.false_or, Nat.zero_le, Int.le_refl, Int.ofNat_zero, Int.ofNat_one, Bool.false_eq_true]
    try simp only [ab_in]
    (repeat' (first | intro _ | refine And.intro ?_ ?_)) <;> (first | exact hn | exact hK | contradiction | omega | (exfalso; omega))
  · exact hT.elim
set_option maxRecDepth 100000 in
theorem con_X3_share (l : Launch) (D : va_G) (ty : Nat → ClassId) (base : Nat) : ab_Con l D vwCl ty lw_ts base lw_wd yX3_share cX3_share 1 (some .double) 4 90 0 0 Tr_X3_share :=
  ab_con_of (own := RX3) (rt := 4) (tb := tbX3) (ini := false) (ca := ca_X3_share) (by decide +kernel) rfl (fun h => by cases h) rfl lw_wd_ok wtbX3 lw_ar cm_X3_share
    (fun p e R s m args below meth c K hcx => by
      obtain ⟨hx, hb, hml, hown, hF, rfl⟩ := hcx
      exact ab_lk_all (ab_all_c (ab_tc_V hx hb hml hown lw_wd_ok hF ⟨rfl, rfl⟩ (con_X1_coveredPlaces l D ty base) rfl (lw_wi (by decide +kernel) (by decide +kernel)) (lw_wi (by decide +kernel) (by decide +kernel)) (lw_wi (by decide +kernel) (by decide +kernel)) (lw_wi (by decide +kernel) (by decide +kernel)) (lw_wi (by decide +kernel) (by decide +kernel)) (by decide +kernel) ⟨by decide, by decide⟩) (ab_all_n)))
    (by intro as h K ht; unfold Tr_X3_share at ht; split at ht <;> first | exact ht.elim | exact Nat.le_of_ble_eq_true rfl) (sem_X3_share base)
def dg1 : Nat → Int → Int
  | 0, d => d
  | n + 1, d => dg1 n (d * 31 + 0)
def dg3 : Nat → Int → Int
  | 0, d => d
  | n + 1, d => dg3 n (((d * 31 + -1) * 31 + 0) * 31 + 0)
def dg4 : Nat → Int → Int
  | 0, d => d
  | n + 1, d => dg4 n (dg3 12 d)
def dg5 : Nat → Int → Int
  | 0, d => d
  | n + 1, d => dg5 n ((d * 31 + 0) * 31 + 0)
def dgF : Int := dg5 7 (dg4 8 (dg1 7 919))
theorem dgF_eq : dgF = dg5 7 (dg3 96 (dg1 7 919)) := by decide +kernel
theorem br_right (d : Int) : dayF T00.2.1 d = 0 := br_day0 d
noncomputable def Tr_X3_digest : ATr := fun as h K => match as with
  | [.inr (.inl (some a))] => ab_so (ab_sr h a) fun P => (P.2 = sv0 ∧ (True)) ∧ K (some (.inr (.inr (.inl dgF)))) h
  | _ => False
theorem mo_X3_digest : ab_mo Tr_X3_digest := by
  intro as h K K' hk ht
  unfold Tr_X3_digest at ht ⊢
  split at ht
  · exact ab_so_mo (fun P q => ⟨q.1, hk _ _ q.2⟩) ht
  · exact ht.elim
def ca_X3_digest : Nat → Option ACS := ab_lk [(216, (0, 3, 2, 0, 0, Tr_X3_count)), (222, (0, 3, 4, 0, 0, Tr_X3_place)), (120, (0, 2, 2, 0, 0, Tr_X2_told)), (225, (0, 2, 2, 0, 0, Tr_X2_isFromRight))]
theorem ca_X3_digest_216 : ca_X3_digest 216 = some (0, 3, 2, 0, 0, Tr_X3_count) := rfl
theorem ca_X3_digest_222 : ca_X3_digest 222 = some (0, 3, 4, 0, 0, Tr_X3_place) := rfl
theorem ca_X3_digest_120 : ca_X3_digest 120 = some (0, 2, 2, 0, 0, Tr_X2_told) := rfl
theorem ca_X3_digest_225 : ca_X3_digest 225 = some (0, 2, 2, 0, 0, Tr_X2_isFromRight) := rfl
theorem cm_X3_digest : ∀ i q, ca_X3_digest i = some q → ab_moq i q := ab_lk_all (ab_all_c mo_X3_count (ab_all_c mo_X3_place (ab_all_c mo_X2_told (ab_all_c mo_X2_isFromRight (ab_all_n)))))
set_option maxRecDepth 100000 in
set_option maxHeartbeats 4000000 in
theorem sem_X3_digest (base : Nat) : ab_Sem tbX3 lw_ts base cX3_digest ca_X3_digest 5 6 0 0 (fun as => ab_en as 6) Tr_X3_digest := by
  intro as h K hT V hV
  unfold Tr_X3_digest at hT
  split at hT
  · rename_i a
    obtain ⟨⟨⟨⟨r, ns⟩, ⟨t, ms⟩, ⟨c, n⟩, b, q0, q1, q2, q3⟩, v9⟩, hP, ⟨hv9, hs⟩, hK⟩ := ab_so_el hT
    dsimp only at hv9
    subst hv9
    have hA := sr_el hP
    obtain ⟨D, D0, D1, D2, D3, D4⟩ := id hA
    dsimp only [sv0] at D D0 D1 D2 D3
    dsimp only at D4
    try dsimp only at hK hs
    obtain ⟨-, m0, m1, m2, m3, m4, m5, m6, m7, m8, hm9, -, e9, -⟩ := roof_el D0
    rw [r0_laid, r0_there, r0_day, r0_blown] at e9
    show V 0 [some (.inr (.inl (some a))), none, none, none, none, none] [] h 0 0
    unfold dgF at hK
    obtain ⟨-, -, e7, -⟩ := tab_el D3
    dsimp only at e7

    have loop4 : ∀ (n : Nat) (w d : Int) (u4 u5 : Option AV), w + n = 7 → 0 ≤ w → K (some (.inr (.inr (.inl (dg5 n d))))) h → V 145 [some (.inr (.inl (some a))), some (.inr (.inr (.inl (d)))), none, some (.inl w), u4, u5] [] h 0 0 := by
      intro n
      induction n with
      | zero =>
        intro w d u4 u5 e1 e2 hK
        simp only [dg5] at hK
        refine hV (fun p => p == 300) 80 _ _ _ _ _ _ ?_
        simp only [bI_in, bI_0, bI_1, bI_t, bI_f, bI_01, ae_aload_n, ae_bipush, ae_getfield, ae_goto, ae_i2l, ae_iconst, ae_ifCond, ae_if_icmp, ae_iinc, ae_iload_n, ae_invokevirtual, ae_ladd, ae_ldc2_w, ae_lload_n, ae_lmul, ae_lreturn, ae_lstore_n, dX3_digest_145, dX3_digest_146, dX3_digest_148, dX3_digest_151, dX3_digest_152, dX3_digest_155, dX3_digest_156, dX3_digest_157, dX3_digest_160, dX3_digest_161, dX3_digest_164, dX3_digest_165, dX3_digest_166, dX3_digest_167, dX3_digest_168, dX3_digest_171, dX3_digest_172, dX3_digest_173, dX3_digest_176, dX3_digest_177, dX3_digest_180, dX3_digest_183, dX3_digest_184, dX3_digest_187, dX3_digest_188, dX3_digest_189, dX3_digest_190, dX3_digest_191, dX3_digest_194, dX3_digest_197, dX3_digest_198, tbX3_c214, tbX3_g29, ca_X3_digest_216, ca_X3_digest_222, ca_X3_digest_120, ca_X3_digest_225, ab_wp0, ab_wps, ab_stp, ab_g, ab_st, ab_k2, ab_cl, ab_pop, ab_sz, ab_2, ab_ret, ab_f4, ab_tg, ab_I, ab_II, ab_A, ab_Rf, ab_VR, ab_IR, ab_VIR, ab_1, ab_LL, ab_DD, ab_ob, ab_pr, ab_qr, ab_ln, ab_so, ab_vI, ab_vA, ab_vD, ab_vL, ab_v2, ab_c, ab_fit, ab_rv, ab_tsw, ab_lsw, ab_up_eq, Fin.isValue, ab_f0, ab_f1, ab_f2, ab_f3, List.getElem?_cons_zero, List.getElem?_cons_succ, List.set_cons_zero, List.set_cons_succ, List.length_cons, List.length_nil, List.size_toArray, List.head?_cons, List.tail_cons, Option.map_some, cond_true, cond_false, true_and, and_true, false_and, and_false, not_true_eq_false, not_false_eq_true, true_imp_iff, false_imp_iff, if_true, if_false, ite_true, ite_false, ↓reduceIte, Nat.reduceAdd, Nat.reduceEqDiff, Nat.reduceLeDiff, Nat.reduceLT, Nat.reduceBEq, Nat.reduceBNe, Int.reduceAdd, Int.reduceNeg, Int.reduceSub, Int.reduceLE, Int.reduceLT, Int.reduceToNat, Int.reduceEq, Int.reduceMul, Int.cast_ofNat_Int, Nat.zero_add, Nat.add_zero, Nat.le_refl, eq_self, ne_eq, reduceCtorEq, or_true, true_or, or_false, false_or, Bool.or_true, Bool.or_false, Bool.true_or, Bool.false_or, Nat.zero_le, Int.le_refl, Int.ofNat_zero, Int.ofNat_one, Bool.false_eq_true]
        try simp only [ab_in]
        (repeat' (first | intro _ | refine And.intro ?_ ?_)) <;> (first | exact hK | contradiction | omega | (exfalso; omega))
      | succ n ih =>
        intro w d u4 u5 e1 e2 hK
        simp only [dg5] at hK
        have ih' := ih (w + 1) _ u4 u5 (by omega) (by omega) hK
        have l151 : V 151 [some (.inr (.inl (some a))), some (.inr (.inr (.inl (d)))), none, some (.inl w), u4, u5] [] h 0 0 := by
          refine hV (fun p => p == 145) 80 _ _ _ _ _ _ ?_
          simp only [D, D3, e7, br_told, br_right, bI_in, bI_0, bI_1, bI_t, bI_f, bI_01, Tr_X2_told, Tr_X2_isFromRight, ae_aload_n, ae_getfield, ae_goto, ae_i2l, ae_iconst, ae_ifCond, ae_iinc, ae_iload_n, ae_invokevirtual, ae_ladd, ae_ldc2_w, ae_lload_n, ae_lmul, ae_lstore_n, dX3_digest_151, dX3_digest_152, dX3_digest_155, dX3_digest_156, dX3_digest_157, dX3_digest_160, dX3_digest_161, dX3_digest_164, dX3_digest_165, dX3_digest_166, dX3_digest_167, dX3_digest_168, dX3_digest_171, dX3_digest_172, dX3_digest_173, dX3_digest_176, dX3_digest_177, dX3_digest_180, dX3_digest_183, dX3_digest_184, dX3_digest_187, dX3_digest_188, dX3_digest_189, dX3_digest_190, dX3_digest_191, dX3_digest_194, tbX3_c214, tbX3_g29, ca_X3_digest_216, ca_X3_digest_222, ca_X3_digest_120, ca_X3_digest_225, ab_wp0, ab_wps, ab_stp, ab_g, ab_st, ab_k2, ab_cl, ab_pop, ab_sz, ab_2, ab_ret, ab_f4, ab_tg, ab_I, ab_II, ab_A, ab_Rf, ab_VR, ab_IR, ab_VIR, ab_1, ab_LL, ab_DD, ab_ob, ab_pr, ab_qr, ab_ln, ab_so, ab_vI, ab_vA, ab_vD, ab_vL, ab_v2, ab_c, ab_fit, ab_rv, ab_tsw, ab_lsw, ab_up_eq, Fin.isValue, ab_f0, ab_f1, ab_f2, ab_f3, List.getElem?_cons_zero, List.getElem?_cons_succ, List.set_cons_zero, List.set_cons_succ, List.length_cons, List.length_nil, List.size_toArray, List.head?_cons, List.tail_cons, Option.map_some, cond_true, cond_false, true_and, and_true, false_and, and_false, not_true_eq_false, not_false_eq_true, true_imp_iff, false_imp_iff, if_true, if_false, ite_true, ite_false, ↓reduceIte, Nat.reduceAdd, Nat.reduceEqDiff, Nat.reduceLeDiff, Nat.reduceLT, Nat.reduceBEq, Nat.reduceBNe, Int.reduceAdd, Int.reduceNeg, Int.reduceSub, Int.reduceLE, Int.reduceLT, Int.reduceToNat, Int.reduceEq, Int.reduceMul, Int.cast_ofNat_Int, Nat.zero_add, Nat.add_zero, Nat.le_refl, eq_self, ne_eq, reduceCtorEq, or_true, true_or, or_false, false_or, Bool.or_true, Bool.or_false, Bool.true_or, Bool.false_or, Nat.zero_le, Int.le_refl, Int.ofNat_zero, Int.ofNat_one, Bool.false_eq_true]
          try simp only [ab_in]
          (repeat' (first | intro _ | refine And.intro ?_ ?_)) <;> (first | exact ih' | contradiction | omega | (exfalso; omega))
        refine hV (fun p => bif p == 151 then true else p == 197) 80 _ _ _ _ _ _ ?_
        simp only [bI_in, bI_0, bI_1, bI_t, bI_f, bI_01, ae_bipush, ae_if_icmp, ae_iload_n, dX3_digest_145, dX3_digest_146, dX3_digest_148, ca_X3_digest_216, ca_X3_digest_222, ca_X3_digest_120, ca_X3_digest_225, ab_wp0, ab_wps, ab_stp, ab_g, ab_st, ab_k2, ab_cl, ab_pop, ab_sz, ab_2, ab_ret, ab_f4, ab_tg, ab_I, ab_II, ab_A, ab_Rf, ab_VR, ab_IR, ab_VIR, ab_1, ab_LL, ab_DD, ab_ob, ab_pr, ab_qr, ab_ln, ab_so, ab_vI, ab_vA, ab_vD, ab_vL, ab_v2, ab_c, ab_fit, ab_rv, ab_tsw, ab_lsw, ab_up_eq, Fin.isValue, ab_f0, ab_f1, ab_f2, ab_f3, List.getElem?_cons_zero, List.getElem?_cons_succ, List.set_cons_zero, List.set_cons_succ, List.length_cons, List.length_nil, List.size_toArray, List.head?_cons, List.tail_cons, Option.map_some, cond_true, cond_false, true_and, and_true, false_and, and_false, not_true_eq_false, not_false_eq_true, true_imp_iff, false_imp_iff, if_true, if_false, ite_true, ite_false, ↓reduceIte, Nat.reduceAdd, Nat.reduceEqDiff, Nat.reduceLeDiff, Nat.reduceLT, Nat.reduceBEq, Nat.reduceBNe, Int.reduceAdd, Int.reduceNeg, Int.reduceSub, Int.reduceLE, Int.reduceLT, Int.reduceToNat, Int.reduceEq, Int.reduceMul, Int.cast_ofNat_Int, Nat.zero_add, Nat.add_zero, Nat.le_refl, eq_self, ne_eq, reduceCtorEq, or_true, true_or, or_false, false_or, Bool.or_true, Bool.or_false, Bool.true_or, Bool.false_or, Nat.zero_le, Int.le_refl, Int.ofNat_zero, Int.ofNat_one, Bool.false_eq_true]
        try simp only [ab_in]
        (repeat' (first | intro _ | refine And.intro ?_ ?_)) <;> (first | exact l151 | contradiction | omega | (exfalso; omega))
    have loop3 : ∀ (n : Nat) (y x d : Int) (u5 : Option AV), (0 ≤ y ∧ y < 8) → x + n = 12 → 0 ≤ x → (∀ u5, V 137 [some (.inr (.inl (some a))), some (.inr (.inr (.inl (dg3 n d)))), none, some (.inl y), some (.inl 12), u5] [] h 0 0) → V 92 [some (.inr (.inl (some a))), some (.inr (.inr (.inl (d)))), none, some (.inl y), some (.inl x), u5] [] h 0 0 := by
      intro n
      induction n with
      | zero =>
        intro y x d u5 e0 e1 e2 hn
        have hx : x = 12 := by omega
        subst hx
        have hn' := hn u5
        simp only [dg3] at hn'
        refine hV (fun p => p == 137) 80 _ _ _ _ _ _ ?_
        simp only [bI_in, bI_0, bI_1, bI_t, bI_f, bI_01, ae_bipush, ae_if_icmp, ae_iload, dX3_digest_92, dX3_digest_94, dX3_digest_96, ca_X3_digest_216, ca_X3_digest_222, ca_X3_digest_120, ca_X3_digest_225, ab_wp0, ab_wps, ab_stp, ab_g, ab_st, ab_k2, ab_cl, ab_pop, ab_sz, ab_2, ab_ret, ab_f4, ab_tg, ab_I, ab_II, ab_A, ab_Rf, ab_VR, ab_IR, ab_VIR, ab_1, ab_LL, ab_DD, ab_ob, ab_pr, ab_qr, ab_ln, ab_so, ab_vI, ab_vA, ab_vD, ab_vL, ab_v2, ab_c, ab_fit, ab_rv, ab_tsw, ab_lsw, ab_up_eq, Fin.isValue, ab_f0, ab_f1, ab_f2, ab_f3, List.getElem?_cons_zero, List.getElem?_cons_succ, List.set_cons_zero, List.set_cons_succ, List.length_cons, List.length_nil, List.size_toArray, List.head?_cons, List.tail_cons, Option.map_some, cond_true, cond_false, true_and, and_true, false_and, and_false, not_true_eq_false, not_false_eq_true, true_imp_iff, false_imp_iff, if_true, if_false, ite_true, ite_false, ↓reduceIte, Nat.reduceAdd, Nat.reduceEqDiff, Nat.reduceLeDiff, Nat.reduceLT, Nat.reduceBEq, Nat.reduceBNe, Int.reduceAdd, Int.reduceNeg, Int.reduceSub, Int.reduceLE, Int.reduceLT, Int.reduceToNat, Int.reduceEq, Int.reduceMul, Int.cast_ofNat_Int, Nat.zero_add, Nat.add_zero, Nat.le_refl, eq_self, ne_eq, reduceCtorEq, or_true, true_or, or_false, false_or, Bool.or_true, Bool.or_false, Bool.true_or, Bool.false_or, Nat.zero_le, Int.le_refl, Int.ofNat_zero, Int.ofNat_one, Bool.false_eq_true]
        try simp only [ab_in]
        (repeat' (first | intro _ | refine And.intro ?_ ?_)) <;> (first | exact hn' | contradiction | omega | (exfalso; omega))
      | succ n ih =>
        intro y x d u5 e0 e1 e2 hn
        simp only [dg3] at hn
        have ih' := ih y (x + 1) _ (some (.inl 3)) e0 (by omega) (by omega) hn
        have l99 : V 99 [some (.inr (.inl (some a))), some (.inr (.inr (.inl (d)))), none, some (.inl y), some (.inl x), u5] [] h 0 0 := by
          refine hV (fun p => p == 92) 80 _ _ _ _ _ _ ?_
          simp only [D, hP, bI_in, bI_0, bI_1, bI_t, bI_f, bI_01, Tr_X3_place, ae_aload_n, ae_goto, ae_i2l, ae_iconst, ae_if_icmp, ae_iinc, ae_iload, ae_iload_n, ae_invokevirtual, ae_istore, ae_ladd, ae_ldc2_w, ae_lload_n, ae_lmul, ae_lstore_n, dX3_digest_99, dX3_digest_100, dX3_digest_102, dX3_digest_104, dX3_digest_105, dX3_digest_108, dX3_digest_109, dX3_digest_112, dX3_digest_113, dX3_digest_114, dX3_digest_116, dX3_digest_117, dX3_digest_119, dX3_digest_122, dX3_digest_123, dX3_digest_124, dX3_digest_125, dX3_digest_128, dX3_digest_131, dX3_digest_134, tbX3_c214, ca_X3_digest_216, ca_X3_digest_222, ca_X3_digest_120, ca_X3_digest_225, ab_wp0, ab_wps, ab_stp, ab_g, ab_st, ab_k2, ab_cl, ab_pop, ab_sz, ab_2, ab_ret, ab_f4, ab_tg, ab_I, ab_II, ab_A, ab_Rf, ab_VR, ab_IR, ab_VIR, ab_1, ab_LL, ab_DD, ab_ob, ab_pr, ab_qr, ab_ln, ab_so, ab_vI, ab_vA, ab_vD, ab_vL, ab_v2, ab_c, ab_fit, ab_rv, ab_tsw, ab_lsw, ab_up_eq, Fin.isValue, ab_f0, ab_f1, ab_f2, ab_f3, List.getElem?_cons_zero, List.getElem?_cons_succ, List.set_cons_zero, List.set_cons_succ, List.length_cons, List.length_nil, List.size_toArray, List.head?_cons, List.tail_cons, Option.map_some, cond_true, cond_false, true_and, and_true, false_and, and_false, not_true_eq_false, not_false_eq_true, true_imp_iff, false_imp_iff, if_true, if_false, ite_true, ite_false, ↓reduceIte, Nat.reduceAdd, Nat.reduceEqDiff, Nat.reduceLeDiff, Nat.reduceLT, Nat.reduceBEq, Nat.reduceBNe, Int.reduceAdd, Int.reduceNeg, Int.reduceSub, Int.reduceLE, Int.reduceLT, Int.reduceToNat, Int.reduceEq, Int.reduceMul, Int.cast_ofNat_Int, Nat.zero_add, Nat.add_zero, Nat.le_refl, eq_self, ne_eq, reduceCtorEq, or_true, true_or, or_false, false_or, Bool.or_true, Bool.or_false, Bool.true_or, Bool.false_or, Nat.zero_le, Int.le_refl, Int.ofNat_zero, Int.ofNat_one, Bool.false_eq_true]
          try simp only [ab_in]
          (repeat' (first | intro _ | refine And.intro ?_ ?_)) <;> (first | exact ih' | contradiction | omega | (exfalso; omega))
        refine hV (fun p => bif p == 99 then true else p == 137) 80 _ _ _ _ _ _ ?_
        simp only [bI_in, bI_0, bI_1, bI_t, bI_f, bI_01, ae_bipush, ae_if_icmp, ae_iload, dX3_digest_92, dX3_digest_94, dX3_digest_96, ca_X3_digest_216, ca_X3_digest_222, ca_X3_digest_120, ca_X3_digest_225, ab_wp0, ab_wps, ab_stp, ab_g, ab_st, ab_k2, ab_cl, ab_pop, ab_sz, ab_2, ab_ret, ab_f4, ab_tg, ab_I, ab_II, ab_A, ab_Rf, ab_VR, ab_IR, ab_VIR, ab_1, ab_LL, ab_DD, ab_ob, ab_pr, ab_qr, ab_ln, ab_so, ab_vI, ab_vA, ab_vD, ab_vL, ab_v2, ab_c, ab_fit, ab_rv, ab_tsw, ab_lsw, ab_up_eq, Fin.isValue, ab_f0, ab_f1, ab_f2, ab_f3, List.getElem?_cons_zero, List.getElem?_cons_succ, List.set_cons_zero, List.set_cons_succ, List.length_cons, List.length_nil, List.size_toArray, List.head?_cons, List.tail_cons, Option.map_some, cond_true, cond_false, true_and, and_true, false_and, and_false, not_true_eq_false, not_false_eq_true, true_imp_iff, false_imp_iff, if_true, if_false, ite_true, ite_false, ↓reduceIte, Nat.reduceAdd, Nat.reduceEqDiff, Nat.reduceLeDiff, Nat.reduceLT, Nat.reduceBEq, Nat.reduceBNe, Int.reduceAdd, Int.reduceNeg, Int.reduceSub, Int.reduceLE, Int.reduceLT, Int.reduceToNat, Int.reduceEq, Int.reduceMul, Int.cast_ofNat_Int, Nat.zero_add, Nat.add_zero, Nat.le_refl, eq_self, ne_eq, reduceCtorEq, or_true, true_or, or_false, false_or, Bool.or_true, Bool.or_false, Bool.true_or, Bool.false_or, Nat.zero_le, Int.le_refl, Int.ofNat_zero, Int.ofNat_one, Bool.false_eq_true]
        try simp only [ab_in]
        (repeat' (first | intro _ | refine And.intro ?_ ?_)) <;> (first | exact l99 | contradiction | omega | (exfalso; omega))
    have loop2 : ∀ (n : Nat) (y d : Int) (u4 u5 : Option AV), y + n = 8 → 0 ≤ y → K (some (.inr (.inr (.inl (dg5 7 (dg4 n d)))))) h → V 83 [some (.inr (.inl (some a))), some (.inr (.inr (.inl (d)))), none, some (.inl y), u4, u5] [] h 0 0 := by
      intro n
      induction n with
      | zero =>
        intro y d u4 u5 e1 e2 hK
        simp only [dg4] at hK
        have l4 := loop4 7 0 d u4 u5 (by omega) (by omega) hK
        refine hV (fun p => bif p == 145 then true else p == 92) 80 _ _ _ _ _ _ ?_
        simp only [bI_in, bI_0, bI_1, bI_t, bI_f, bI_01, ae_aload_n, ae_bipush, ae_goto, ae_i2l, ae_iconst, ae_if_icmp, ae_iinc, ae_iload, ae_iload_n, ae_invokevirtual, ae_istore, ae_istore_n, ae_ladd, ae_ldc2_w, ae_lload_n, ae_lmul, ae_lstore_n, dX3_digest_83, dX3_digest_84, dX3_digest_86, dX3_digest_89, dX3_digest_90, dX3_digest_92, dX3_digest_94, dX3_digest_96, dX3_digest_99, dX3_digest_100, dX3_digest_102, dX3_digest_104, dX3_digest_105, dX3_digest_108, dX3_digest_109, dX3_digest_112, dX3_digest_113, dX3_digest_114, dX3_digest_116, dX3_digest_117, dX3_digest_119, dX3_digest_122, dX3_digest_123, dX3_digest_124, dX3_digest_125, dX3_digest_128, dX3_digest_131, dX3_digest_134, dX3_digest_137, dX3_digest_140, dX3_digest_143, dX3_digest_144, tbX3_c214, ca_X3_digest_216, ca_X3_digest_222, ca_X3_digest_120, ca_X3_digest_225, ab_wp0, ab_wps, ab_stp, ab_g, ab_st, ab_k2, ab_cl, ab_pop, ab_sz, ab_2, ab_ret, ab_f4, ab_tg, ab_I, ab_II, ab_A, ab_Rf, ab_VR, ab_IR, ab_VIR, ab_1, ab_LL, ab_DD, ab_ob, ab_pr, ab_qr, ab_ln, ab_so, ab_vI, ab_vA, ab_vD, ab_vL, ab_v2, ab_c, ab_fit, ab_rv, ab_tsw, ab_lsw, ab_up_eq, Fin.isValue, ab_f0, ab_f1, ab_f2, ab_f3, List.getElem?_cons_zero, List.getElem?_cons_succ, List.set_cons_zero, List.set_cons_succ, List.length_cons, List.length_nil, List.size_toArray, List.head?_cons, List.tail_cons, Option.map_some, cond_true, cond_false, true_and, and_true, false_and, and_false, not_true_eq_false, not_false_eq_true, true_imp_iff, false_imp_iff, if_true, if_false, ite_true, ite_false, ↓reduceIte, Nat.reduceAdd, Nat.reduceEqDiff, Nat.reduceLeDiff, Nat.reduceLT, Nat.reduceBEq, Nat.reduceBNe, Int.reduceAdd, Int.reduceNeg, Int.reduceSub, Int.reduceLE, Int.reduceLT, Int.reduceToNat, Int.reduceEq, Int.reduceMul, Int.cast_ofNat_Int, Nat.zero_add, Nat.add_zero, Nat.le_refl, eq_self, ne_eq, reduceCtorEq, or_true, true_or, or_false, false_or, Bool.or_true, Bool.or_false, Bool.true_or, Bool.false_or, Nat.zero_le, Int.le_refl, Int.ofNat_zero, Int.ofNat_one, Bool.false_eq_true]
        try simp only [ab_in]
        (repeat' (first | intro _ | refine And.intro ?_ ?_)) <;> (first | exact l4 | contradiction | omega | (exfalso; omega))
      | succ n ih =>
        intro y d u4 u5 e1 e2 hK
        simp only [dg4] at hK
        have l137 : ∀ u5, V 137 [some (.inr (.inl (some a))), some (.inr (.inr (.inl (dg3 12 d)))), none, some (.inl y), some (.inl 12), u5] [] h 0 0 := by
          intro u5
          have ih' := ih (y + 1) _ (some (.inl 12)) u5 (by omega) (by omega) hK
          refine hV (fun p => p == 83) 80 _ _ _ _ _ _ ?_
          simp only [bI_in, bI_0, bI_1, bI_t, bI_f, bI_01, ae_goto, ae_iinc, dX3_digest_137, dX3_digest_140, ca_X3_digest_216, ca_X3_digest_222, ca_X3_digest_120, ca_X3_digest_225, ab_wp0, ab_wps, ab_stp, ab_g, ab_st, ab_k2, ab_cl, ab_pop, ab_sz, ab_2, ab_ret, ab_f4, ab_tg, ab_I, ab_II, ab_A, ab_Rf, ab_VR, ab_IR, ab_VIR, ab_1, ab_LL, ab_DD, ab_ob, ab_pr, ab_qr, ab_ln, ab_so, ab_vI, ab_vA, ab_vD, ab_vL, ab_v2, ab_c, ab_fit, ab_rv, ab_tsw, ab_lsw, ab_up_eq, Fin.isValue, ab_f0, ab_f1, ab_f2, ab_f3, List.getElem?_cons_zero, List.getElem?_cons_succ, List.set_cons_zero, List.set_cons_succ, List.length_cons, List.length_nil, List.size_toArray, List.head?_cons, List.tail_cons, Option.map_some, cond_true, cond_false, true_and, and_true, false_and, and_false, not_true_eq_false, not_false_eq_true, true_imp_iff, false_imp_iff, if_true, if_false, ite_true, ite_false, ↓reduceIte, Nat.reduceAdd, Nat.reduceEqDiff, Nat.reduceLeDiff, Nat.reduceLT, Nat.reduceBEq, Nat.reduceBNe, Int.reduceAdd, Int.reduceNeg, Int.reduceSub, Int.reduceLE, Int.reduceLT, Int.reduceToNat, Int.reduceEq, Int.reduceMul, Int.cast_ofNat_Int, Nat.zero_add, Nat.add_zero, Nat.le_refl, eq_self, ne_eq, reduceCtorEq, or_true, true_or, or_false, false_or, Bool.or_true, Bool.or_false, Bool.true_or, Bool.false_or, Nat.zero_le, Int.le_refl, Int.ofNat_zero, Int.ofNat_one, Bool.false_eq_true]
          try simp only [ab_in]
          (repeat' (first | intro _ | refine And.intro ?_ ?_)) <;> (first | exact ih' | contradiction | omega | (exfalso; omega))
        have l3 := loop3 12 y 0 d u5 (by omega) (by omega) (by omega) l137
        refine hV (fun p => bif p == 92 then true else p == 143) 80 _ _ _ _ _ _ ?_
        simp only [bI_in, bI_0, bI_1, bI_t, bI_f, bI_01, ae_bipush, ae_iconst, ae_if_icmp, ae_iload_n, ae_istore, dX3_digest_83, dX3_digest_84, dX3_digest_86, dX3_digest_89, dX3_digest_90, ca_X3_digest_216, ca_X3_digest_222, ca_X3_digest_120, ca_X3_digest_225, ab_wp0, ab_wps, ab_stp, ab_g, ab_st, ab_k2, ab_cl, ab_pop, ab_sz, ab_2, ab_ret, ab_f4, ab_tg, ab_I, ab_II, ab_A, ab_Rf, ab_VR, ab_IR, ab_VIR, ab_1, ab_LL, ab_DD, ab_ob, ab_pr, ab_qr, ab_ln, ab_so, ab_vI, ab_vA, ab_vD, ab_vL, ab_v2, ab_c, ab_fit, ab_rv, ab_tsw, ab_lsw, ab_up_eq, Fin.isValue, ab_f0, ab_f1, ab_f2, ab_f3, List.getElem?_cons_zero, List.getElem?_cons_succ, List.set_cons_zero, List.set_cons_succ, List.length_cons, List.length_nil, List.size_toArray, List.head?_cons, List.tail_cons, Option.map_some, cond_true, cond_false, true_and, and_true, false_and, and_false, not_true_eq_false, not_false_eq_true, true_imp_iff, false_imp_iff, if_true, if_false, ite_true, ite_false, ↓reduceIte, Nat.reduceAdd, Nat.reduceEqDiff, Nat.reduceLeDiff, Nat.reduceLT, Nat.reduceBEq, Nat.reduceBNe, Int.reduceAdd, Int.reduceNeg, Int.reduceSub, Int.reduceLE, Int.reduceLT, Int.reduceToNat, Int.reduceEq, Int.reduceMul, Int.cast_ofNat_Int, Nat.zero_add, Nat.add_zero, Nat.le_refl, eq_self, ne_eq, reduceCtorEq, or_true, true_or, or_false, false_or, Bool.or_true, Bool.or_false, Bool.true_or, Bool.false_or, Nat.zero_le, Int.le_refl, Int.ofNat_zero, Int.ofNat_one, Bool.false_eq_true]
        try simp only [ab_in]
        (repeat' (first | intro _ | refine And.intro ?_ ?_)) <;> (first | exact l3 | contradiction | omega | (exfalso; omega))
    have loop1 : ∀ (n : Nat) (w d : Int), w + n = 7 → 0 ≤ w → K (some (.inr (.inr (.inl (dg5 7 (dg4 8 (dg1 n d))))))) h → V 6 [some (.inr (.inl (some a))), some (.inr (.inr (.inl (d)))), none, some (.inl w), none, none] [] h 0 0 := by
      intro n
      induction n with
      | zero =>
        intro w d e1 e2 hK
        simp only [dg1] at hK
        have l2 := loop2 8 0 d none none (by omega) (by omega) hK
        refine hV (fun p => bif p == 12 then true else bif p == 83 then true else p == 44) 80 _ _ _ _ _ _ ?_
        simp only [D, e9, bI_in, bI_0, bI_1, bI_t, bI_f, bI_01, ae_aload_n, ae_bipush, ae_getfield, ae_goto, ae_i2l, ae_iconst, ae_if_icmp, ae_iinc, ae_iload, ae_iload_n, ae_invokevirtual, ae_istore, ae_istore_n, ae_ladd, ae_ldc2_w, ae_lload_n, ae_lmul, ae_lstore_n, dX3_digest_6, dX3_digest_7, dX3_digest_9, dX3_digest_12, dX3_digest_13, dX3_digest_16, dX3_digest_17, dX3_digest_18, dX3_digest_19, dX3_digest_22, dX3_digest_23, dX3_digest_24, dX3_digest_25, dX3_digest_28, dX3_digest_31, dX3_digest_32, dX3_digest_33, dX3_digest_34, dX3_digest_35, dX3_digest_38, dX3_digest_41, dX3_digest_44, dX3_digest_45, dX3_digest_47, dX3_digest_49, dX3_digest_51, dX3_digest_54, dX3_digest_55, dX3_digest_58, dX3_digest_59, dX3_digest_60, dX3_digest_61, dX3_digest_63, dX3_digest_66, dX3_digest_67, dX3_digest_68, dX3_digest_69, dX3_digest_72, dX3_digest_75, dX3_digest_78, dX3_digest_81, dX3_digest_82, tbX3_c214, tbX3_g12, tbX3_g52, ca_X3_digest_216, ca_X3_digest_222, ca_X3_digest_120, ca_X3_digest_225, ab_wp0, ab_wps, ab_stp, ab_g, ab_st, ab_k2, ab_cl, ab_pop, ab_sz, ab_2, ab_ret, ab_f4, ab_tg, ab_I, ab_II, ab_A, ab_Rf, ab_VR, ab_IR, ab_VIR, ab_1, ab_LL, ab_DD, ab_ob, ab_pr, ab_qr, ab_ln, ab_so, ab_vI, ab_vA, ab_vD, ab_vL, ab_v2, ab_c, ab_fit, ab_rv, ab_tsw, ab_lsw, ab_up_eq, Fin.isValue, ab_f0, ab_f1, ab_f2, ab_f3, List.getElem?_cons_zero, List.getElem?_cons_succ, List.set_cons_zero, List.set_cons_succ, List.length_cons, List.length_nil, List.size_toArray, List.head?_cons, List.tail_cons, Option.map_some, cond_true, cond_false, true_and, and_true, false_and, and_false, not_true_eq_false, not_false_eq_true, true_imp_iff, false_imp_iff, if_true, if_false, ite_true, ite_false, ↓reduceIte, Nat.reduceAdd, Nat.reduceEqDiff, Nat.reduceLeDiff, Nat.reduceLT, Nat.reduceBEq, Nat.reduceBNe, Int.reduceAdd, Int.reduceNeg, Int.reduceSub, Int.reduceLE, Int.reduceLT, Int.reduceToNat, Int.reduceEq, Int.reduceMul, Int.cast_ofNat_Int, Nat.zero_add, Nat.add_zero, Nat.le_refl, eq_self, ne_eq, reduceCtorEq, or_true, true_or, or_false, false_or, Bool.or_true, Bool.or_false, Bool.true_or, Bool.false_or, Nat.zero_le, Int.le_refl, Int.ofNat_zero, Int.ofNat_one, Bool.false_eq_true]
        try simp only [ab_in]
        (repeat' (first | intro _ | refine And.intro ?_ ?_)) <;> (first | exact l2 | contradiction | omega | (exfalso; omega))
      | succ n ih =>
        intro w d e1 e2 hK
        simp only [dg1] at hK
        have ih' := ih (w + 1) _ (by omega) (by omega) hK
        have l12 : V 12 [some (.inr (.inl (some a))), some (.inr (.inr (.inl (d)))), none, some (.inl w), none, none] [] h 0 0 := by
          refine hV (fun p => p == 6) 80 _ _ _ _ _ _ ?_
          simp only [D, hP, bI_in, bI_0, bI_1, bI_t, bI_f, bI_01, Tr_X3_count, ae_aload_n, ae_goto, ae_i2l, ae_iinc, ae_iload_n, ae_invokevirtual, ae_ladd, ae_ldc2_w, ae_lload_n, ae_lmul, ae_lstore_n, dX3_digest_12, dX3_digest_13, dX3_digest_16, dX3_digest_17, dX3_digest_18, dX3_digest_19, dX3_digest_22, dX3_digest_23, dX3_digest_24, dX3_digest_25, dX3_digest_28, tbX3_c214, ca_X3_digest_216, ca_X3_digest_222, ca_X3_digest_120, ca_X3_digest_225, ab_wp0, ab_wps, ab_stp, ab_g, ab_st, ab_k2, ab_cl, ab_pop, ab_sz, ab_2, ab_ret, ab_f4, ab_tg, ab_I, ab_II, ab_A, ab_Rf, ab_VR, ab_IR, ab_VIR, ab_1, ab_LL, ab_DD, ab_ob, ab_pr, ab_qr, ab_ln, ab_so, ab_vI, ab_vA, ab_vD, ab_vL, ab_v2, ab_c, ab_fit, ab_rv, ab_tsw, ab_lsw, ab_up_eq, Fin.isValue, ab_f0, ab_f1, ab_f2, ab_f3, List.getElem?_cons_zero, List.getElem?_cons_succ, List.set_cons_zero, List.set_cons_succ, List.length_cons, List.length_nil, List.size_toArray, List.head?_cons, List.tail_cons, Option.map_some, cond_true, cond_false, true_and, and_true, false_and, and_false, not_true_eq_false, not_false_eq_true, true_imp_iff, false_imp_iff, if_true, if_false, ite_true, ite_false, ↓reduceIte, Nat.reduceAdd, Nat.reduceEqDiff, Nat.reduceLeDiff, Nat.reduceLT, Nat.reduceBEq, Nat.reduceBNe, Int.reduceAdd, Int.reduceNeg, Int.reduceSub, Int.reduceLE, Int.reduceLT, Int.reduceToNat, Int.reduceEq, Int.reduceMul, Int.cast_ofNat_Int, Nat.zero_add, Nat.add_zero, Nat.le_refl, eq_self, ne_eq, reduceCtorEq, or_true, true_or, or_false, false_or, Bool.or_true, Bool.or_false, Bool.true_or, Bool.false_or, Nat.zero_le, Int.le_refl, Int.ofNat_zero, Int.ofNat_one, Bool.false_eq_true]
          try simp only [ab_in]
          (repeat' (first | intro _ | refine And.intro ?_ ?_)) <;> (first | exact ih' | contradiction | omega | (exfalso; omega))
        refine hV (fun p => bif p == 12 then true else p == 31) 80 _ _ _ _ _ _ ?_
        simp only [bI_in, bI_0, bI_1, bI_t, bI_f, bI_01, ae_bipush, ae_if_icmp, ae_iload_n, dX3_digest_6, dX3_digest_7, dX3_digest_9, ca_X3_digest_216, ca_X3_digest_222, ca_X3_digest_120, ca_X3_digest_225, ab_wp0, ab_wps, ab_stp, ab_g, ab_st, ab_k2, ab_cl, ab_pop, ab_sz, ab_2, ab_ret, ab_f4, ab_tg, ab_I, ab_II, ab_A, ab_Rf, ab_VR, ab_IR, ab_VIR, ab_1, ab_LL, ab_DD, ab_ob, ab_pr, ab_qr, ab_ln, ab_so, ab_vI, ab_vA, ab_vD, ab_vL, ab_v2, ab_c, ab_fit, ab_rv, ab_tsw, ab_lsw, ab_up_eq, Fin.isValue, ab_f0, ab_f1, ab_f2, ab_f3, List.getElem?_cons_zero, List.getElem?_cons_succ, List.set_cons_zero, List.set_cons_succ, List.length_cons, List.length_nil, List.size_toArray, List.head?_cons, List.tail_cons, Option.map_some, cond_true, cond_false, true_and, and_true, false_and, and_false, not_true_eq_false, not_false_eq_true, true_imp_iff, false_imp_iff, if_true, if_false, ite_true, ite_false, ↓reduceIte, Nat.reduceAdd, Nat.reduceEqDiff, Nat.reduceLeDiff, Nat.reduceLT, Nat.reduceBEq, Nat.reduceBNe, Int.reduceAdd, Int.reduceNeg, Int.reduceSub, Int.reduceLE, Int.reduceLT, Int.reduceToNat, Int.reduceEq, Int.reduceMul, Int.cast_ofNat_Int, Nat.zero_add, Nat.add_zero, Nat.le_refl, eq_self, ne_eq, reduceCtorEq, or_true, true_or, or_false, false_or, Bool.or_true, Bool.or_false, Bool.true_or, Bool.false_or, Nat.zero_le, Int.le_refl, Int.ofNat_zero, Int.ofNat_one, Bool.false_eq_true]
        try simp only [ab_in]
        (repeat' (first | intro _ | refine And.intro ?_ ?_)) <;> (first | exact l12 | contradiction | omega | (exfalso; omega))
    have l0 := loop1 7 0 919 (by omega) (by omega) hK
    refine hV (fun p => p == 6) 80 _ _ _ _ _ _ ?_
    simp only [bI_in, bI_0, bI_1, bI_t, bI_f, bI_01, ae_iconst, ae_istore_n, ae_ldc2_w, ae_lstore_n, dX3_digest_0, dX3_digest_3, dX3_digest_4, dX3_digest_5, tbX3_c212, ca_X3_digest_216, ca_X3_digest_222, ca_X3_digest_120, ca_X3_digest_225, ab_wp0, ab_wps, ab_stp, ab_g, ab_st, ab_k2, ab_cl, ab_pop, ab_sz, ab_2, ab_ret, ab_f4, ab_tg, ab_I, ab_II, ab_A, ab_Rf, ab_VR, ab_IR, ab_VIR, ab_1, ab_LL, ab_DD, ab_ob, ab_pr, ab_qr, ab_ln, ab_so, ab_vI, ab_vA, ab_vD, ab_vL, ab_v2, ab_c, ab_fit, ab_rv, ab_tsw, ab_lsw, ab_up_eq, Fin.isValue, ab_f0, ab_f1, ab_f2, ab_f3, List.getElem?_cons_zero, List.getElem?_cons_succ, List.set_cons_zero, List.set_cons_succ, List.length_cons, List.length_nil, List.size_toArray, List.head?_cons, List.tail_cons, Option.map_some, cond_true, cond_false, true_and, and_true, false_and, and_false, not_true_eq_false, not_false_eq_true, true_imp_iff, false_imp_iff, if_true, if_false, ite_true, ite_false, ↓reduceIte, Nat.reduceAdd, Nat.reduceEqDiff, Nat.reduceLeDiff, Nat.reduceLT, Nat.reduceBEq, Nat.reduceBNe, Int.reduceAdd, Int.reduceNeg, Int.reduceSub, Int.reduceLE, Int.reduceLT, Int.reduceToNat, Int.reduceEq, Int.reduceMul, Int.cast_ofNat_Int, Nat.zero_add, Nat.add_zero, Nat.le_refl, eq_self, ne_eq, reduceCtorEq, or_true, true_or, or_false, false_or, Bool.or_true, Bool.or_false, Bool.true_or, Bool.false_or, Nat.zero_le, Int.le_refl, Int.ofNat_zero, Int.ofNat_one, Bool.false_eq_true]
    try simp only [ab_in]
    (repeat' (first | intro _ | refine And.intro ?_ ?_)) <;> (first | exact l0 | contradiction | omega | (exfalso; omega))
  · exact hT.elim
set_option maxRecDepth 100000 in
theorem con_X3_digest (l : Launch) (D : va_G) (ty : Nat → ClassId) (base : Nat) : ab_Con l D vwCl ty lw_ts base lw_wd yX3_digest cX3_digest 6 (some .long) 5 111 0 0 Tr_X3_digest :=
  ab_con_of (own := RX3) (rt := 5) (tb := tbX3) (ini := false) (ca := ca_X3_digest) (by decide +kernel) rfl (fun h => by cases h) rfl lw_wd_ok wtbX3 lw_ar cm_X3_digest
    (fun p e R s m args below meth c K hcx => by
      obtain ⟨hx, hb, hml, hown, hF, rfl⟩ := hcx
      exact ab_lk_all (ab_all_c (ab_tc_V hx hb hml hown lw_wd_ok hF ⟨rfl, rfl⟩ (con_X3_count l D ty base) rfl (lw_wi (by decide +kernel) (by decide +kernel)) (lw_wi (by decide +kernel) (by decide +kernel)) (lw_wi (by decide +kernel) (by decide +kernel)) (lw_wi (by decide +kernel) (by decide +kernel)) (lw_wi (by decide +kernel) (by decide +kernel)) (by decide +kernel) ⟨by decide, by decide⟩) (ab_all_c (ab_tc_V hx hb hml hown lw_wd_ok hF ⟨rfl, rfl⟩ (con_X3_place l D ty base) rfl (lw_wi (by decide +kernel) (by decide +kernel)) (lw_wi (by decide +kernel) (by decide +kernel)) (lw_wi (by decide +kernel) (by decide +kernel)) (lw_wi (by decide +kernel) (by decide +kernel)) (lw_wi (by decide +kernel) (by decide +kernel)) (by decide +kernel) ⟨by decide, by decide⟩) (ab_all_c (ab_tc_V hx hb hml hown lw_wd_ok hF ⟨rfl, rfl⟩ (con_X2_told l D ty base) rfl (lw_wi (by decide +kernel) (by decide +kernel)) (lw_wi (by decide +kernel) (by decide +kernel)) (lw_wi (by decide +kernel) (by decide +kernel)) (lw_wi (by decide +kernel) (by decide +kernel)) (lw_wi (by decide +kernel) (by decide +kernel)) (by decide +kernel) ⟨by decide, by decide⟩) (ab_all_c (ab_tc_V hx hb hml hown lw_wd_ok hF ⟨rfl, rfl⟩ (con_X2_isFromRight l D ty base) rfl (lw_wi (by decide +kernel) (by decide +kernel)) (lw_wi (by decide +kernel) (by decide +kernel)) (lw_wi (by decide +kernel) (by decide +kernel)) (lw_wi (by decide +kernel) (by decide +kernel)) (lw_wi (by decide +kernel) (by decide +kernel)) (by decide +kernel) ⟨by decide, by decide⟩) (ab_all_n))))))
    (by intro as h K ht; unfold Tr_X3_digest at ht; split at ht <;> first | exact ht.elim | exact Nat.le_of_ble_eq_true rfl) (sem_X3_digest base)
