/-! ===== SlateRoofs: its other methods, legal arguments ===== -/
noncomputable def Tr_X3_slate : ATr := fun as h K => match as with
  | [.inr (.inl (some a)), .inl s, .inl what] => ab_so (ab_sr h a) fun P => ((0 ≤ s ∧ s < P.2.1.laid) ∧ 0 ≤ what ∧ what ≤ 7) ∧ K (some (.inl (tellF P.2.1 s what))) h
  | _ => False
theorem mo_X3_slate : ab_mo Tr_X3_slate := by
  intro as h K K' hk ht
  unfold Tr_X3_slate at ht ⊢
  split at ht
  · exact ab_so_mo (fun P q => ⟨q.1, hk _ _ q.2⟩) ht
  · exact ht.elim
def ca_X3_slate : Nat → Option ACS := ab_lk [(67, (0, 1, 2, 0, 0, Tr_X1_isKnown)), (113, (2, 0, 2, 0, 0, Tr_X3_isUpTo)), (129, (0, 1, 3, 0, 0, Tr_X1_tellSlate))]
theorem ca_X3_slate_67 : ca_X3_slate 67 = some (0, 1, 2, 0, 0, Tr_X1_isKnown) := rfl
theorem ca_X3_slate_113 : ca_X3_slate 113 = some (2, 0, 2, 0, 0, Tr_X3_isUpTo) := rfl
theorem ca_X3_slate_129 : ca_X3_slate 129 = some (0, 1, 3, 0, 0, Tr_X1_tellSlate) := rfl
theorem cm_X3_slate : ∀ i q, ca_X3_slate i = some q → ab_moq i q := ab_lk_all (ab_all_c mo_X1_isKnown (ab_all_c mo_X3_isUpTo (ab_all_c mo_X1_tellSlate (ab_all_n))))
set_option maxRecDepth 100000 in
set_option maxHeartbeats 4000000 in
theorem sem_X3_slate (base : Nat) : ab_Sem tbX3 lw_ts base cX3_slate ca_X3_slate 1 3 0 0 (fun as => ab_en as 3) Tr_X3_slate := by
  intro as h K hT V hV
  unfold Tr_X3_slate at hT
  split at hT
  · rename_i a s what
    obtain ⟨⟨⟨⟨r, ns⟩, ⟨t, ms⟩, ⟨c, n⟩, b, q0, q1, q2, q3⟩, S, O, f, T⟩, hP, hs, hK⟩ := ab_so_el hT
    have hA := sr_el hP
    obtain ⟨D, D0, D1, D2, D3, -⟩ := id hA
    dsimp only at D D0 D1 D2 D3
    try dsimp only at hK hs
    show V 0 [some (.inr (.inl (some a))), some (.inl s), some (.inl what)] [] h 0 0
    obtain ⟨-, m0, m1, m2, m3, m4, m5, m6, m7, m8, -, -, e9, -⟩ := roof_el D0
    have hl := (roof_el D0).1.laid_r
    have hu : isUpToF what 7 = true := decide_eq_true hs.2
    have hk : isKnownF S s = true := decide_eq_true (by omega)
    refine hV (fun _ => false) 80 _ _ _ _ _ _ ?_
    simp only [D, D0, e9, hu, hk, bI_in, bI_0, bI_1, bI_t, bI_f, bI_01, Tr_X1_isKnown, Tr_X3_isUpTo, Tr_X1_tellSlate, ae_aload_n, ae_bipush, ae_dup, ae_getfield, ae_ifCond, ae_iload_n, ae_invokespecial, ae_invokestatic, ae_invokevirtual, ae_ireturn, ae_ldc, ae_new, dX3_slate_0, dX3_slate_1, dX3_slate_4, dX3_slate_5, dX3_slate_8, dX3_slate_11, dX3_slate_12, dX3_slate_14, dX3_slate_17, dX3_slate_20, dX3_slate_23, dX3_slate_24, dX3_slate_26, dX3_slate_29, dX3_slate_30, dX3_slate_31, dX3_slate_34, dX3_slate_35, dX3_slate_36, dX3_slate_39, tbX3_g12, ca_X3_slate_67, ca_X3_slate_113, ca_X3_slate_129, ab_wp0, ab_wps, ab_stp, ab_g, ab_st, ab_k2, ab_cl, ab_pop, ab_sz, ab_2, ab_ret, ab_f4, ab_tg, ab_I, ab_II, ab_A, ab_Rf, ab_VR, ab_IR, ab_VIR, ab_1, ab_LL, ab_DD, ab_ob, ab_pr, ab_qr, ab_ln, ab_so, ab_vI, ab_vA, ab_vD, ab_vL, ab_v2, ab_c, ab_fit, ab_rv, ab_tsw, ab_lsw, ab_up_eq, Fin.isValue, ab_f0, ab_f1, ab_f2, ab_f3, List.getElem?_cons_zero, List.getElem?_cons_succ, List.set_cons_zero, List.set_cons_succ, List.length_cons, List.length_nil, List.size_toArray, List.head?_cons, List.tail_cons, Option.map_some, cond_true, cond_false, true_and, and_true, false_and, and_false, not_true_eq_false, not_false_eq_true, true_imp_iff, false_imp_iff, if_true, if_false, ite_true, ite_false, ↓reduceIte, Nat.reduceAdd, Nat.reduceEqDiff, Nat.reduceLeDiff, Nat.reduceLT, Nat.reduceBEq, Nat.reduceBNe, Int.reduceAdd, Int.reduceNeg, Int.reduceSub, Int.reduceLE, Int.reduceLT, Int.reduceToNat, Int.reduceEq, Int.reduceMul, Int.cast_ofNat_Int, Nat.zero_add, Nat.add_zero, Nat.le_refl, eq_self, ne_eq, reduceCtorEq, or_true, true_or, or_false, false_or, Bool.or_true, Bool.or_false, Bool.true_or, Bool.false_or, Nat.zero_le, Int.le_refl, Int.ofNat_zero, Int.ofNat_one, Bool.false_eq_true]
    try simp only [ab_in] at hs ⊢
    (repeat' (first | intro _ | refine And.intro ?_ ?_)) <;> (first | exact hK | exact rfl | contradiction | omega | (exfalso; omega))
  · exact hT.elim
set_option maxRecDepth 100000 in
theorem con_X3_slate (l : Launch) (D : va_G) (ty : Nat → ClassId) (base : Nat) : ab_Con l D vwCl ty lw_ts base lw_wd yX3_slate cX3_slate 3 (some .int) 4 92 0 0 Tr_X3_slate :=
  ab_con_of (own := RX3) (rt := 1) (tb := tbX3) (ini := false) (ca := ca_X3_slate) (by decide +kernel) rfl (fun h => by cases h) rfl lw_wd_ok wtbX3 lw_ar cm_X3_slate
    (fun p e R s m args below meth c K hcx => by
      obtain ⟨hx, hb, hml, hown, hF, rfl⟩ := hcx
      exact ab_lk_all (ab_all_c (ab_tc_V hx hb hml hown lw_wd_ok hF ⟨rfl, rfl⟩ (con_X1_isKnown l D ty base) rfl (lw_wi (by decide +kernel) (by decide +kernel)) (lw_wi (by decide +kernel) (by decide +kernel)) (lw_wi (by decide +kernel) (by decide +kernel)) (lw_wi (by decide +kernel) (by decide +kernel)) (lw_wi (by decide +kernel) (by decide +kernel)) (by decide +kernel) ⟨by decide, by decide⟩) (ab_all_c (ab_tc_S hx hb hml hown lw_wd_ok hF ⟨rfl, rfl⟩ (con_X3_isUpTo l D ty base) (lw_wi (by decide +kernel) (by decide +kernel)) (lw_wi (by decide +kernel) (by decide +kernel)) (lw_wi (by decide +kernel) (by decide +kernel)) (lw_wi (by decide +kernel) (by decide +kernel)) (by decide +kernel) ⟨by decide, by decide⟩) (ab_all_c (ab_tc_V hx hb hml hown lw_wd_ok hF ⟨rfl, rfl⟩ (con_X1_tellSlate l D ty base) rfl (lw_wi (by decide +kernel) (by decide +kernel)) (lw_wi (by decide +kernel) (by decide +kernel)) (lw_wi (by decide +kernel) (by decide +kernel)) (lw_wi (by decide +kernel) (by decide +kernel)) (lw_wi (by decide +kernel) (by decide +kernel)) (by decide +kernel) ⟨by decide, by decide⟩) (ab_all_n)))))
    (by intro as h K ht; unfold Tr_X3_slate at ht; split at ht <;> first | exact ht.elim | exact Nat.le_of_ble_eq_true rfl) (sem_X3_slate base)
def placeF (S : RS) (x y what : Int) : Int := if what = 0 then numberAtF S x y else if what = 1 then bI (coveredF S x y) else rotAtF S x y
noncomputable def Tr_X3_place : ATr := fun as h K => match as with
  | [.inr (.inl (some a)), .inl x, .inl y, .inl what] => ab_so (ab_sr h a) fun P => ((0 ≤ x ∧ x < 12 ∧ 0 ≤ y ∧ y < 8) ∧ 0 ≤ what ∧ what ≤ 2) ∧ K (some (.inl (placeF P.2.1 x y what))) h
  | _ => False
theorem mo_X3_place : ab_mo Tr_X3_place := by
  intro as h K K' hk ht
  unfold Tr_X3_place at ht ⊢
  split at ht
  · exact ab_so_mo (fun P q => ⟨q.1, hk _ _ q.2⟩) ht
  · exact ht.elim
def ca_X3_place : Nat → Option ACS := ab_lk [(94, (2, 0, 2, 0, 0, Tr_X3_isPlace)), (113, (2, 0, 2, 0, 0, Tr_X3_isUpTo)), (100, (0, 1, 3, 0, 0, Tr_X1_numberAt)), (134, (0, 1, 3, 0, 0, Tr_X1_isCovered)), (106, (0, 1, 3, 0, 0, Tr_X1_rotAt))]
theorem ca_X3_place_94 : ca_X3_place 94 = some (2, 0, 2, 0, 0, Tr_X3_isPlace) := rfl
theorem ca_X3_place_113 : ca_X3_place 113 = some (2, 0, 2, 0, 0, Tr_X3_isUpTo) := rfl
theorem ca_X3_place_100 : ca_X3_place 100 = some (0, 1, 3, 0, 0, Tr_X1_numberAt) := rfl
theorem ca_X3_place_134 : ca_X3_place 134 = some (0, 1, 3, 0, 0, Tr_X1_isCovered) := rfl
theorem ca_X3_place_106 : ca_X3_place 106 = some (0, 1, 3, 0, 0, Tr_X1_rotAt) := rfl
theorem cm_X3_place : ∀ i q, ca_X3_place i = some q → ab_moq i q := ab_lk_all (ab_all_c mo_X3_isPlace (ab_all_c mo_X3_isUpTo (ab_all_c mo_X1_numberAt (ab_all_c mo_X1_isCovered (ab_all_c mo_X1_rotAt (ab_all_n))))))
set_option maxRecDepth 100000 in
set_option maxHeartbeats 4000000 in
theorem sem_X3_place (base : Nat) : ab_Sem tbX3 lw_ts base cX3_place ca_X3_place 1 4 0 0 (fun as => ab_en as 4) Tr_X3_place := by
  intro as h K hT V hV
  unfold Tr_X3_place at hT
  split at hT
  · rename_i a x y what
    obtain ⟨⟨⟨⟨r, ns⟩, ⟨t, ms⟩, ⟨c, n⟩, b, q0, q1, q2, q3⟩, S, O, f, T⟩, hP, hs, hK⟩ := ab_so_el hT
    have hA := sr_el hP
    obtain ⟨D, D0, D1, D2, D3, -⟩ := id hA
    dsimp only at D D0 D1 D2 D3
    try dsimp only at hK hs
    show V 0 [some (.inr (.inl (some a))), some (.inl x), some (.inl y), some (.inl what)] [] h 0 0
    obtain ⟨-, m0, m1, m2, m3, m4, m5, m6, m7, m8, -, -, e9, -⟩ := roof_el D0
    have hp : isPlaceF x y = true := decide_eq_true hs.1
    have hu : isUpToF what 2 = true := decide_eq_true hs.2
    have k0 : what = 0 → K (some (.inl (numberAtF S x y))) h := fun q => by rw [placeF, if_pos q] at hK; exact hK
    have k1 : what = 1 → K (some (.inl (bI (coveredF S x y)))) h := fun q => by rw [placeF, if_neg (by omega), if_pos q] at hK; exact hK
    have k2 : ¬ what = 0 → ¬ what = 1 → K (some (.inl (rotAtF S x y))) h := fun q q2 => by rw [placeF, if_neg q, if_neg q2] at hK; exact hK
    cases hcv : coveredF S x y
    · simp only [hcv, bI_f] at k1
      refine hV (fun _ => false) 80 _ _ _ _ _ _ ?_
      simp only [D, D0, e9, hp, hu, hcv, bI_in, bI_0, bI_1, bI_t, bI_f, bI_01, Tr_X3_isPlace, Tr_X3_isUpTo, Tr_X1_numberAt, Tr_X1_isCovered, Tr_X1_rotAt, ae_aload_n, ae_dup, ae_getfield, ae_goto, ae_iconst, ae_ifCond, ae_iload_n, ae_invokespecial, ae_invokestatic, ae_invokevirtual, ae_ireturn, ae_ldc, ae_lookupswitch, ae_new, dX3_place_0, dX3_place_1, dX3_place_2, dX3_place_5, dX3_place_8, dX3_place_9, dX3_place_10, dX3_place_13, dX3_place_16, dX3_place_19, dX3_place_20, dX3_place_22, dX3_place_25, dX3_place_26, dX3_place_27, dX3_place_52, dX3_place_53, dX3_place_56, dX3_place_57, dX3_place_58, dX3_place_61, dX3_place_62, dX3_place_63, dX3_place_66, dX3_place_67, dX3_place_68, dX3_place_71, dX3_place_74, dX3_place_75, dX3_place_78, dX3_place_79, dX3_place_80, dX3_place_81, dX3_place_84, dX3_place_85, dX3_place_86, dX3_place_89, tbX3_g12, ca_X3_place_94, ca_X3_place_113, ca_X3_place_100, ca_X3_place_134, ca_X3_place_106, ab_wp0, ab_wps, ab_stp, ab_g, ab_st, ab_k2, ab_cl, ab_pop, ab_sz, ab_2, ab_ret, ab_f4, ab_tg, ab_I, ab_II, ab_A, ab_Rf, ab_VR, ab_IR, ab_VIR, ab_1, ab_LL, ab_DD, ab_ob, ab_pr, ab_qr, ab_ln, ab_so, ab_vI, ab_vA, ab_vD, ab_vL, ab_v2, ab_c, ab_fit, ab_rv, ab_tsw, ab_lsw, ab_up_eq, Fin.isValue, ab_f0, ab_f1, ab_f2, ab_f3, List.getElem?_cons_zero, List.getElem?_cons_succ, List.set_cons_zero, List.set_cons_succ, List.length_cons, List.length_nil, List.size_toArray, List.head?_cons, List.tail_cons, Option.map_some, cond_true, cond_false, true_and, and_true, false_and, and_false, not_true_eq_false, not_false_eq_true, true_imp_iff, false_imp_iff, if_true, if_false, ite_true, ite_false, ↓reduceIte, Nat.reduceAdd, Nat.reduceEqDiff, Nat.reduceLeDiff, Nat.reduceLT, Nat.reduceBEq, Nat.reduceBNe, Int.reduceAdd, Int.reduceNeg, Int.reduceSub, Int.reduceLE, Int.reduceLT, Int.reduceToNat, Int.reduceEq, Int.reduceMul, Int.cast_ofNat_Int, Nat.zero_add, Nat.add_zero, Nat.le_refl, eq_self, ne_eq, reduceCtorEq, or_true, true_or, or_false, false_or, Bool.or_true, Bool.or_false, Bool.true_or, Bool.false_or, Nat.zero_le, Int.le_refl, Int.ofNat_zero, Int.ofNat_one, Bool.false_eq_true]
      try simp only [ab_in] at hs ⊢
      (repeat' (first | intro _ | refine And.intro ?_ ?_)) <;> (first | exact k0 (by omega) | exact k1 (by omega) | exact k2 (by omega) (by omega) | exact rfl | contradiction | omega | (exfalso; omega))
    · simp only [hcv, bI_t] at k1
      refine hV (fun _ => false) 80 _ _ _ _ _ _ ?_
      simp only [D, D0, e9, hp, hu, hcv, bI_in, bI_0, bI_1, bI_t, bI_f, bI_01, Tr_X3_isPlace, Tr_X3_isUpTo, Tr_X1_numberAt, Tr_X1_isCovered, Tr_X1_rotAt, ae_aload_n, ae_dup, ae_getfield, ae_goto, ae_iconst, ae_ifCond, ae_iload_n, ae_invokespecial, ae_invokestatic, ae_invokevirtual, ae_ireturn, ae_ldc, ae_lookupswitch, ae_new, dX3_place_0, dX3_place_1, dX3_place_2, dX3_place_5, dX3_place_8, dX3_place_9, dX3_place_10, dX3_place_13, dX3_place_16, dX3_place_19, dX3_place_20, dX3_place_22, dX3_place_25, dX3_place_26, dX3_place_27, dX3_place_52, dX3_place_53, dX3_place_56, dX3_place_57, dX3_place_58, dX3_place_61, dX3_place_62, dX3_place_63, dX3_place_66, dX3_place_67, dX3_place_68, dX3_place_71, dX3_place_74, dX3_place_75, dX3_place_78, dX3_place_79, dX3_place_80, dX3_place_81, dX3_place_84, dX3_place_85, dX3_place_86, dX3_place_89, tbX3_g12, ca_X3_place_94, ca_X3_place_113, ca_X3_place_100, ca_X3_place_134, ca_X3_place_106, ab_wp0, ab_wps, ab_stp, ab_g, ab_st, ab_k2, ab_cl, ab_pop, ab_sz, ab_2, ab_ret, ab_f4, ab_tg, ab_I, ab_II, ab_A, ab_Rf, ab_VR, ab_IR, ab_VIR, ab_1, ab_LL, ab_DD, ab_ob, ab_pr, ab_qr, ab_ln, ab_so, ab_vI, ab_vA, ab_vD, ab_vL, ab_v2, ab_c, ab_fit, ab_rv, ab_tsw, ab_lsw, ab_up_eq, Fin.isValue, ab_f0, ab_f1, ab_f2, ab_f3, List.getElem?_cons_zero, List.getElem?_cons_succ, List.set_cons_zero, List.set_cons_succ, List.length_cons, List.length_nil, List.size_toArray, List.head?_cons, List.tail_cons, Option.map_some, cond_true, cond_false, true_and, and_true, false_and, and_false, not_true_eq_false, not_false_eq_true, true_imp_iff, false_imp_iff, if_true, if_false, ite_true, ite_false, ↓reduceIte, Nat.reduceAdd, Nat.reduceEqDiff, Nat.reduceLeDiff, Nat.reduceLT, Nat.reduceBEq, Nat.reduceBNe, Int.reduceAdd, Int.reduceNeg, Int.reduceSub, Int.reduceLE, Int.reduceLT, Int.reduceToNat, Int.reduceEq, Int.reduceMul, Int.cast_ofNat_Int, Nat.zero_add, Nat.add_zero, Nat.le_refl, eq_self, ne_eq, reduceCtorEq, or_true, true_or, or_false, false_or, Bool.or_true, Bool.or_false, Bool.true_or, Bool.false_or, Nat.zero_le, Int.le_refl, Int.ofNat_zero, Int.ofNat_one, Bool.false_eq_true]
      try simp only [ab_in] at hs ⊢
      (repeat' (first | intro _ | refine And.intro ?_ ?_)) <;> (first | exact k0 (by omega) | exact k1 (by omega) | exact k2 (by omega) (by omega) | exact rfl | contradiction | omega | (exfalso; omega))
  · exact hT.elim
set_option maxRecDepth 100000 in
theorem con_X3_place (l : Launch) (D : va_G) (ty : Nat → ClassId) (base : Nat) : ab_Con l D vwCl ty lw_ts base lw_wd yX3_place cX3_place 4 (some .int) 3 67 0 0 Tr_X3_place :=
  ab_con_of (own := RX3) (rt := 1) (tb := tbX3) (ini := false) (ca := ca_X3_place) (by decide +kernel) rfl (fun h => by cases h) rfl lw_wd_ok wtbX3 lw_ar cm_X3_place
    (fun p e R s m args below meth c K hcx => by
      obtain ⟨hx, hb, hml, hown, hF, rfl⟩ := hcx
      exact ab_lk_all (ab_all_c (ab_tc_S hx hb hml hown lw_wd_ok hF ⟨rfl, rfl⟩ (con_X3_isPlace l D ty base) (lw_wi (by decide +kernel) (by decide +kernel)) (lw_wi (by decide +kernel) (by decide +kernel)) (lw_wi (by decide +kernel) (by decide +kernel)) (lw_wi (by decide +kernel) (by decide +kernel)) (by decide +kernel) ⟨by decide, by decide⟩) (ab_all_c (ab_tc_S hx hb hml hown lw_wd_ok hF ⟨rfl, rfl⟩ (con_X3_isUpTo l D ty base) (lw_wi (by decide +kernel) (by decide +kernel)) (lw_wi (by decide +kernel) (by decide +kernel)) (lw_wi (by decide +kernel) (by decide +kernel)) (lw_wi (by decide +kernel) (by decide +kernel)) (by decide +kernel) ⟨by decide, by decide⟩) (ab_all_c (ab_tc_V hx hb hml hown lw_wd_ok hF ⟨rfl, rfl⟩ (con_X1_numberAt l D ty base) rfl (lw_wi (by decide +kernel) (by decide +kernel)) (lw_wi (by decide +kernel) (by decide +kernel)) (lw_wi (by decide +kernel) (by decide +kernel)) (lw_wi (by decide +kernel) (by decide +kernel)) (lw_wi (by decide +kernel) (by decide +kernel)) (by decide +kernel) ⟨by decide, by decide⟩) (ab_all_c (ab_tc_V hx hb hml hown lw_wd_ok hF ⟨rfl, rfl⟩ (con_X1_isCovered l D ty base) rfl (lw_wi (by decide +kernel) (by decide +kernel)) (lw_wi (by decide +kernel) (by decide +kernel)) (lw_wi (by decide +kernel) (by decide +kernel)) (lw_wi (by decide +kernel) (by decide +kernel)) (lw_wi (by decide +kernel) (by decide +kernel)) (by decide +kernel) ⟨by decide, by decide⟩) (ab_all_c (ab_tc_V hx hb hml hown lw_wd_ok hF ⟨rfl, rfl⟩ (con_X1_rotAt l D ty base) rfl (lw_wi (by decide +kernel) (by decide +kernel)) (lw_wi (by decide +kernel) (by decide +kernel)) (lw_wi (by decide +kernel) (by decide +kernel)) (lw_wi (by decide +kernel) (by decide +kernel)) (lw_wi (by decide +kernel) (by decide +kernel)) (by decide +kernel) ⟨by decide, by decide⟩) (ab_all_n)))))))
    (by intro as h K ht; unfold Tr_X3_place at ht; split at ht <;> first | exact ht.elim | exact Nat.le_of_ble_eq_true rfl) (sem_X3_place base)
def countF (S : RS) (what : Int) : Int := if what = 0 then S.day else if what = 1 then S.laid else if what = 2 then S.there else if what = 3 then crkThF S else if what = 4 then covPlF S else if what = 5 then S.blown else allRotF S
noncomputable def Tr_X3_count : ATr := fun as h K => match as with
  | [.inr (.inl (some a)), .inl what] => ab_so (ab_sr h a) fun P => (0 ≤ what ∧ what ≤ 6) ∧ K (some (.inl (countF P.2.1 what))) h
  | _ => False
theorem mo_X3_count : ab_mo Tr_X3_count := by
  intro as h K K' hk ht
  unfold Tr_X3_count at ht ⊢
  split at ht
  · exact ab_so_mo (fun P q => ⟨q.1, hk _ _ q.2⟩) ht
  · exact ht.elim
def ca_X3_count : Nat → Option ACS := ab_lk [(113, (2, 0, 2, 0, 0, Tr_X3_isUpTo)), (142, (0, 1, 1, 0, 0, Tr_X1_crackedThere)), (146, (0, 1, 1, 0, 0, Tr_X1_coveredPlaces)), (152, (0, 1, 1, 0, 0, Tr_X1_allRot))]
theorem ca_X3_count_113 : ca_X3_count 113 = some (2, 0, 2, 0, 0, Tr_X3_isUpTo) := rfl
theorem ca_X3_count_142 : ca_X3_count 142 = some (0, 1, 1, 0, 0, Tr_X1_crackedThere) := rfl
theorem ca_X3_count_146 : ca_X3_count 146 = some (0, 1, 1, 0, 0, Tr_X1_coveredPlaces) := rfl
theorem ca_X3_count_152 : ca_X3_count 152 = some (0, 1, 1, 0, 0, Tr_X1_allRot) := rfl
theorem cm_X3_count : ∀ i q, ca_X3_count i = some q → ab_moq i q := ab_lk_all (ab_all_c mo_X3_isUpTo (ab_all_c mo_X1_crackedThere (ab_all_c mo_X1_coveredPlaces (ab_all_c mo_X1_allRot (ab_all_n)))))
set_option maxRecDepth 100000 in
set_option maxHeartbeats 4000000 in
theorem sem_X3_count (base : Nat) : ab_Sem tbX3 lw_ts base cX3_count ca_X3_count 1 2 0 0 (fun as => ab_en as 2) Tr_X3_count := by
  intro as h K hT V hV
  unfold Tr_X3_count at hT
  split at hT
  · rename_i a what
    obtain ⟨⟨⟨⟨r, ns⟩, ⟨t, ms⟩, ⟨c, n⟩, b, q0, q1, q2, q3⟩, S, O, f, T⟩, hP, hs, hK⟩ := ab_so_el hT
    have hA := sr_el hP
    obtain ⟨D, D0, D1, D2, D3, -⟩ := id hA
    dsimp only at D D0 D1 D2 D3
    try dsimp only at hK hs
    show V 0 [some (.inr (.inl (some a))), some (.inl what)] [] h 0 0
    obtain ⟨-, m0, m1, m2, m3, m4, m5, m6, m7, m8, -, -, e9, -⟩ := roof_el D0
    have hu : isUpToF what 6 = true := decide_eq_true hs
    have k0 : what = 0 → K (some (.inl S.day)) h := fun q => by subst q; exact hK
    have k1 : what = 1 → K (some (.inl S.laid)) h := fun q => by subst q; exact hK
    have k2 : what = 2 → K (some (.inl S.there)) h := fun q => by subst q; exact hK
    have k3 : what = 3 → K (some (.inl (crkThF S))) h := fun q => by subst q; exact hK
    have k4 : what = 4 → K (some (.inl (covPlF S))) h := fun q => by subst q; exact hK
    have k5 : what = 5 → K (some (.inl S.blown)) h := fun q => by subst q; exact hK
    have k6 : what = 6 → K (some (.inl (allRotF S))) h := fun q => by subst q; exact hK
    refine hV (fun _ => false) 80 _ _ _ _ _ _ ?_
    simp only [D, D0, e9, hu, bI_in, bI_0, bI_1, bI_t, bI_f, bI_01, Tr_X3_isUpTo, Tr_X1_crackedThere, Tr_X1_coveredPlaces, Tr_X1_allRot, ae_aload_n, ae_bipush, ae_dup, ae_getfield, ae_ifCond, ae_iload_n, ae_invokespecial, ae_invokestatic, ae_invokevirtual, ae_ireturn, ae_ldc, ae_new, ae_tableswitch, dX3_count_0, dX3_count_1, dX3_count_3, dX3_count_6, dX3_count_9, dX3_count_12, dX3_count_13, dX3_count_15, dX3_count_18, dX3_count_19, dX3_count_20, dX3_count_60, dX3_count_61, dX3_count_64, dX3_count_67, dX3_count_68, dX3_count_69, dX3_count_72, dX3_count_75, dX3_count_76, dX3_count_77, dX3_count_80, dX3_count_83, dX3_count_84, dX3_count_85, dX3_count_88, dX3_count_91, dX3_count_92, dX3_count_93, dX3_count_96, dX3_count_99, dX3_count_100, dX3_count_101, dX3_count_104, dX3_count_107, dX3_count_108, dX3_count_109, dX3_count_112, dX3_count_115, tbX3_g12, tbX3_g139, tbX3_g149, tbX3_g48, tbX3_g52, ca_X3_count_113, ca_X3_count_142, ca_X3_count_146, ca_X3_count_152, ab_wp0, ab_wps, ab_stp, ab_g, ab_st, ab_k2, ab_cl, ab_pop, ab_sz, ab_2, ab_ret, ab_f4, ab_tg, ab_I, ab_II, ab_A, ab_Rf, ab_VR, ab_IR, ab_VIR, ab_1, ab_LL, ab_DD, ab_ob, ab_pr, ab_qr, ab_ln, ab_so, ab_vI, ab_vA, ab_vD, ab_vL, ab_v2, ab_c, ab_fit, ab_rv, ab_tsw, ab_lsw, ab_up_eq, Fin.isValue, ab_f0, ab_f1, ab_f2, ab_f3, List.getElem?_cons_zero, List.getElem?_cons_succ, List.set_cons_zero, List.set_cons_succ, List.length_cons, List.length_nil, List.size_toArray, List.head?_cons, List.tail_cons, Option.map_some, cond_true, cond_false, true_and, and_true, false_and, and_false, not_true_eq_false, not_false_eq_true, true_imp_iff, false_imp_iff, if_true, if_false, ite_true, ite_false, ↓reduceIte, Nat.reduceAdd, Nat.reduceEqDiff, Nat.reduceLeDiff, Nat.reduceLT, Nat.reduceBEq, Nat.reduceBNe, Int.reduceAdd, Int.reduceNeg, Int.reduceSub, Int.reduceLE, Int.reduceLT, Int.reduceToNat, Int.reduceEq, Int.reduceMul, Int.cast_ofNat_Int, Nat.zero_add, Nat.add_zero, Nat.le_refl, eq_self, ne_eq, reduceCtorEq, or_true, true_or, or_false, false_or, Bool.or_true, Bool.or_false, Bool.true_or, Bool.false_or, Nat.zero_le, Int.le_refl, Int.ofNat_zero, Int.ofNat_one, Bool.false_eq_true]
    try simp only [ab_in] at hs ⊢
    (repeat' (first | intro _ | refine And.intro ?_ ?_)) <;> (first | exact k0 (by omega) | exact k1 (by omega) | exact k2 (by omega) | exact k3 (by omega) | exact k4 (by omega) | exact k5 (by omega) | exact k6 (by omega) | exact rfl | contradiction | omega | (exfalso; omega))
  · exact hT.elim
set_option maxRecDepth 100000 in
theorem con_X3_count (l : Launch) (D : va_G) (ty : Nat → ClassId) (base : Nat) : ab_Con l D vwCl ty lw_ts base lw_wd yX3_count cX3_count 2 (some .int) 4 90 0 0 Tr_X3_count :=
  ab_con_of (own := RX3) (rt := 1) (tb := tbX3) (ini := false) (ca := ca_X3_count) (by decide +kernel) rfl (fun h => by cases h) rfl lw_wd_ok wtbX3 lw_ar cm_X3_count
    (fun p e R s m args below meth c K hcx => by
      obtain ⟨hx, hb, hml, hown, hF, rfl⟩ := hcx
      exact ab_lk_all (ab_all_c (ab_tc_S hx hb hml hown lw_wd_ok hF ⟨rfl, rfl⟩ (con_X3_isUpTo l D ty base) (lw_wi (by decide +kernel) (by decide +kernel)) (lw_wi (by decide +kernel) (by decide +kernel)) (lw_wi (by decide +kernel) (by decide +kernel)) (lw_wi (by decide +kernel) (by decide +kernel)) (by decide +kernel) ⟨by decide, by decide⟩) (ab_all_c (ab_tc_V hx hb hml hown lw_wd_ok hF ⟨rfl, rfl⟩ (con_X1_crackedThere l D ty base) rfl (lw_wi (by decide +kernel) (by decide +kernel)) (lw_wi (by decide +kernel) (by decide +kernel)) (lw_wi (by decide +kernel) (by decide +kernel)) (lw_wi (by decide +kernel) (by decide +kernel)) (lw_wi (by decide +kernel) (by decide +kernel)) (by decide +kernel) ⟨by decide, by decide⟩) (ab_all_c (ab_tc_V hx hb hml hown lw_wd_ok hF ⟨rfl, rfl⟩ (con_X1_coveredPlaces l D ty base) rfl (lw_wi (by decide +kernel) (by decide +kernel)) (lw_wi (by decide +kernel) (by decide +kernel)) (lw_wi (by decide +kernel) (by decide +kernel)) (lw_wi (by decide +kernel) (by decide +kernel)) (lw_wi (by decide +kernel) (by decide +kernel)) (by decide +kernel) ⟨by decide, by decide⟩) (ab_all_c (ab_tc_V hx hb hml hown lw_wd_ok hF ⟨rfl, rfl⟩ (con_X1_allRot l D ty base) rfl (lw_wi (by decide +kernel) (by decide +kernel)) (lw_wi (by decide +kernel) (by decide +kernel)) (lw_wi (by decide +kernel) (by decide +kernel)) (lw_wi (by decide +kernel) (by decide +kernel)) (lw_wi (by decide +kernel) (by decide +kernel)) (by decide +kernel) ⟨by decide, by decide⟩) (ab_all_n))))))
    (by intro as h K ht; unfold Tr_X3_count at ht; split at ht <;> first | exact ht.elim | exact Nat.le_of_ble_eq_true rfl) (sem_X3_count base)
noncomputable def Tr_X3_lift : ATr := fun as h K => match as with
  | [.inr (.inl (some a)), .inl s, .inl force, .inl right] => ab_so (ab_sr h a) fun P => ((0 ≤ s ∧ s < P.2.1.laid ∧ P.2.1.onr s = 1) ∧ (0 ≤ force ∧ force ≤ 20) ∧ (right = 0 ∨ right = 1)) ∧ K (some (.inl (liftF P.2.1 s force right))) h
  | _ => False
theorem mo_X3_lift : ab_mo Tr_X3_lift := by
  intro as h K K' hk ht
  unfold Tr_X3_lift at ht ⊢
  split at ht
  · exact ab_so_mo (fun P q => ⟨q.1, hk _ _ q.2⟩) ht
  · exact ht.elim
def ca_X3_lift : Nat → Option ACS := ab_lk [(67, (0, 1, 2, 0, 0, Tr_X1_isKnown)), (113, (2, 0, 2, 0, 0, Tr_X3_isUpTo)), (157, (0, 1, 2, 0, 0, Tr_X1_isThere)), (162, (0, 1, 4, 0, 0, Tr_X1_liftOf))]
theorem ca_X3_lift_67 : ca_X3_lift 67 = some (0, 1, 2, 0, 0, Tr_X1_isKnown) := rfl
theorem ca_X3_lift_113 : ca_X3_lift 113 = some (2, 0, 2, 0, 0, Tr_X3_isUpTo) := rfl
theorem ca_X3_lift_157 : ca_X3_lift 157 = some (0, 1, 2, 0, 0, Tr_X1_isThere) := rfl
theorem ca_X3_lift_162 : ca_X3_lift 162 = some (0, 1, 4, 0, 0, Tr_X1_liftOf) := rfl
theorem cm_X3_lift : ∀ i q, ca_X3_lift i = some q → ab_moq i q := ab_lk_all (ab_all_c mo_X1_isKnown (ab_all_c mo_X3_isUpTo (ab_all_c mo_X1_isThere (ab_all_c mo_X1_liftOf (ab_all_n)))))
set_option maxRecDepth 100000 in
set_option maxHeartbeats 4000000 in
theorem sem_X3_lift (base : Nat) : ab_Sem tbX3 lw_ts base cX3_lift ca_X3_lift 1 4 0 0 (fun as => ab_en as 4) Tr_X3_lift := by
  intro as h K hT V hV
  unfold Tr_X3_lift at hT
  split at hT
  · rename_i a s force right
    obtain ⟨⟨⟨⟨r, ns⟩, ⟨t, ms⟩, ⟨c, n⟩, b, q0, q1, q2, q3⟩, S, O, f, T⟩, hP, hs, hK⟩ := ab_so_el hT
    have hA := sr_el hP
    obtain ⟨D, D0, D1, D2, D3, -⟩ := id hA
    dsimp only at D D0 D1 D2 D3
    try dsimp only at hK hs
    show V 0 [some (.inr (.inl (some a))), some (.inl s), some (.inl force), some (.inl right)] [] h 0 0
    obtain ⟨-, m0, m1, m2, m3, m4, m5, m6, m7, m8, -, -, e9, -⟩ := roof_el D0
    have hl := (roof_el D0).1.laid_r
    have hu : isUpToF force 20 = true := decide_eq_true hs.2.1
    have hk : isKnownF S s = true := decide_eq_true (by omega)
    have ht : isThereF S s = true := by rw [isThereF, hk, decide_eq_true hs.1.2.2]; rfl
    refine hV (fun _ => false) 80 _ _ _ _ _ _ ?_
    simp only [D, D0, e9, hu, hk, ht, bI_in, bI_0, bI_1, bI_t, bI_f, bI_01, Tr_X3_isUpTo, Tr_X1_isKnown, Tr_X1_isThere, Tr_X1_liftOf, ae_aload_n, ae_bipush, ae_dup, ae_getfield, ae_ifCond, ae_iload_n, ae_invokespecial, ae_invokestatic, ae_invokevirtual, ae_ireturn, ae_ldc, ae_new, dX3_lift_0, dX3_lift_1, dX3_lift_4, dX3_lift_5, dX3_lift_8, dX3_lift_11, dX3_lift_14, dX3_lift_15, dX3_lift_17, dX3_lift_20, dX3_lift_21, dX3_lift_22, dX3_lift_24, dX3_lift_27, dX3_lift_30, dX3_lift_33, dX3_lift_34, dX3_lift_36, dX3_lift_39, dX3_lift_40, dX3_lift_41, dX3_lift_44, dX3_lift_45, dX3_lift_48, dX3_lift_51, dX3_lift_54, dX3_lift_55, dX3_lift_57, dX3_lift_60, dX3_lift_61, dX3_lift_62, dX3_lift_65, dX3_lift_66, dX3_lift_67, dX3_lift_68, dX3_lift_71, tbX3_g12, ca_X3_lift_67, ca_X3_lift_113, ca_X3_lift_157, ca_X3_lift_162, ab_wp0, ab_wps, ab_stp, ab_g, ab_st, ab_k2, ab_cl, ab_pop, ab_sz, ab_2, ab_ret, ab_f4, ab_tg, ab_I, ab_II, ab_A, ab_Rf, ab_VR, ab_IR, ab_VIR, ab_1, ab_LL, ab_DD, ab_ob, ab_pr, ab_qr, ab_ln, ab_so, ab_vI, ab_vA, ab_vD, ab_vL, ab_v2, ab_c, ab_fit, ab_rv, ab_tsw, ab_lsw, ab_up_eq, Fin.isValue, ab_f0, ab_f1, ab_f2, ab_f3, List.getElem?_cons_zero, List.getElem?_cons_succ, List.set_cons_zero, List.set_cons_succ, List.length_cons, List.length_nil, List.size_toArray, List.head?_cons, List.tail_cons, Option.map_some, cond_true, cond_false, true_and, and_true, false_and, and_false, not_true_eq_false, not_false_eq_true, true_imp_iff, false_imp_iff, if_true, if_false, ite_true, ite_false, ↓reduceIte, Nat.reduceAdd, Nat.reduceEqDiff, Nat.reduceLeDiff, Nat.reduceLT, Nat.reduceBEq, Nat.reduceBNe, Int.reduceAdd, Int.reduceNeg, Int.reduceSub, Int.reduceLE, Int.reduceLT, Int.reduceToNat, Int.reduceEq, Int.reduceMul, Int.cast_ofNat_Int, Nat.zero_add, Nat.add_zero, Nat.le_refl, eq_self, ne_eq, reduceCtorEq, or_true, true_or, or_false, false_or, Bool.or_true, Bool.or_false, Bool.true_or, Bool.false_or, Nat.zero_le, Int.le_refl, Int.ofNat_zero, Int.ofNat_one, Bool.false_eq_true]
    try simp only [ab_in] at hs ⊢
    (repeat' (first | intro _ | refine And.intro ?_ ?_)) <;> (first | exact hK | exact rfl | contradiction | omega | (exfalso; omega))
  · exact hT.elim
set_option maxRecDepth 100000 in
theorem con_X3_lift (l : Launch) (D : va_G) (ty : Nat → ClassId) (base : Nat) : ab_Con l D vwCl ty lw_ts base lw_wd yX3_lift cX3_lift 4 (some .int) 2 47 0 0 Tr_X3_lift :=
  ab_con_of (own := RX3) (rt := 1) (tb := tbX3) (ini := false) (ca := ca_X3_lift) (by decide +kernel) rfl (fun h => by cases h) rfl lw_wd_ok wtbX3 lw_ar cm_X3_lift
    (fun p e R s m args below meth c K hcx => by
      obtain ⟨hx, hb, hml, hown, hF, rfl⟩ := hcx
      exact ab_lk_all (ab_all_c (ab_tc_V hx hb hml hown lw_wd_ok hF ⟨rfl, rfl⟩ (con_X1_isKnown l D ty base) rfl (lw_wi (by decide +kernel) (by decide +kernel)) (lw_wi (by decide +kernel) (by decide +kernel)) (lw_wi (by decide +kernel) (by decide +kernel)) (lw_wi (by decide +kernel) (by decide +kernel)) (lw_wi (by decide +kernel) (by decide +kernel)) (by decide +kernel) ⟨by decide, by decide⟩) (ab_all_c (ab_tc_S hx hb hml hown lw_wd_ok hF ⟨rfl, rfl⟩ (con_X3_isUpTo l D ty base) (lw_wi (by decide +kernel) (by decide +kernel)) (lw_wi (by decide +kernel) (by decide +kernel)) (lw_wi (by decide +kernel) (by decide +kernel)) (lw_wi (by decide +kernel) (by decide +kernel)) (by decide +kernel) ⟨by decide, by decide⟩) (ab_all_c (ab_tc_V hx hb hml hown lw_wd_ok hF ⟨rfl, rfl⟩ (con_X1_isThere l D ty base) rfl (lw_wi (by decide +kernel) (by decide +kernel)) (lw_wi (by decide +kernel) (by decide +kernel)) (lw_wi (by decide +kernel) (by decide +kernel)) (lw_wi (by decide +kernel) (by decide +kernel)) (lw_wi (by decide +kernel) (by decide +kernel)) (by decide +kernel) ⟨by decide, by decide⟩) (ab_all_c (ab_tc_V hx hb hml hown lw_wd_ok hF ⟨rfl, rfl⟩ (con_X1_liftOf l D ty base) rfl (lw_wi (by decide +kernel) (by decide +kernel)) (lw_wi (by decide +kernel) (by decide +kernel)) (lw_wi (by decide +kernel) (by decide +kernel)) (lw_wi (by decide +kernel) (by decide +kernel)) (lw_wi (by decide +kernel) (by decide +kernel)) (by decide +kernel) ⟨by decide, by decide⟩) (ab_all_n))))))
    (by intro as h K ht; unfold Tr_X3_lift at ht; split at ht <;> first | exact ht.elim | exact Nat.le_of_ble_eq_true rfl) (sem_X3_lift base)
def shD (c : Int) : UInt64 := FP.ddiv (FP.i2d (Int32.ofInt c)) 4636455816377925632
theorem shD_n0 : ∀ n : Fin 97, vf_n64 (FP.ddiv (FP.i2d (Int32.ofInt (n.val : Int))) 4636455816377925632) := by
  unfold vf_n64
  decide +kernel
theorem shD_n {c : Int} (h0 : 0 ≤ c) (h1 : c ≤ 96) : vf_n64 (FP.ddiv (FP.i2d (Int32.ofInt c)) 4636455816377925632) := by
  have := shD_n0 ⟨c.toNat, by omega⟩
  rw [show ((c.toNat : Nat) : Int) = c by omega] at this
  exact this
theorem sumR_rb {g : Int → Bool} : ∀ (n : Nat) (x : Int), 0 ≤ sumR (fun i => bI (g i)) n x ∧ sumR (fun i => bI (g i)) n x ≤ n := by
  intro n
  induction n with
  | zero => intro x; simp [sumR]
  | succ n ih =>
    intro x
    have h1 := ih (x + 1)
    simp only [sumR]
    cases g x
    · simp only [bI_f]; omega
    · simp only [bI_t]; omega
theorem covPl_r (S : RS) : 0 ≤ covPlF S ∧ covPlF S ≤ 96 := by
  have := sumR_r (f := fun y => sumR (fun x => bI (coveredF S x y)) 12 0) (lo := 0) (hi := 12) (fun y => sumR_rb 12 0) 8 0
  unfold covPlF
  omega
noncomputable def Tr_X3_share : ATr := fun as h K => match as with
  | [.inr (.inl (some a))] => ab_so (ab_sr h a) fun P => (True) ∧ K (some (.inr (.inr (.inr (shD (covPlF P.2.1)))))) h
  | _ => False
theorem mo_X3_share : ab_mo Tr_X3_share := by
  intro as h K K' hk ht
  unfold Tr_X3_share at ht ⊢
  split at ht
  · exact ab_so_mo (fun P q => ⟨q.1, hk _ _ q.2⟩) ht
  · exact ht.elim
def ca_X3_share : Nat → Option ACS := ab_lk [(146, (0, 1, 1, 0, 0, Tr_X1_coveredPlaces))]
theorem ca_X3_share_146 : ca_X3_share 146 = some (0, 1, 1, 0, 0, Tr_X1_coveredPlaces) := rfl
theorem cm_X3_share : ∀ i q, ca_X3_share i = some q → ab_moq i q := ab_lk_all (ab_all_c mo_X1_coveredPlaces (ab_all_n))
set_option maxRecDepth 100000 in
set_option maxHeartbeats 4000000 in
theorem sem_X3_share (base : Nat) : ab_Sem tbX3 lw_ts base cX3_share ca_X3_share 4 1 0 0 (fun as => ab_en as 1) Tr_X3_share := by
  intro as h K hT V hV
  unfold Tr_X3_share at hT
  split at hT
  · rename_i a
    obtain ⟨⟨⟨⟨r, ns⟩, ⟨t, ms⟩, ⟨c, n⟩, b, q0, q1, q2, q3⟩, S, O, f, T⟩, hP, hs, hK⟩ := ab_so_el hT
    have hA := sr_el hP
    obtain ⟨D, D0, D1, D2, D3, -⟩ := id hA
    dsimp only at D D0 D1 D2 D3
    try dsimp only at hK hs
    show V 0 [some (.inr (.inl (some a)))] [] h 0 0
    obtain ⟨-, m0, m1, m2, m3, m4, m5, m6, m7, m8, -, -, e9, -⟩ := roof_el D0
    have hr := covPl_r S
    have hn := shD_n hr.1 hr.2
    unfold shD at hK
    refine hV (fun _ => false) 80 _ _ _ _ _ _ ?_
    simp only [D, D0, e9, bI_in, bI_0, bI_1, bI_t, bI_f, bI_01, Tr_X1_coveredPlaces, ae_aload_n, ae_ddiv, ae_dreturn, ae_getfield, ae_i2d, ae_invokevirtual, ae_ldc2_w, dX3_share_0, dX3_share_1, dX3_share_4, dX3_share_7, dX3_share_8, dX3_share_11, dX3_share_12, tbX3_c210, tbX3_g12, ca_X3_share_146, ab_wp0, ab_wps, ab_stp, ab_g, ab_st, ab_k2, ab_cl, ab_pop, ab_sz, ab_2, ab_ret, ab_f4, ab_tg, ab_I, ab_II, ab_A, ab_Rf, ab_VR, ab_IR, ab_VIR, ab_1, ab_LL, ab_DD, ab_ob, ab_pr, ab_qr, ab_ln, ab_so, ab_vI, ab_vA, ab_vD, ab_vL, ab_v2, ab_c, ab_fit, ab_rv, ab_tsw, ab_lsw, ab_up_eq, Fin.isValue, ab_f0, ab_f1, ab_f2, ab_f3, List.getElem?_cons_zero, List.getElem?_cons_succ, List.set_cons_zero, List.set_cons_succ, List.length_cons, List.length_nil, List.size_toArray, List.head?_cons, List.tail_cons, Option.map_some, cond_true, cond_false, true_and, and_true, false_and, and_false, not_true_eq_false, not_false_eq_true, true_imp_iff, false_imp_iff, if_true, if_false, ite_true, ite_false, ↓reduceIte, Nat.reduceAdd, Nat.reduceEqDiff, Nat.reduceLeDiff, Nat.reduceLT, Nat.reduceBEq, Nat.reduceBNe, Int.reduceAdd, Int.reduceNeg, Int.reduceSub, Int.reduceLE, Int.reduceLT, Int.reduceToNat, Int.reduceEq, Int.reduceMul, Int.cast_ofNat_Int, Nat.zero_add, Nat.add_zero, Nat.le_refl, eq_self, ne_eq, reduceCtorEq, or_true, true_or, or_false, false_or, Bool.or_true, Bool.or_false, Bool.true_or, Bool.false_or, Nat.zero_le, Int.le_refl, Int.ofNat_zero, Int.ofNat_one, Bool.false_eq_true]
    try simp only [ab_in]
    (repeat' (first | intro _ | refine And.intro ?_ ?_)) <;> (first | exact hn | exact hK | contradiction | omega | (exfalso; omega))
  · exact hT.elim
set_option maxRecDepth 100000 in
theorem con_X3_share (l : Launch) (D : va_G) (ty : Nat → ClassId) (base : Nat) : ab_Con l D vwCl ty lw_ts base lw_wd yX3_share cX3_share 1 (some .double) 4 90 0 0 Tr_X3_share :=
  ab_con_of (own := RX3) (rt := 4) (tb := tbX3) (ini := false) (ca := ca_X3_share) (by decide +kernel) rfl (fun h => by cases h) rfl lw_wd_ok wtbX3 lw_ar cm_X3_share
    (fun p e R s m args below meth c K hcx => by
      obtain ⟨hx, hb, hml, hown, hF, rfl⟩ := hcx
      exact ab_lk_all (ab_all_c (ab_tc_V hx hb hml hown lw_wd_ok hF ⟨rfl, rfl⟩ (con_X1_coveredPlaces l D ty base) rfl (lw_wi (by decide +kernel) (by decide +kernel)) (lw_wi (by decide +kernel) (by decide +kernel)) (lw_wi (by decide +kernel) (by decide +kernel)) (lw_wi (by decide +kernel) (by decide +kernel)) (lw_wi (by decide +kernel) (by decide +kernel)) (by decide +kernel) ⟨by decide, by decide⟩) (ab_all_n)))
    (by intro as h K ht; unfold Tr_X3_share at ht; split at ht <;> first | exact ht.elim | exact Nat.le_of_ble_eq_true rfl) (sem_X3_share base)
noncomputable def Tr_X3_lay : ATr := fun as h K => match as with
  | [.inr (.inl (some a)), .inl row, .inl from9, .inl wide, .inl nails] => ab_so (ab_sr h a) fun P => ((fitsF row from9 wide = true ∧ 1 ≤ nails ∧ nails ≤ 3) ∧ (0 ≤ P.2.1.there ∧ P.2.1.there < 60) ∧ P.2.1.laid < 200 ∧ isFreeF P.2.1 row from9 wide = true) ∧ ∀ h', ab_sr h' a = some (P.1, (addF P.2.1 row from9 wide nails, P.2.2)) → ab_fr h h' (P.1.1.1 :: P.1.1.2) → K (some (.inl (P.2.1.laid))) h'
  | _ => False
theorem mo_X3_lay : ab_mo Tr_X3_lay := by
  intro as h K K' hk ht
  unfold Tr_X3_lay at ht ⊢
  split at ht
  · exact ab_so_mo (fun P q => ⟨q.1, fun h' e1 e2 => hk _ _ (q.2 h' e1 e2)⟩) ht
  · exact ht.elim
def ca_X3_lay : Nat → Option ACS := ab_lk [(33, (2, 0, 3, 0, 0, Tr_X3_fits)), (37, (2, 0, 1, 0, 0, Tr_X3_isNails)), (55, (0, 1, 4, 0, 0, Tr_X1_isFree)), (63, (0, 1, 5, 0, 0, Tr_X1_add))]
theorem ca_X3_lay_33 : ca_X3_lay 33 = some (2, 0, 3, 0, 0, Tr_X3_fits) := rfl
theorem ca_X3_lay_37 : ca_X3_lay 37 = some (2, 0, 1, 0, 0, Tr_X3_isNails) := rfl
theorem ca_X3_lay_55 : ca_X3_lay 55 = some (0, 1, 4, 0, 0, Tr_X1_isFree) := rfl
theorem ca_X3_lay_63 : ca_X3_lay 63 = some (0, 1, 5, 0, 0, Tr_X1_add) := rfl
theorem cm_X3_lay : ∀ i q, ca_X3_lay i = some q → ab_moq i q := ab_lk_all (ab_all_c mo_X3_fits (ab_all_c mo_X3_isNails (ab_all_c mo_X1_isFree (ab_all_c mo_X1_add (ab_all_n)))))
set_option maxRecDepth 100000 in
set_option maxHeartbeats 4000000 in
theorem sem_X3_lay (base : Nat) : ab_Sem tbX3 lw_ts base cX3_lay ca_X3_lay 1 5 0 0 (fun as => ab_en as 5) Tr_X3_lay := by
  intro as h K hT V hV
  unfold Tr_X3_lay at hT
  split at hT
  · rename_i a row from9 wide nails
    obtain ⟨⟨⟨⟨r, ns⟩, ⟨t, ms⟩, ⟨c, n⟩, b, q0, q1, q2, q3⟩, S, O, f, T⟩, hP, hs, hK⟩ := ab_so_el hT
    have hA := sr_el hP
    obtain ⟨D, D0, D1, D2, D3, -⟩ := id hA
    dsimp only at D D0 D1 D2 D3
    try dsimp only at hK hs
    show V 0 [some (.inr (.inl (some a))), some (.inl row), some (.inl from9), some (.inl wide), some (.inl nails)] [] h 0 0
    obtain ⟨-, m0, m1, m2, m3, m4, m5, m6, m7, m8, -, -, e9, -⟩ := roof_el D0
    have a1' := fun h3 q5 q6 => hK h3 (sr_of (sr_roof hA q5 q6)) q6
    have hf : (0 ≤ from9 ∧ from9 < 12 ∧ 0 ≤ row ∧ row < 8) ∧ 1 ≤ wide ∧ wide ≤ 4 ∧ wide ≤ 12 - from9 := of_decide_eq_true hs.1.1
    have hn : decide (1 ≤ nails ∧ nails ≤ 3) = true := decide_eq_true hs.1.2
    have hl := (roof_el D0).1.laid_r
    refine hV (fun _ => false) 80 _ _ _ _ _ _ ?_
    simp only [D, D0, e9, hs.1.1, hn, hs.2.2.2, bI_in, bI_0, bI_1, bI_t, bI_f, bI_01, Tr_X3_fits, Tr_X3_isNails, Tr_X1_isFree, Tr_X1_add, ae_aload_n, ae_bipush, ae_dup, ae_getfield, ae_ifCond, ae_if_icmp, ae_iload, ae_iload_n, ae_invokespecial, ae_invokestatic, ae_invokevirtual, ae_ireturn, ae_ldc, ae_new, ae_sipush, dX3_lay_0, dX3_lay_1, dX3_lay_2, dX3_lay_3, dX3_lay_6, dX3_lay_9, dX3_lay_11, dX3_lay_14, dX3_lay_17, dX3_lay_20, dX3_lay_21, dX3_lay_23, dX3_lay_26, dX3_lay_27, dX3_lay_28, dX3_lay_31, dX3_lay_34, dX3_lay_36, dX3_lay_39, dX3_lay_40, dX3_lay_43, dX3_lay_46, dX3_lay_49, dX3_lay_52, dX3_lay_53, dX3_lay_56, dX3_lay_57, dX3_lay_58, dX3_lay_59, dX3_lay_62, dX3_lay_65, dX3_lay_68, dX3_lay_69, dX3_lay_71, dX3_lay_74, dX3_lay_75, dX3_lay_76, dX3_lay_79, dX3_lay_80, dX3_lay_81, dX3_lay_82, dX3_lay_84, dX3_lay_87, tbX3_g12, tbX3_g48, tbX3_g52, ca_X3_lay_33, ca_X3_lay_37, ca_X3_lay_55, ca_X3_lay_63, ab_wp0, ab_wps, ab_stp, ab_g, ab_st, ab_k2, ab_cl, ab_pop, ab_sz, ab_2, ab_ret, ab_f4, ab_tg, ab_I, ab_II, ab_A, ab_Rf, ab_VR, ab_IR, ab_VIR, ab_1, ab_LL, ab_DD, ab_ob, ab_pr, ab_qr, ab_ln, ab_so, ab_vI, ab_vA, ab_vD, ab_vL, ab_v2, ab_c, ab_fit, ab_rv, ab_tsw, ab_lsw, ab_up_eq, Fin.isValue, ab_f0, ab_f1, ab_f2, ab_f3, List.getElem?_cons_zero, List.getElem?_cons_succ, List.set_cons_zero, List.set_cons_succ, List.length_cons, List.length_nil, List.size_toArray, List.head?_cons, List.tail_cons, Option.map_some, cond_true, cond_false, true_and, and_true, false_and, and_false, not_true_eq_false, not_false_eq_true, true_imp_iff, false_imp_iff, if_true, if_false, ite_true, ite_false, ↓reduceIte, Nat.reduceAdd, Nat.reduceEqDiff, Nat.reduceLeDiff, Nat.reduceLT, Nat.reduceBEq, Nat.reduceBNe, Int.reduceAdd, Int.reduceNeg, Int.reduceSub, Int.reduceLE, Int.reduceLT, Int.reduceToNat, Int.reduceEq, Int.reduceMul, Int.cast_ofNat_Int, Nat.zero_add, Nat.add_zero, Nat.le_refl, eq_self, ne_eq, reduceCtorEq, or_true, true_or, or_false, false_or, Bool.or_true, Bool.or_false, Bool.true_or, Bool.false_or, Nat.zero_le, Int.le_refl, Int.ofNat_zero, Int.ofNat_one, Bool.false_eq_true]
    try simp only [ab_in] 
    (repeat' (first | intro _ | refine And.intro ?_ ?_)) <;> (first | exact a1' _ (by assumption) (by assumption) | exact rfl | contradiction | omega | (exfalso; omega))
  · exact hT.elim
set_option maxRecDepth 100000 in
theorem con_X3_lay (l : Launch) (D : va_G) (ty : Nat → ClassId) (base : Nat) : ab_Con l D vwCl ty lw_ts base lw_wd yX3_lay cX3_lay 5 (some .int) 3 71 0 0 Tr_X3_lay :=
  ab_con_of (own := RX3) (rt := 1) (tb := tbX3) (ini := false) (ca := ca_X3_lay) (by decide +kernel) rfl (fun h => by cases h) rfl lw_wd_ok wtbX3 lw_ar cm_X3_lay
    (fun p e R s m args below meth c K hcx => by
      obtain ⟨hx, hb, hml, hown, hF, rfl⟩ := hcx
      exact ab_lk_all (ab_all_c (ab_tc_S hx hb hml hown lw_wd_ok hF ⟨rfl, rfl⟩ (con_X3_fits l D ty base) (lw_wi (by decide +kernel) (by decide +kernel)) (lw_wi (by decide +kernel) (by decide +kernel)) (lw_wi (by decide +kernel) (by decide +kernel)) (lw_wi (by decide +kernel) (by decide +kernel)) (by decide +kernel) ⟨by decide, by decide⟩) (ab_all_c (ab_tc_S hx hb hml hown lw_wd_ok hF ⟨rfl, rfl⟩ (con_X3_isNails l D ty base) (lw_wi (by decide +kernel) (by decide +kernel)) (lw_wi (by decide +kernel) (by decide +kernel)) (lw_wi (by decide +kernel) (by decide +kernel)) (lw_wi (by decide +kernel) (by decide +kernel)) (by decide +kernel) ⟨by decide, by decide⟩) (ab_all_c (ab_tc_V hx hb hml hown lw_wd_ok hF ⟨rfl, rfl⟩ (con_X1_isFree l D ty base) rfl (lw_wi (by decide +kernel) (by decide +kernel)) (lw_wi (by decide +kernel) (by decide +kernel)) (lw_wi (by decide +kernel) (by decide +kernel)) (lw_wi (by decide +kernel) (by decide +kernel)) (lw_wi (by decide +kernel) (by decide +kernel)) (by decide +kernel) ⟨by decide, by decide⟩) (ab_all_c (ab_tc_V hx hb hml hown lw_wd_ok hF ⟨rfl, rfl⟩ (con_X1_add l D ty base) rfl (lw_wi (by decide +kernel) (by decide +kernel)) (lw_wi (by decide +kernel) (by decide +kernel)) (lw_wi (by decide +kernel) (by decide +kernel)) (lw_wi (by decide +kernel) (by decide +kernel)) (lw_wi (by decide +kernel) (by decide +kernel)) (by decide +kernel) ⟨by decide, by decide⟩) (ab_all_n))))))
    (by intro as h K ht; unfold Tr_X3_lay at ht; split at ht <;> first | exact ht.elim | exact Nat.le_of_ble_eq_true rfl) (sem_X3_lay base)
noncomputable def Tr_X3_setDay : ATr := fun as h K => match as with
  | [.inr (.inl (some a)), .inl d, .inl fo, .inl ri, .inl ha, .inl ra] => ab_so (ab_sr h a) fun P => ((0 ≤ d ∧ d ≤ 6) ∧ (0 ≤ fo ∧ fo ≤ 20) ∧ (ri = 0 ∨ ri = 1) ∧ (0 ≤ ha ∧ ha ≤ 9) ∧ (0 ≤ ra ∧ ra ≤ 9)) ∧ ∀ h', ab_sr h' a = some (P.1, (P.2.1, P.2.2.1, P.2.2.2.1, wrF P.2.2.2.2 d fo ri ha ra)) → ab_fr h h' ([P.1.2.2.2.1, P.1.2.2.2.2.1, P.1.2.2.2.2.2.1, P.1.2.2.2.2.2.2.1, P.1.2.2.2.2.2.2.2]) → K (some (.inl (toldF P.2.2.2.2 d))) h'
  | _ => False
theorem mo_X3_setDay : ab_mo Tr_X3_setDay := by
  intro as h K K' hk ht
  unfold Tr_X3_setDay at ht ⊢
  split at ht
  · exact ab_so_mo (fun P q => ⟨q.1, fun h' e1 e2 => hk _ _ (q.2 h' e1 e2)⟩) ht
  · exact ht.elim
def ca_X3_setDay : Nat → Option ACS := ab_lk [(113, (2, 0, 2, 0, 0, Tr_X3_isUpTo)), (120, (0, 2, 2, 0, 0, Tr_X2_told)), (123, (0, 2, 6, 0, 0, Tr_X2_write))]
theorem ca_X3_setDay_113 : ca_X3_setDay 113 = some (2, 0, 2, 0, 0, Tr_X3_isUpTo) := rfl
theorem ca_X3_setDay_120 : ca_X3_setDay 120 = some (0, 2, 2, 0, 0, Tr_X2_told) := rfl
theorem ca_X3_setDay_123 : ca_X3_setDay 123 = some (0, 2, 6, 0, 0, Tr_X2_write) := rfl
theorem cm_X3_setDay : ∀ i q, ca_X3_setDay i = some q → ab_moq i q := ab_lk_all (ab_all_c mo_X3_isUpTo (ab_all_c mo_X2_told (ab_all_c mo_X2_write (ab_all_n))))
set_option maxRecDepth 100000 in
set_option maxHeartbeats 4000000 in
theorem sem_X3_setDay (base : Nat) : ab_Sem tbX3 lw_ts base cX3_setDay ca_X3_setDay 1 7 0 0 (fun as => ab_en as 7) Tr_X3_setDay := by
  intro as h K hT V hV
  unfold Tr_X3_setDay at hT
  split at hT
  · rename_i a d fo ri ha ra
    obtain ⟨⟨⟨⟨r, ns⟩, ⟨t, ms⟩, ⟨c, n⟩, b, q0, q1, q2, q3⟩, S, O, f, T⟩, hP, hs, hK⟩ := ab_so_el hT
    have hA := sr_el hP
    obtain ⟨D, D0, D1, D2, D3, -⟩ := id hA
    dsimp only at D D0 D1 D2 D3
    try dsimp only at hK hs
    show V 0 [some (.inr (.inl (some a))), some (.inl d), some (.inl fo), some (.inl ri), some (.inl ha), some (.inl ra), none] [] h 0 0
    obtain ⟨-, -, e7, -⟩ := tab_el D3
    dsimp only at e7
    have h1 : isUpToF d 6 = true := decide_eq_true hs.1
    have h2 : isUpToF fo 20 = true := decide_eq_true hs.2.1
    have h3 : isUpToF ha 9 = true := decide_eq_true hs.2.2.2.1
    have h4 : isUpToF ra 9 = true := decide_eq_true hs.2.2.2.2
    have a1' := fun h3 q5 q6 => hK h3 (sr_of (sr_tab hA q5 q6)) q6
    refine hV (fun _ => false) 80 _ _ _ _ _ _ ?_
    simp only [D, D3, e7, h1, h2, h3, h4, bI_in, bI_0, bI_1, bI_t, bI_f, bI_01, Tr_X3_isUpTo, Tr_X2_told, Tr_X2_write, ae_aload_n, ae_bipush, ae_dup, ae_getfield, ae_ifCond, ae_iload, ae_iload_n, ae_invokespecial, ae_invokestatic, ae_invokevirtual, ae_ireturn, ae_istore, ae_ldc, ae_new, dX3_setDay_0, dX3_setDay_1, dX3_setDay_3, dX3_setDay_6, dX3_setDay_9, dX3_setDay_12, dX3_setDay_13, dX3_setDay_15, dX3_setDay_18, dX3_setDay_19, dX3_setDay_20, dX3_setDay_22, dX3_setDay_25, dX3_setDay_28, dX3_setDay_30, dX3_setDay_32, dX3_setDay_35, dX3_setDay_38, dX3_setDay_40, dX3_setDay_42, dX3_setDay_45, dX3_setDay_48, dX3_setDay_51, dX3_setDay_52, dX3_setDay_54, dX3_setDay_57, dX3_setDay_58, dX3_setDay_59, dX3_setDay_62, dX3_setDay_63, dX3_setDay_66, dX3_setDay_68, dX3_setDay_69, dX3_setDay_72, dX3_setDay_73, dX3_setDay_74, dX3_setDay_75, dX3_setDay_77, dX3_setDay_79, dX3_setDay_82, dX3_setDay_84, tbX3_g29, ca_X3_setDay_113, ca_X3_setDay_120, ca_X3_setDay_123, ab_wp0, ab_wps, ab_stp, ab_g, ab_st, ab_k2, ab_cl, ab_pop, ab_sz, ab_2, ab_ret, ab_f4, ab_tg, ab_I, ab_II, ab_A, ab_Rf, ab_VR, ab_IR, ab_VIR, ab_1, ab_LL, ab_DD, ab_ob, ab_pr, ab_qr, ab_ln, ab_so, ab_vI, ab_vA, ab_vD, ab_vL, ab_v2, ab_c, ab_fit, ab_rv, ab_tsw, ab_lsw, ab_up_eq, Fin.isValue, ab_f0, ab_f1, ab_f2, ab_f3, List.getElem?_cons_zero, List.getElem?_cons_succ, List.set_cons_zero, List.set_cons_succ, List.length_cons, List.length_nil, List.size_toArray, List.head?_cons, List.tail_cons, Option.map_some, cond_true, cond_false, true_and, and_true, false_and, and_false, not_true_eq_false, not_false_eq_true, true_imp_iff, false_imp_iff, if_true, if_false, ite_true, ite_false, ↓reduceIte, Nat.reduceAdd, Nat.reduceEqDiff, Nat.reduceLeDiff, Nat.reduceLT, Nat.reduceBEq, Nat.reduceBNe, Int.reduceAdd, Int.reduceNeg, Int.reduceSub, Int.reduceLE, Int.reduceLT, Int.reduceToNat, Int.reduceEq, Int.reduceMul, Int.cast_ofNat_Int, Nat.zero_add, Nat.add_zero, Nat.le_refl, eq_self, ne_eq, reduceCtorEq, or_true, true_or, or_false, false_or, Bool.or_true, Bool.or_false, Bool.true_or, Bool.false_or, Nat.zero_le, Int.le_refl, Int.ofNat_zero, Int.ofNat_one, Bool.false_eq_true]
    try simp only [ab_in] 
    (repeat' (first | intro _ | refine And.intro ?_ ?_)) <;> (first | exact a1' _ (by assumption) (by assumption) | exact hs.2.2.1 | exact rfl | contradiction | omega | (exfalso; omega))
  · exact hT.elim
set_option maxRecDepth 100000 in
theorem con_X3_setDay (l : Launch) (D : va_G) (ty : Nat → ClassId) (base : Nat) : ab_Con l D vwCl ty lw_ts base lw_wd yX3_setDay cX3_setDay 7 (some .int) 3 63 0 0 Tr_X3_setDay :=
  ab_con_of (own := RX3) (rt := 1) (tb := tbX3) (ini := false) (ca := ca_X3_setDay) (by decide +kernel) rfl (fun h => by cases h) rfl lw_wd_ok wtbX3 lw_ar cm_X3_setDay
    (fun p e R s m args below meth c K hcx => by
      obtain ⟨hx, hb, hml, hown, hF, rfl⟩ := hcx
      exact ab_lk_all (ab_all_c (ab_tc_S hx hb hml hown lw_wd_ok hF ⟨rfl, rfl⟩ (con_X3_isUpTo l D ty base) (lw_wi (by decide +kernel) (by decide +kernel)) (lw_wi (by decide +kernel) (by decide +kernel)) (lw_wi (by decide +kernel) (by decide +kernel)) (lw_wi (by decide +kernel) (by decide +kernel)) (by decide +kernel) ⟨by decide, by decide⟩) (ab_all_c (ab_tc_V hx hb hml hown lw_wd_ok hF ⟨rfl, rfl⟩ (con_X2_told l D ty base) rfl (lw_wi (by decide +kernel) (by decide +kernel)) (lw_wi (by decide +kernel) (by decide +kernel)) (lw_wi (by decide +kernel) (by decide +kernel)) (lw_wi (by decide +kernel) (by decide +kernel)) (lw_wi (by decide +kernel) (by decide +kernel)) (by decide +kernel) ⟨by decide, by decide⟩) (ab_all_c (ab_tc_V hx hb hml hown lw_wd_ok hF ⟨rfl, rfl⟩ (con_X2_write l D ty base) rfl (lw_wi (by decide +kernel) (by decide +kernel)) (lw_wi (by decide +kernel) (by decide +kernel)) (lw_wi (by decide +kernel) (by decide +kernel)) (lw_wi (by decide +kernel) (by decide +kernel)) (lw_wi (by decide +kernel) (by decide +kernel)) (by decide +kernel) ⟨by decide, by decide⟩) (ab_all_n)))))
    (by intro as h K ht; unfold Tr_X3_setDay at ht; split at ht <;> first | exact ht.elim | exact Nat.le_of_ble_eq_true rfl) (sem_X3_setDay base)
theorem sr_dj {h : AH} {a : Nat} {A : SA} {v : SV} (h1 : srAt h a (A, v)) : ∀ q, q ∈ A.2.1.1 :: A.2.1.2 → q ∈ A.1.1 :: A.1.2 → False := fun q h2 h3 => h1.2.2.2.2.2 q h3 h2
noncomputable def Tr_X3_take : ATr := fun as h K => match as with
  | [.inr (.inl (some a)), .inl s] => ab_so (ab_sr h a) fun P => ((0 ≤ s ∧ s < P.2.1.laid ∧ P.2.1.onr s = 1) ∧ uponF P.2.1 s = 0) ∧ ∀ h', ab_sr h' a = some (P.1, (removeF P.2.1 s, P.2.2)) → ab_fr h h' (P.1.1.1 :: P.1.1.2) → K (some (.inl (P.2.1.nai s))) h'
  | _ => False
theorem mo_X3_take : ab_mo Tr_X3_take := by
  intro as h K K' hk ht
  unfold Tr_X3_take at ht ⊢
  split at ht
  · exact ab_so_mo (fun P q => ⟨q.1, fun h' e1 e2 => hk _ _ (q.2 h' e1 e2)⟩) ht
  · exact ht.elim
def ca_X3_take : Nat → Option ACS := ab_lk [(67, (0, 1, 2, 0, 0, Tr_X1_isKnown)), (75, (0, 1, 2, 0, 0, Tr_X1_isOpen)), (80, (0, 1, 2, 0, 0, Tr_X1_remove)), (84, (0, 1, 2, 0, 0, Tr_X1_nailsOf))]
theorem ca_X3_take_67 : ca_X3_take 67 = some (0, 1, 2, 0, 0, Tr_X1_isKnown) := rfl
theorem ca_X3_take_75 : ca_X3_take 75 = some (0, 1, 2, 0, 0, Tr_X1_isOpen) := rfl
theorem ca_X3_take_80 : ca_X3_take 80 = some (0, 1, 2, 0, 0, Tr_X1_remove) := rfl
theorem ca_X3_take_84 : ca_X3_take 84 = some (0, 1, 2, 0, 0, Tr_X1_nailsOf) := rfl
theorem cm_X3_take : ∀ i q, ca_X3_take i = some q → ab_moq i q := ab_lk_all (ab_all_c mo_X1_isKnown (ab_all_c mo_X1_isOpen (ab_all_c mo_X1_remove (ab_all_c mo_X1_nailsOf (ab_all_n)))))
set_option maxRecDepth 100000 in
set_option maxHeartbeats 4000000 in
theorem sem_X3_take (base : Nat) : ab_Sem tbX3 lw_ts base cX3_take ca_X3_take 1 2 0 0 (fun as => ab_en as 2) Tr_X3_take := by
  intro as h K hT V hV
  unfold Tr_X3_take at hT
  split at hT
  · rename_i a s
    obtain ⟨⟨⟨⟨r, ns⟩, ⟨t, ms⟩, ⟨c, n⟩, b, q0, q1, q2, q3⟩, S, O, f, T⟩, hP, hs, hK⟩ := ab_so_el hT
    have hA := sr_el hP
    obtain ⟨D, D0, D1, D2, D3, -⟩ := id hA
    dsimp only at D D0 D1 D2 D3
    try dsimp only at hK hs
    show V 0 [some (.inr (.inl (some a))), some (.inl s)] [] h 0 0
    obtain ⟨-, m0, m1, m2, m3, m4, m5, m6, m7, m8, -, -, e9, -⟩ := roof_el D0
    have hl := (roof_el D0).1.laid_r
    have hk : isKnownF S s = true := decide_eq_true (by omega)
    have ht : isThereF S s = true := by rw [isThereF, hk, decide_eq_true hs.1.2.2]; rfl
    have ho : (isThereF S s && decide (uponF S s = 0)) = true := by rw [ht, decide_eq_true hs.2]; rfl
    have hk2 : isKnownF (removeF S s) s = true := by rw [removeF, ht]; exact hk
    have hn2 : (removeF S s).nai s = S.nai s := by rw [removeF, ht]; rfl
    have a1 : ∀ h3, ab_roof h3 r = some (ns, removeF S s) → ab_fr h h3 (r :: ns) → V 50 [some (.inr (.inl (some a))), some (.inl s)] [] h3 0 0 := by
      intro h3 q5 q6
      have hk3 := hK h3 (sr_of (sr_roof hA q5 q6)) q6
      have g := sr_roof hA q5 q6
      obtain ⟨d, d0, -⟩ := g
      dsimp only at d d0
      obtain ⟨-, m0, m1, m2, m3, m4, m5, m6, m7, m8, -, -, e9, -⟩ := roof_el d0
      refine hV (fun _ => false) 80 _ _ _ _ _ _ ?_
      simp only [d, d0, e9, hk2, hn2, bI_in, bI_0, bI_1, bI_t, bI_f, bI_01, Tr_X1_nailsOf, ae_aload_n, ae_getfield, ae_iload_n, ae_invokevirtual, ae_ireturn, dX3_take_50, dX3_take_51, dX3_take_54, dX3_take_55, dX3_take_58, tbX3_g12, ca_X3_take_67, ca_X3_take_75, ca_X3_take_80, ca_X3_take_84, ab_wp0, ab_wps, ab_stp, ab_g, ab_st, ab_k2, ab_cl, ab_pop, ab_sz, ab_2, ab_ret, ab_f4, ab_tg, ab_I, ab_II, ab_A, ab_Rf, ab_VR, ab_IR, ab_VIR, ab_1, ab_LL, ab_DD, ab_ob, ab_pr, ab_qr, ab_ln, ab_so, ab_vI, ab_vA, ab_vD, ab_vL, ab_v2, ab_c, ab_fit, ab_rv, ab_tsw, ab_lsw, ab_up_eq, Fin.isValue, ab_f0, ab_f1, ab_f2, ab_f3, List.getElem?_cons_zero, List.getElem?_cons_succ, List.set_cons_zero, List.set_cons_succ, List.length_cons, List.length_nil, List.size_toArray, List.head?_cons, List.tail_cons, Option.map_some, cond_true, cond_false, true_and, and_true, false_and, and_false, not_true_eq_false, not_false_eq_true, true_imp_iff, false_imp_iff, if_true, if_false, ite_true, ite_false, ↓reduceIte, Nat.reduceAdd, Nat.reduceEqDiff, Nat.reduceLeDiff, Nat.reduceLT, Nat.reduceBEq, Nat.reduceBNe, Int.reduceAdd, Int.reduceNeg, Int.reduceSub, Int.reduceLE, Int.reduceLT, Int.reduceToNat, Int.reduceEq, Int.reduceMul, Int.cast_ofNat_Int, Nat.zero_add, Nat.add_zero, Nat.le_refl, eq_self, ne_eq, reduceCtorEq, or_true, true_or, or_false, false_or, Bool.or_true, Bool.or_false, Bool.true_or, Bool.false_or, Nat.zero_le, Int.le_refl, Int.ofNat_zero, Int.ofNat_one, Bool.false_eq_true]
      try simp only [ab_in]
      (repeat' (first | intro _ | refine And.intro ?_ ?_)) <;> (first | exact hk3 | exact rfl | contradiction | omega | (exfalso; omega))
    refine hV (fun p => p == 50) 80 _ _ _ _ _ _ ?_
    simp only [D, D0, e9, hk, ho, bI_in, bI_0, bI_1, bI_t, bI_f, bI_01, Tr_X1_isKnown, Tr_X1_isOpen, Tr_X1_remove, ae_aload_n, ae_dup, ae_getfield, ae_ifCond, ae_iload_n, ae_invokespecial, ae_invokevirtual, ae_ldc, ae_new, dX3_take_0, dX3_take_1, dX3_take_4, dX3_take_5, dX3_take_8, dX3_take_11, dX3_take_14, dX3_take_15, dX3_take_17, dX3_take_20, dX3_take_21, dX3_take_22, dX3_take_25, dX3_take_26, dX3_take_29, dX3_take_32, dX3_take_35, dX3_take_36, dX3_take_38, dX3_take_41, dX3_take_42, dX3_take_43, dX3_take_46, dX3_take_47, tbX3_g12, ca_X3_take_67, ca_X3_take_75, ca_X3_take_80, ca_X3_take_84, ab_wp0, ab_wps, ab_stp, ab_g, ab_st, ab_k2, ab_cl, ab_pop, ab_sz, ab_2, ab_ret, ab_f4, ab_tg, ab_I, ab_II, ab_A, ab_Rf, ab_VR, ab_IR, ab_VIR, ab_1, ab_LL, ab_DD, ab_ob, ab_pr, ab_qr, ab_ln, ab_so, ab_vI, ab_vA, ab_vD, ab_vL, ab_v2, ab_c, ab_fit, ab_rv, ab_tsw, ab_lsw, ab_up_eq, Fin.isValue, ab_f0, ab_f1, ab_f2, ab_f3, List.getElem?_cons_zero, List.getElem?_cons_succ, List.set_cons_zero, List.set_cons_succ, List.length_cons, List.length_nil, List.size_toArray, List.head?_cons, List.tail_cons, Option.map_some, cond_true, cond_false, true_and, and_true, false_and, and_false, not_true_eq_false, not_false_eq_true, true_imp_iff, false_imp_iff, if_true, if_false, ite_true, ite_false, ↓reduceIte, Nat.reduceAdd, Nat.reduceEqDiff, Nat.reduceLeDiff, Nat.reduceLT, Nat.reduceBEq, Nat.reduceBNe, Int.reduceAdd, Int.reduceNeg, Int.reduceSub, Int.reduceLE, Int.reduceLT, Int.reduceToNat, Int.reduceEq, Int.reduceMul, Int.cast_ofNat_Int, Nat.zero_add, Nat.add_zero, Nat.le_refl, eq_self, ne_eq, reduceCtorEq, or_true, true_or, or_false, false_or, Bool.or_true, Bool.or_false, Bool.true_or, Bool.false_or, Nat.zero_le, Int.le_refl, Int.ofNat_zero, Int.ofNat_one, Bool.false_eq_true]
    try simp only [ab_in] 
    (repeat' (first | intro _ | refine And.intro ?_ ?_)) <;> (first | exact a1 _ (by assumption) (by assumption) | exact rfl | contradiction | omega | (exfalso; omega))
  · exact hT.elim
set_option maxRecDepth 100000 in
theorem con_X3_take (l : Launch) (D : va_G) (ty : Nat → ClassId) (base : Nat) : ab_Con l D vwCl ty lw_ts base lw_wd yX3_take cX3_take 2 (some .int) 3 68 0 0 Tr_X3_take :=
  ab_con_of (own := RX3) (rt := 1) (tb := tbX3) (ini := false) (ca := ca_X3_take) (by decide +kernel) rfl (fun h => by cases h) rfl lw_wd_ok wtbX3 lw_ar cm_X3_take
    (fun p e R s m args below meth c K hcx => by
      obtain ⟨hx, hb, hml, hown, hF, rfl⟩ := hcx
      exact ab_lk_all (ab_all_c (ab_tc_V hx hb hml hown lw_wd_ok hF ⟨rfl, rfl⟩ (con_X1_isKnown l D ty base) rfl (lw_wi (by decide +kernel) (by decide +kernel)) (lw_wi (by decide +kernel) (by decide +kernel)) (lw_wi (by decide +kernel) (by decide +kernel)) (lw_wi (by decide +kernel) (by decide +kernel)) (lw_wi (by decide +kernel) (by decide +kernel)) (by decide +kernel) ⟨by decide, by decide⟩) (ab_all_c (ab_tc_V hx hb hml hown lw_wd_ok hF ⟨rfl, rfl⟩ (con_X1_isOpen l D ty base) rfl (lw_wi (by decide +kernel) (by decide +kernel)) (lw_wi (by decide +kernel) (by decide +kernel)) (lw_wi (by decide +kernel) (by decide +kernel)) (lw_wi (by decide +kernel) (by decide +kernel)) (lw_wi (by decide +kernel) (by decide +kernel)) (by decide +kernel) ⟨by decide, by decide⟩) (ab_all_c (ab_tc_V hx hb hml hown lw_wd_ok hF ⟨rfl, rfl⟩ (con_X1_remove l D ty base) rfl (lw_wi (by decide +kernel) (by decide +kernel)) (lw_wi (by decide +kernel) (by decide +kernel)) (lw_wi (by decide +kernel) (by decide +kernel)) (lw_wi (by decide +kernel) (by decide +kernel)) (lw_wi (by decide +kernel) (by decide +kernel)) (by decide +kernel) ⟨by decide, by decide⟩) (ab_all_c (ab_tc_V hx hb hml hown lw_wd_ok hF ⟨rfl, rfl⟩ (con_X1_nailsOf l D ty base) rfl (lw_wi (by decide +kernel) (by decide +kernel)) (lw_wi (by decide +kernel) (by decide +kernel)) (lw_wi (by decide +kernel) (by decide +kernel)) (lw_wi (by decide +kernel) (by decide +kernel)) (lw_wi (by decide +kernel) (by decide +kernel)) (by decide +kernel) ⟨by decide, by decide⟩) (ab_all_n))))))
    (by intro as h K ht; unfold Tr_X3_take at ht; split at ht <;> first | exact ht.elim | exact Nat.le_of_ble_eq_true rfl) (sem_X3_take base)
noncomputable def Tr_X3_nail : ATr := fun as h K => match as with
  | [.inr (.inl (some a)), .inl s, .inl nails] => ab_so (ab_sr h a) fun P => (((0 ≤ s ∧ s < P.2.1.laid ∧ P.2.1.onr s = 1) ∧ uponF P.2.1 s = 0) ∧ 1 ≤ nails ∧ nails ≤ 3) ∧ ∀ h', ab_sr h' a = some (P.1, (setNailsF P.2.1 s nails, P.2.2)) → ab_fr h h' (P.1.1.1 :: P.1.1.2) → K (some (.inl (P.2.1.nai s))) h'
  | _ => False
theorem mo_X3_nail : ab_mo Tr_X3_nail := by
  intro as h K K' hk ht
  unfold Tr_X3_nail at ht ⊢
  split at ht
  · exact ab_so_mo (fun P q => ⟨q.1, fun h' e1 e2 => hk _ _ (q.2 h' e1 e2)⟩) ht
  · exact ht.elim
def ca_X3_nail : Nat → Option ACS := ab_lk [(67, (0, 1, 2, 0, 0, Tr_X1_isKnown)), (37, (2, 0, 1, 0, 0, Tr_X3_isNails)), (75, (0, 1, 2, 0, 0, Tr_X1_isOpen)), (84, (0, 1, 2, 0, 0, Tr_X1_nailsOf)), (90, (0, 1, 3, 0, 0, Tr_X1_setNails))]
theorem ca_X3_nail_67 : ca_X3_nail 67 = some (0, 1, 2, 0, 0, Tr_X1_isKnown) := rfl
theorem ca_X3_nail_37 : ca_X3_nail 37 = some (2, 0, 1, 0, 0, Tr_X3_isNails) := rfl
theorem ca_X3_nail_75 : ca_X3_nail 75 = some (0, 1, 2, 0, 0, Tr_X1_isOpen) := rfl
theorem ca_X3_nail_84 : ca_X3_nail 84 = some (0, 1, 2, 0, 0, Tr_X1_nailsOf) := rfl
theorem ca_X3_nail_90 : ca_X3_nail 90 = some (0, 1, 3, 0, 0, Tr_X1_setNails) := rfl
theorem cm_X3_nail : ∀ i q, ca_X3_nail i = some q → ab_moq i q := ab_lk_all (ab_all_c mo_X1_isKnown (ab_all_c mo_X3_isNails (ab_all_c mo_X1_isOpen (ab_all_c mo_X1_nailsOf (ab_all_c mo_X1_setNails (ab_all_n))))))
set_option maxRecDepth 100000 in
set_option maxHeartbeats 4000000 in
theorem sem_X3_nail (base : Nat) : ab_Sem tbX3 lw_ts base cX3_nail ca_X3_nail 1 4 0 0 (fun as => ab_en as 4) Tr_X3_nail := by
  intro as h K hT V hV
  unfold Tr_X3_nail at hT
  split at hT
  · rename_i a s nails
    obtain ⟨⟨⟨⟨r, ns⟩, ⟨t, ms⟩, ⟨c, n⟩, b, q0, q1, q2, q3⟩, S, O, f, T⟩, hP, hs, hK⟩ := ab_so_el hT
    have hA := sr_el hP
    obtain ⟨D, D0, D1, D2, D3, -⟩ := id hA
    dsimp only at D D0 D1 D2 D3
    try dsimp only at hK hs
    show V 0 [some (.inr (.inl (some a))), some (.inl s), some (.inl nails), none] [] h 0 0
    obtain ⟨-, m0, m1, m2, m3, m4, m5, m6, m7, m8, -, -, e9, -⟩ := roof_el D0
    have a1' := fun h3 q5 q6 => hK h3 (sr_of (sr_roof hA q5 q6)) q6
    have hl := (roof_el D0).1.laid_r
    have hk : isKnownF S s = true := decide_eq_true (by omega)
    have ht : isThereF S s = true := by rw [isThereF, hk, decide_eq_true hs.1.1.2.2]; rfl
    have ho : (isThereF S s && decide (uponF S s = 0)) = true := by rw [ht, decide_eq_true hs.1.2]; rfl
    have hn : decide (1 ≤ nails ∧ nails ≤ 3) = true := decide_eq_true hs.2
    refine hV (fun _ => false) 80 _ _ _ _ _ _ ?_
    simp only [D, D0, e9, hk, ho, hn, bI_in, bI_0, bI_1, bI_t, bI_f, bI_01, Tr_X1_isKnown, Tr_X1_isOpen, Tr_X3_isNails, Tr_X1_nailsOf, Tr_X1_setNails, ae_aload_n, ae_dup, ae_getfield, ae_ifCond, ae_iload_n, ae_invokespecial, ae_invokestatic, ae_invokevirtual, ae_ireturn, ae_istore_n, ae_ldc, ae_new, dX3_nail_0, dX3_nail_1, dX3_nail_4, dX3_nail_5, dX3_nail_8, dX3_nail_11, dX3_nail_14, dX3_nail_15, dX3_nail_17, dX3_nail_20, dX3_nail_21, dX3_nail_22, dX3_nail_25, dX3_nail_28, dX3_nail_31, dX3_nail_32, dX3_nail_34, dX3_nail_37, dX3_nail_38, dX3_nail_39, dX3_nail_42, dX3_nail_43, dX3_nail_46, dX3_nail_49, dX3_nail_52, dX3_nail_53, dX3_nail_55, dX3_nail_58, dX3_nail_59, dX3_nail_60, dX3_nail_63, dX3_nail_64, dX3_nail_67, dX3_nail_68, dX3_nail_69, dX3_nail_72, dX3_nail_73, dX3_nail_74, dX3_nail_77, dX3_nail_78, tbX3_g12, ca_X3_nail_67, ca_X3_nail_37, ca_X3_nail_75, ca_X3_nail_84, ca_X3_nail_90, ab_wp0, ab_wps, ab_stp, ab_g, ab_st, ab_k2, ab_cl, ab_pop, ab_sz, ab_2, ab_ret, ab_f4, ab_tg, ab_I, ab_II, ab_A, ab_Rf, ab_VR, ab_IR, ab_VIR, ab_1, ab_LL, ab_DD, ab_ob, ab_pr, ab_qr, ab_ln, ab_so, ab_vI, ab_vA, ab_vD, ab_vL, ab_v2, ab_c, ab_fit, ab_rv, ab_tsw, ab_lsw, ab_up_eq, Fin.isValue, ab_f0, ab_f1, ab_f2, ab_f3, List.getElem?_cons_zero, List.getElem?_cons_succ, List.set_cons_zero, List.set_cons_succ, List.length_cons, List.length_nil, List.size_toArray, List.head?_cons, List.tail_cons, Option.map_some, cond_true, cond_false, true_and, and_true, false_and, and_false, not_true_eq_false, not_false_eq_true, true_imp_iff, false_imp_iff, if_true, if_false, ite_true, ite_false, ↓reduceIte, Nat.reduceAdd, Nat.reduceEqDiff, Nat.reduceLeDiff, Nat.reduceLT, Nat.reduceBEq, Nat.reduceBNe, Int.reduceAdd, Int.reduceNeg, Int.reduceSub, Int.reduceLE, Int.reduceLT, Int.reduceToNat, Int.reduceEq, Int.reduceMul, Int.cast_ofNat_Int, Nat.zero_add, Nat.add_zero, Nat.le_refl, eq_self, ne_eq, reduceCtorEq, or_true, true_or, or_false, false_or, Bool.or_true, Bool.or_false, Bool.true_or, Bool.false_or, Nat.zero_le, Int.le_refl, Int.ofNat_zero, Int.ofNat_one, Bool.false_eq_true]
    try simp only [ab_in] 
    (repeat' (first | intro _ | refine And.intro ?_ ?_)) <;> (first | exact a1' _ (by assumption) (by assumption) | exact rfl | contradiction | omega | (exfalso; omega))
  · exact hT.elim
set_option maxRecDepth 100000 in
theorem con_X3_nail (l : Launch) (D : va_G) (ty : Nat → ClassId) (base : Nat) : ab_Con l D vwCl ty lw_ts base lw_wd yX3_nail cX3_nail 4 (some .int) 3 68 0 0 Tr_X3_nail :=
  ab_con_of (own := RX3) (rt := 1) (tb := tbX3) (ini := false) (ca := ca_X3_nail) (by decide +kernel) rfl (fun h => by cases h) rfl lw_wd_ok wtbX3 lw_ar cm_X3_nail
    (fun p e R s m args below meth c K hcx => by
      obtain ⟨hx, hb, hml, hown, hF, rfl⟩ := hcx
      exact ab_lk_all (ab_all_c (ab_tc_V hx hb hml hown lw_wd_ok hF ⟨rfl, rfl⟩ (con_X1_isKnown l D ty base) rfl (lw_wi (by decide +kernel) (by decide +kernel)) (lw_wi (by decide +kernel) (by decide +kernel)) (lw_wi (by decide +kernel) (by decide +kernel)) (lw_wi (by decide +kernel) (by decide +kernel)) (lw_wi (by decide +kernel) (by decide +kernel)) (by decide +kernel) ⟨by decide, by decide⟩) (ab_all_c (ab_tc_S hx hb hml hown lw_wd_ok hF ⟨rfl, rfl⟩ (con_X3_isNails l D ty base) (lw_wi (by decide +kernel) (by decide +kernel)) (lw_wi (by decide +kernel) (by decide +kernel)) (lw_wi (by decide +kernel) (by decide +kernel)) (lw_wi (by decide +kernel) (by decide +kernel)) (by decide +kernel) ⟨by decide, by decide⟩) (ab_all_c (ab_tc_V hx hb hml hown lw_wd_ok hF ⟨rfl, rfl⟩ (con_X1_isOpen l D ty base) rfl (lw_wi (by decide +kernel) (by decide +kernel)) (lw_wi (by decide +kernel) (by decide +kernel)) (lw_wi (by decide +kernel) (by decide +kernel)) (lw_wi (by decide +kernel) (by decide +kernel)) (lw_wi (by decide +kernel) (by decide +kernel)) (by decide +kernel) ⟨by decide, by decide⟩) (ab_all_c (ab_tc_V hx hb hml hown lw_wd_ok hF ⟨rfl, rfl⟩ (con_X1_nailsOf l D ty base) rfl (lw_wi (by decide +kernel) (by decide +kernel)) (lw_wi (by decide +kernel) (by decide +kernel)) (lw_wi (by decide +kernel) (by decide +kernel)) (lw_wi (by decide +kernel) (by decide +kernel)) (lw_wi (by decide +kernel) (by decide +kernel)) (by decide +kernel) ⟨by decide, by decide⟩) (ab_all_c (ab_tc_V hx hb hml hown lw_wd_ok hF ⟨rfl, rfl⟩ (con_X1_setNails l D ty base) rfl (lw_wi (by decide +kernel) (by decide +kernel)) (lw_wi (by decide +kernel) (by decide +kernel)) (lw_wi (by decide +kernel) (by decide +kernel)) (lw_wi (by decide +kernel) (by decide +kernel)) (lw_wi (by decide +kernel) (by decide +kernel)) (by decide +kernel) ⟨by decide, by decide⟩) (ab_all_n)))))))
    (by intro as h K ht; unfold Tr_X3_nail at ht; split at ht <;> first | exact ht.elim | exact Nat.le_of_ble_eq_true rfl) (sem_X3_nail base)
noncomputable def Tr_X3_board : ATr := fun as h K => match as with
  | [.inr (.inl (some a)), .inl x, .inl y] => ab_so (ab_sr h a) fun P => ((0 ≤ x ∧ x < 12 ∧ 0 ≤ y ∧ y < 8) ∧ numberAtF P.2.1 x y = -1) ∧ ∀ h', ab_sr h' a = some (P.1, (setRotF P.2.1 x y 0, P.2.2)) → ab_fr h h' (P.1.1.1 :: P.1.1.2) → K (some (.inl (rotAtF P.2.1 x y))) h'
  | _ => False
theorem mo_X3_board : ab_mo Tr_X3_board := by
  intro as h K K' hk ht
  unfold Tr_X3_board at ht ⊢
  split at ht
  · exact ab_so_mo (fun P q => ⟨q.1, fun h' e1 e2 => hk _ _ (q.2 h' e1 e2)⟩) ht
  · exact ht.elim
def ca_X3_board : Nat → Option ACS := ab_lk [(94, (2, 0, 2, 0, 0, Tr_X3_isPlace)), (100, (0, 1, 3, 0, 0, Tr_X1_numberAt)), (106, (0, 1, 3, 0, 0, Tr_X1_rotAt)), (109, (0, 1, 4, 0, 0, Tr_X1_setRot))]
theorem ca_X3_board_94 : ca_X3_board 94 = some (2, 0, 2, 0, 0, Tr_X3_isPlace) := rfl
theorem ca_X3_board_100 : ca_X3_board 100 = some (0, 1, 3, 0, 0, Tr_X1_numberAt) := rfl
theorem ca_X3_board_106 : ca_X3_board 106 = some (0, 1, 3, 0, 0, Tr_X1_rotAt) := rfl
theorem ca_X3_board_109 : ca_X3_board 109 = some (0, 1, 4, 0, 0, Tr_X1_setRot) := rfl
theorem cm_X3_board : ∀ i q, ca_X3_board i = some q → ab_moq i q := ab_lk_all (ab_all_c mo_X3_isPlace (ab_all_c mo_X1_numberAt (ab_all_c mo_X1_rotAt (ab_all_c mo_X1_setRot (ab_all_n)))))
set_option maxRecDepth 100000 in
set_option maxHeartbeats 4000000 in
theorem sem_X3_board (base : Nat) : ab_Sem tbX3 lw_ts base cX3_board ca_X3_board 1 4 0 0 (fun as => ab_en as 4) Tr_X3_board := by
  intro as h K hT V hV
  unfold Tr_X3_board at hT
  split at hT
  · rename_i a x y
    obtain ⟨⟨⟨⟨r, ns⟩, ⟨t, ms⟩, ⟨c, n⟩, b, q0, q1, q2, q3⟩, S, O, f, T⟩, hP, hs, hK⟩ := ab_so_el hT
    have hA := sr_el hP
    obtain ⟨D, D0, D1, D2, D3, -⟩ := id hA
    dsimp only at D D0 D1 D2 D3
    try dsimp only at hK hs
    show V 0 [some (.inr (.inl (some a))), some (.inl x), some (.inl y), none] [] h 0 0
    obtain ⟨-, m0, m1, m2, m3, m4, m5, m6, m7, m8, -, -, e9, -⟩ := roof_el D0
    have a1' := fun h3 q5 q6 => hK h3 (sr_of (sr_roof hA q5 q6)) q6
    have hp : isPlaceF x y = true := decide_eq_true hs.1
    refine hV (fun _ => false) 80 _ _ _ _ _ _ ?_
    simp only [D, D0, e9, hp, hs.2, bI_in, bI_0, bI_1, bI_t, bI_f, bI_01, Tr_X3_isPlace, Tr_X1_numberAt, Tr_X1_rotAt, Tr_X1_setRot, ae_aload_n, ae_dup, ae_getfield, ae_iconst, ae_ifCond, ae_if_icmp, ae_iload_n, ae_invokespecial, ae_invokestatic, ae_invokevirtual, ae_ireturn, ae_istore_n, ae_ldc, ae_new, dX3_board_0, dX3_board_1, dX3_board_2, dX3_board_5, dX3_board_8, dX3_board_11, dX3_board_12, dX3_board_14, dX3_board_17, dX3_board_18, dX3_board_19, dX3_board_22, dX3_board_23, dX3_board_24, dX3_board_27, dX3_board_28, dX3_board_31, dX3_board_34, dX3_board_35, dX3_board_37, dX3_board_40, dX3_board_41, dX3_board_42, dX3_board_45, dX3_board_46, dX3_board_47, dX3_board_50, dX3_board_51, dX3_board_52, dX3_board_55, dX3_board_56, dX3_board_57, dX3_board_58, dX3_board_61, dX3_board_62, tbX3_g12, ca_X3_board_94, ca_X3_board_100, ca_X3_board_106, ca_X3_board_109, ab_wp0, ab_wps, ab_stp, ab_g, ab_st, ab_k2, ab_cl, ab_pop, ab_sz, ab_2, ab_ret, ab_f4, ab_tg, ab_I, ab_II, ab_A, ab_Rf, ab_VR, ab_IR, ab_VIR, ab_1, ab_LL, ab_DD, ab_ob, ab_pr, ab_qr, ab_ln, ab_so, ab_vI, ab_vA, ab_vD, ab_vL, ab_v2, ab_c, ab_fit, ab_rv, ab_tsw, ab_lsw, ab_up_eq, Fin.isValue, ab_f0, ab_f1, ab_f2, ab_f3, List.getElem?_cons_zero, List.getElem?_cons_succ, List.set_cons_zero, List.set_cons_succ, List.length_cons, List.length_nil, List.size_toArray, List.head?_cons, List.tail_cons, Option.map_some, cond_true, cond_false, true_and, and_true, false_and, and_false, not_true_eq_false, not_false_eq_true, true_imp_iff, false_imp_iff, if_true, if_false, ite_true, ite_false, ↓reduceIte, Nat.reduceAdd, Nat.reduceEqDiff, Nat.reduceLeDiff, Nat.reduceLT, Nat.reduceBEq, Nat.reduceBNe, Int.reduceAdd, Int.reduceNeg, Int.reduceSub, Int.reduceLE, Int.reduceLT, Int.reduceToNat, Int.reduceEq, Int.reduceMul, Int.cast_ofNat_Int, Nat.zero_add, Nat.add_zero, Nat.le_refl, eq_self, ne_eq, reduceCtorEq, or_true, true_or, or_false, false_or, Bool.or_true, Bool.or_false, Bool.true_or, Bool.false_or, Nat.zero_le, Int.le_refl, Int.ofNat_zero, Int.ofNat_one, Bool.false_eq_true]
    try simp only [ab_in] 
    (repeat' (first | intro _ | refine And.intro ?_ ?_)) <;> (first | exact a1' _ (by assumption) (by assumption) | exact rfl | contradiction | omega | (exfalso; omega))
  · exact hT.elim
set_option maxRecDepth 100000 in
theorem con_X3_board (l : Launch) (D : va_G) (ty : Nat → ClassId) (base : Nat) : ab_Con l D vwCl ty lw_ts base lw_wd yX3_board cX3_board 4 (some .int) 2 44 0 0 Tr_X3_board :=
  ab_con_of (own := RX3) (rt := 1) (tb := tbX3) (ini := false) (ca := ca_X3_board) (by decide +kernel) rfl (fun h => by cases h) rfl lw_wd_ok wtbX3 lw_ar cm_X3_board
    (fun p e R s m args below meth c K hcx => by
      obtain ⟨hx, hb, hml, hown, hF, rfl⟩ := hcx
      exact ab_lk_all (ab_all_c (ab_tc_S hx hb hml hown lw_wd_ok hF ⟨rfl, rfl⟩ (con_X3_isPlace l D ty base) (lw_wi (by decide +kernel) (by decide +kernel)) (lw_wi (by decide +kernel) (by decide +kernel)) (lw_wi (by decide +kernel) (by decide +kernel)) (lw_wi (by decide +kernel) (by decide +kernel)) (by decide +kernel) ⟨by decide, by decide⟩) (ab_all_c (ab_tc_V hx hb hml hown lw_wd_ok hF ⟨rfl, rfl⟩ (con_X1_numberAt l D ty base) rfl (lw_wi (by decide +kernel) (by decide +kernel)) (lw_wi (by decide +kernel) (by decide +kernel)) (lw_wi (by decide +kernel) (by decide +kernel)) (lw_wi (by decide +kernel) (by decide +kernel)) (lw_wi (by decide +kernel) (by decide +kernel)) (by decide +kernel) ⟨by decide, by decide⟩) (ab_all_c (ab_tc_V hx hb hml hown lw_wd_ok hF ⟨rfl, rfl⟩ (con_X1_rotAt l D ty base) rfl (lw_wi (by decide +kernel) (by decide +kernel)) (lw_wi (by decide +kernel) (by decide +kernel)) (lw_wi (by decide +kernel) (by decide +kernel)) (lw_wi (by decide +kernel) (by decide +kernel)) (lw_wi (by decide +kernel) (by decide +kernel)) (by decide +kernel) ⟨by decide, by decide⟩) (ab_all_c (ab_tc_V hx hb hml hown lw_wd_ok hF ⟨rfl, rfl⟩ (con_X1_setRot l D ty base) rfl (lw_wi (by decide +kernel) (by decide +kernel)) (lw_wi (by decide +kernel) (by decide +kernel)) (lw_wi (by decide +kernel) (by decide +kernel)) (lw_wi (by decide +kernel) (by decide +kernel)) (lw_wi (by decide +kernel) (by decide +kernel)) (by decide +kernel) ⟨by decide, by decide⟩) (ab_all_n))))))
    (by intro as h K ht; unfold Tr_X3_board at ht; split at ht <;> first | exact ht.elim | exact Nat.le_of_ble_eq_true rfl) (sem_X3_board base)
noncomputable def Tr_X3_storm : ATr := fun as h K => match as with
  | [.inr (.inl (some a)), .inl force, .inl right, .inl what] => ab_so (ab_sr h a) fun P => ((0 ≤ force ∧ force ≤ 20) ∧ (right = 0 ∨ right = 1) ∧ what = 0) ∧ ∀ h', ab_sr h' a = some (P.1, (P.2.1, (blowF (cpF P.2.2.1 P.2.1) force right).2, P.2.2.2)) → ab_fr h h' (P.1.2.1.1 :: P.1.2.1.2) → K (some (.inl ((blowF (cpF P.2.2.1 P.2.1) force right).2.blown - P.2.1.blown))) h'
  | _ => False
theorem mo_X3_storm : ab_mo Tr_X3_storm := by
  intro as h K K' hk ht
  unfold Tr_X3_storm at ht ⊢
  split at ht
  · exact ab_so_mo (fun P q => ⟨q.1, fun h' e1 e2 => hk _ _ (q.2 h' e1 e2)⟩) ht
  · exact ht.elim
def ca_X3_storm : Nat → Option ACS := ab_lk [(113, (2, 0, 2, 0, 0, Tr_X3_isUpTo)), (168, (0, 1, 2, 0, 0, Tr_X1_copyFrom)), (172, (0, 1, 3, 0, 0, Tr_X1_blow)), (146, (0, 1, 1, 0, 0, Tr_X1_coveredPlaces))]
theorem ca_X3_storm_113 : ca_X3_storm 113 = some (2, 0, 2, 0, 0, Tr_X3_isUpTo) := rfl
theorem ca_X3_storm_168 : ca_X3_storm 168 = some (0, 1, 2, 0, 0, Tr_X1_copyFrom) := rfl
theorem ca_X3_storm_172 : ca_X3_storm 172 = some (0, 1, 3, 0, 0, Tr_X1_blow) := rfl
theorem ca_X3_storm_146 : ca_X3_storm 146 = some (0, 1, 1, 0, 0, Tr_X1_coveredPlaces) := rfl
theorem cm_X3_storm : ∀ i q, ca_X3_storm i = some q → ab_moq i q := ab_lk_all (ab_all_c mo_X3_isUpTo (ab_all_c mo_X1_copyFrom (ab_all_c mo_X1_blow (ab_all_c mo_X1_coveredPlaces (ab_all_n)))))
set_option maxRecDepth 100000 in
set_option maxHeartbeats 4000000 in
theorem sem_X3_storm (base : Nat) : ab_Sem tbX3 lw_ts base cX3_storm ca_X3_storm 1 5 0 0 (fun as => ab_en as 5) Tr_X3_storm := by
  intro as h K hT V hV
  unfold Tr_X3_storm at hT
  split at hT
  · rename_i a force right what
    obtain ⟨⟨⟨⟨r, ns⟩, ⟨t, ms⟩, ⟨c, n⟩, b, q0, q1, q2, q3⟩, S, O, f, T⟩, hP, hs, hK⟩ := ab_so_el hT
    have hA := sr_el hP
    obtain ⟨D, D0, D1, D2, D3, -⟩ := id hA
    dsimp only at D D0 D1 D2 D3
    try dsimp only at hK hs
    show V 0 [some (.inr (.inl (some a))), some (.inl force), some (.inl right), some (.inl what), none] [] h 0 0
    obtain ⟨hs1, hs2, rfl⟩ := hs
    have h1 : isUpToF force 20 = true := decide_eq_true hs1
    have h2 : isUpToF 0 2 = true := rfl
    obtain ⟨-, m0, m1, m2, m3, m4, m5, m6, m7, m8, -, -, e9, -⟩ := roof_el D1
    obtain ⟨-, l0, l1, l2, l3, l4, l5, l6, l7, l8, -, -, e6, -⟩ := roof_el D0
    have dj := sr_dj hA
    dsimp only at dj
    have a2 : ∀ h3 h4, ab_roof h3 t = some (ms, cpF O S) → ab_fr h h3 (t :: ms) → ab_roof h4 t = some (ms, (blowF (cpF O S) force right).2) → ab_fr h3 h4 (t :: ms) → ∀ w, V 57 [some (.inr (.inl (some a))), some (.inl force), some (.inl right), some (.inl 0), none] [.inl w] h4 0 0 := by
      intro h3 h4 q5 q6 q7 q8 w
      have g := sr_trial hA q7 (q6.tr q8)
      have hk3 := hK h4 (sr_of g) (q6.tr q8)
      obtain ⟨d, d0, d1, -⟩ := g
      dsimp only at d d0 d1
      obtain ⟨-, m0, m1, m2, m3, m4, m5, m6, m7, m8, -, -, e9, -⟩ := roof_el d0
      obtain ⟨-, l0, l1, l2, l3, l4, l5, l6, l7, l8, -, -, e6, -⟩ := roof_el d1
      refine hV (fun _ => false) 80 _ _ _ _ _ _ ?_
      simp only [d, d0, d1, e9, e6, bI_in, bI_0, bI_1, bI_t, bI_f, bI_01, ae_aload_n, ae_getfield, ae_iload_n, ae_ireturn, ae_istore, ae_isub, ae_lookupswitch, dX3_storm_57, dX3_storm_59, dX3_storm_60, dX3_storm_88, dX3_storm_89, dX3_storm_92, dX3_storm_95, dX3_storm_96, dX3_storm_99, dX3_storm_102, dX3_storm_103, tbX3_g12, tbX3_g149, tbX3_g16, ca_X3_storm_113, ca_X3_storm_168, ca_X3_storm_172, ca_X3_storm_146, ab_wp0, ab_wps, ab_stp, ab_g, ab_st, ab_k2, ab_cl, ab_pop, ab_sz, ab_2, ab_ret, ab_f4, ab_tg, ab_I, ab_II, ab_A, ab_Rf, ab_VR, ab_IR, ab_VIR, ab_1, ab_LL, ab_DD, ab_ob, ab_pr, ab_qr, ab_ln, ab_so, ab_vI, ab_vA, ab_vD, ab_vL, ab_v2, ab_c, ab_fit, ab_rv, ab_tsw, ab_lsw, ab_up_eq, Fin.isValue, ab_f0, ab_f1, ab_f2, ab_f3, List.getElem?_cons_zero, List.getElem?_cons_succ, List.set_cons_zero, List.set_cons_succ, List.length_cons, List.length_nil, List.size_toArray, List.head?_cons, List.tail_cons, Option.map_some, cond_true, cond_false, true_and, and_true, false_and, and_false, not_true_eq_false, not_false_eq_true, true_imp_iff, false_imp_iff, if_true, if_false, ite_true, ite_false, ↓reduceIte, Nat.reduceAdd, Nat.reduceEqDiff, Nat.reduceLeDiff, Nat.reduceLT, Nat.reduceBEq, Nat.reduceBNe, Int.reduceAdd, Int.reduceNeg, Int.reduceSub, Int.reduceLE, Int.reduceLT, Int.reduceToNat, Int.reduceEq, Int.reduceMul, Int.cast_ofNat_Int, Nat.zero_add, Nat.add_zero, Nat.le_refl, eq_self, ne_eq, reduceCtorEq, or_true, true_or, or_false, false_or, Bool.or_true, Bool.or_false, Bool.true_or, Bool.false_or, Nat.zero_le, Int.le_refl, Int.ofNat_zero, Int.ofNat_one, Bool.false_eq_true]
      try simp only [ab_in]
      (repeat' (first | intro _ | refine And.intro ?_ ?_)) <;> (first | exact hk3 | exact rfl | contradiction | omega | (exfalso; omega))
    have a1 : ∀ h3, ab_roof h3 t = some (ms, cpF O S) → ab_fr h h3 (t :: ms) → V 48 [some (.inr (.inl (some a))), some (.inl force), some (.inl right), some (.inl 0), none] [] h3 0 0 := by
      intro h3 q5 q6
      have g := sr_trial hA q5 q6
      obtain ⟨d, d0, d1, -⟩ := g
      dsimp only at d d0 d1
      obtain ⟨-, l0, l1, l2, l3, l4, l5, l6, l7, l8, -, -, e6, -⟩ := roof_el d1
      refine hV (fun p => p == 57) 80 _ _ _ _ _ _ ?_
      simp only [d, d1, e6, bI_in, bI_0, bI_1, bI_t, bI_f, bI_01, Tr_X1_blow, ae_aload_n, ae_getfield, ae_iload_n, ae_invokevirtual, dX3_storm_48, dX3_storm_49, dX3_storm_52, dX3_storm_53, dX3_storm_54, tbX3_g16, ca_X3_storm_113, ca_X3_storm_168, ca_X3_storm_172, ca_X3_storm_146, ab_wp0, ab_wps, ab_stp, ab_g, ab_st, ab_k2, ab_cl, ab_pop, ab_sz, ab_2, ab_ret, ab_f4, ab_tg, ab_I, ab_II, ab_A, ab_Rf, ab_VR, ab_IR, ab_VIR, ab_1, ab_LL, ab_DD, ab_ob, ab_pr, ab_qr, ab_ln, ab_so, ab_vI, ab_vA, ab_vD, ab_vL, ab_v2, ab_c, ab_fit, ab_rv, ab_tsw, ab_lsw, ab_up_eq, Fin.isValue, ab_f0, ab_f1, ab_f2, ab_f3, List.getElem?_cons_zero, List.getElem?_cons_succ, List.set_cons_zero, List.set_cons_succ, List.length_cons, List.length_nil, List.size_toArray, List.head?_cons, List.tail_cons, Option.map_some, cond_true, cond_false, true_and, and_true, false_and, and_false, not_true_eq_false, not_false_eq_true, true_imp_iff, false_imp_iff, if_true, if_false, ite_true, ite_false, ↓reduceIte, Nat.reduceAdd, Nat.reduceEqDiff, Nat.reduceLeDiff, Nat.reduceLT, Nat.reduceBEq, Nat.reduceBNe, Int.reduceAdd, Int.reduceNeg, Int.reduceSub, Int.reduceLE, Int.reduceLT, Int.reduceToNat, Int.reduceEq, Int.reduceMul, Int.cast_ofNat_Int, Nat.zero_add, Nat.add_zero, Nat.le_refl, eq_self, ne_eq, reduceCtorEq, or_true, true_or, or_false, false_or, Bool.or_true, Bool.or_false, Bool.true_or, Bool.false_or, Nat.zero_le, Int.le_refl, Int.ofNat_zero, Int.ofNat_one, Bool.false_eq_true]
      try simp only [ab_in]
      (repeat' (first | intro _ | refine And.intro ?_ ?_)) <;> (first | exact a2 h3 _ q5 q6 (by assumption) (by assumption) _ | exact hs2 | exact rfl | contradiction | omega | (exfalso; omega))
    refine hV (fun p => p == 48) 80 _ _ _ _ _ _ ?_
    simp only [D, D0, D1, e9, e6, h1, h2, bI_in, bI_0, bI_1, bI_t, bI_f, bI_01, Tr_X3_isUpTo, Tr_X1_copyFrom, ae_aload_n, ae_bipush, ae_dup, ae_getfield, ae_iconst, ae_ifCond, ae_iload_n, ae_invokespecial, ae_invokestatic, ae_invokevirtual, ae_ldc, ae_new, dX3_storm_0, dX3_storm_1, dX3_storm_3, dX3_storm_6, dX3_storm_9, dX3_storm_12, dX3_storm_13, dX3_storm_15, dX3_storm_18, dX3_storm_19, dX3_storm_20, dX3_storm_21, dX3_storm_24, dX3_storm_27, dX3_storm_30, dX3_storm_31, dX3_storm_33, dX3_storm_36, dX3_storm_37, dX3_storm_38, dX3_storm_41, dX3_storm_42, dX3_storm_45, tbX3_g12, tbX3_g16, ca_X3_storm_113, ca_X3_storm_168, ca_X3_storm_172, ca_X3_storm_146, ab_wp0, ab_wps, ab_stp, ab_g, ab_st, ab_k2, ab_cl, ab_pop, ab_sz, ab_2, ab_ret, ab_f4, ab_tg, ab_I, ab_II, ab_A, ab_Rf, ab_VR, ab_IR, ab_VIR, ab_1, ab_LL, ab_DD, ab_ob, ab_pr, ab_qr, ab_ln, ab_so, ab_vI, ab_vA, ab_vD, ab_vL, ab_v2, ab_c, ab_fit, ab_rv, ab_tsw, ab_lsw, ab_up_eq, Fin.isValue, ab_f0, ab_f1, ab_f2, ab_f3, List.getElem?_cons_zero, List.getElem?_cons_succ, List.set_cons_zero, List.set_cons_succ, List.length_cons, List.length_nil, List.size_toArray, List.head?_cons, List.tail_cons, Option.map_some, cond_true, cond_false, true_and, and_true, false_and, and_false, not_true_eq_false, not_false_eq_true, true_imp_iff, false_imp_iff, if_true, if_false, ite_true, ite_false, ↓reduceIte, Nat.reduceAdd, Nat.reduceEqDiff, Nat.reduceLeDiff, Nat.reduceLT, Nat.reduceBEq, Nat.reduceBNe, Int.reduceAdd, Int.reduceNeg, Int.reduceSub, Int.reduceLE, Int.reduceLT, Int.reduceToNat, Int.reduceEq, Int.reduceMul, Int.cast_ofNat_Int, Nat.zero_add, Nat.add_zero, Nat.le_refl, eq_self, ne_eq, reduceCtorEq, or_true, true_or, or_false, false_or, Bool.or_true, Bool.or_false, Bool.true_or, Bool.false_or, Nat.zero_le, Int.le_refl, Int.ofNat_zero, Int.ofNat_one, Bool.false_eq_true]
    try simp only [ab_in]
    (repeat' (first | intro _ | refine And.intro ?_ ?_)) <;> (first | exact a1 _ (by assumption) (by assumption) | exact dj _ (by assumption) (by assumption) | exact rfl | contradiction | omega | (exfalso; omega))
  · exact hT.elim
set_option maxRecDepth 100000 in
theorem con_X3_storm (l : Launch) (D : va_G) (ty : Nat → ClassId) (base : Nat) : ab_Con l D vwCl ty lw_ts base lw_wd yX3_storm cX3_storm 5 (some .int) 5 117 0 0 Tr_X3_storm :=
  ab_con_of (own := RX3) (rt := 1) (tb := tbX3) (ini := false) (ca := ca_X3_storm) (by decide +kernel) rfl (fun h => by cases h) rfl lw_wd_ok wtbX3 lw_ar cm_X3_storm
    (fun p e R s m args below meth c K hcx => by
      obtain ⟨hx, hb, hml, hown, hF, rfl⟩ := hcx
      exact ab_lk_all (ab_all_c (ab_tc_S hx hb hml hown lw_wd_ok hF ⟨rfl, rfl⟩ (con_X3_isUpTo l D ty base) (lw_wi (by decide +kernel) (by decide +kernel)) (lw_wi (by decide +kernel) (by decide +kernel)) (lw_wi (by decide +kernel) (by decide +kernel)) (lw_wi (by decide +kernel) (by decide +kernel)) (by decide +kernel) ⟨by decide, by decide⟩) (ab_all_c (ab_tc_V hx hb hml hown lw_wd_ok hF ⟨rfl, rfl⟩ (con_X1_copyFrom l D ty base) rfl (lw_wi (by decide +kernel) (by decide +kernel)) (lw_wi (by decide +kernel) (by decide +kernel)) (lw_wi (by decide +kernel) (by decide +kernel)) (lw_wi (by decide +kernel) (by decide +kernel)) (lw_wi (by decide +kernel) (by decide +kernel)) (by decide +kernel) ⟨by decide, by decide⟩) (ab_all_c (ab_tc_V hx hb hml hown lw_wd_ok hF ⟨rfl, rfl⟩ (con_X1_blow l D ty base) rfl (lw_wi (by decide +kernel) (by decide +kernel)) (lw_wi (by decide +kernel) (by decide +kernel)) (lw_wi (by decide +kernel) (by decide +kernel)) (lw_wi (by decide +kernel) (by decide +kernel)) (lw_wi (by decide +kernel) (by decide +kernel)) (by decide +kernel) ⟨by decide, by decide⟩) (ab_all_c (ab_tc_V hx hb hml hown lw_wd_ok hF ⟨rfl, rfl⟩ (con_X1_coveredPlaces l D ty base) rfl (lw_wi (by decide +kernel) (by decide +kernel)) (lw_wi (by decide +kernel) (by decide +kernel)) (lw_wi (by decide +kernel) (by decide +kernel)) (lw_wi (by decide +kernel) (by decide +kernel)) (lw_wi (by decide +kernel) (by decide +kernel)) (by decide +kernel) ⟨by decide, by decide⟩) (ab_all_n))))))
    (by intro as h K ht; unfold Tr_X3_storm at ht; split at ht <;> first | exact ht.elim | exact Nat.le_of_ble_eq_true rfl) (sem_X3_storm base)
/-- what is foreseen for a day: cover and trial after it -/
def foreP (v : SV) : (Int → Int) × RS := goL v.2.2.2 1 (v.2.2.1, cpF v.2.1 v.1)
def foreF (S : RS) (what : Int) : Int := if what = 0 then S.there else if what = 1 then crkThF S else allRotF S
theorem sr_tc {h h' : AH} {a : Nat} {A : SA} {v : SV} {S : RS} {f : Int → Int} (h1 : srAt h a (A, v)) (h2 : ab_roof h' A.2.1.1 = some (A.2.1.2, S)) (h2' : ab_cov h' A.2.2.1.1 = some (A.2.2.1.2, f)) (h3 : ab_fr h h' ((A.2.1.1 :: A.2.1.2) ++ [A.2.2.1.1, A.2.2.1.2])) : srAt h' a (A, (v.1, S, f, v.2.2.2)) := by
  obtain ⟨⟨r, ns⟩, ⟨t, ms⟩, ⟨c, n⟩, b, q⟩ := A
  obtain ⟨S0, O, f0, T⟩ := v
  obtain ⟨d, d0, d1, d2, d3, d4⟩ := h1
  dsimp only at d d0 d1 d2 d3 d4 h2 h2' h3 ⊢
  have k1 := cov_roof d2 d0
  dsimp only at k1
  have k3 := tab_roof d3 d1
  have k4 := tab_cov d3 d2
  have hn : ∀ x, ¬ x = c ∧ ¬ x = n → x ∉ [c, n] := fun x hx hm => by
    simp only [List.mem_cons, List.not_mem_nil, or_false] at hm
    exact hm.elim hx.1 hx.2
  have ap : ∀ x, x ∉ t :: ms → x ∉ [c, n] → h' x = h x := fun x x1 x2 => h3 x (fun e => (List.mem_append.mp e).elim x1 x2)
  exact ⟨(ap a (obj_roof d d1) (obj_cov d d2)).trans d, roof_fr d0 (fun x hx => ap x (fun hr => d4 x (List.mem_cons.mpr hx) hr) (hn x (k1 x hx))), h2, h2', tab_fr d3 (fun x hx => ap x (fun hr => k3 x hr hx) (fun hr => k4 x hr hx)), d4⟩
noncomputable def Tr_X3_foresee : ATr := fun as h K => match as with
  | [.inr (.inl (some a)), .inl days, .inl what] => ab_so (ab_sr h a) fun P => (days = 1 ∧ (0 ≤ what ∧ what ≤ 2) ∧ P.2.1.day < 1000000000) ∧ ∀ h', ab_sr h' a = some (P.1, (P.2.1, (foreP P.2).2, (foreP P.2).1, P.2.2.2.2)) → ab_fr h h' ((P.1.2.1.1 :: P.1.2.1.2) ++ [P.1.2.2.1.1, P.1.2.2.1.2]) → K (some (.inl (foreF (foreP P.2).2 what))) h'
  | _ => False
theorem mo_X3_foresee : ab_mo Tr_X3_foresee := by
  intro as h K K' hk ht
  unfold Tr_X3_foresee at ht ⊢
  split at ht
  · exact ab_so_mo (fun P q => ⟨q.1, fun h' e1 e2 => hk _ _ (q.2 h' e1 e2)⟩) ht
  · exact ht.elim
def ca_X3_foresee : Nat → Option ACS := ab_lk [(199, (2, 0, 1, 0, 0, Tr_X3_isDays)), (113, (2, 0, 2, 0, 0, Tr_X3_isUpTo)), (168, (0, 1, 2, 0, 0, Tr_X1_copyFrom)), (204, (0, 3, 3, 0, 0, Tr_X3_letGoBy)), (142, (0, 1, 1, 0, 0, Tr_X1_crackedThere)), (152, (0, 1, 1, 0, 0, Tr_X1_allRot))]
theorem ca_X3_foresee_199 : ca_X3_foresee 199 = some (2, 0, 1, 0, 0, Tr_X3_isDays) := rfl
theorem ca_X3_foresee_113 : ca_X3_foresee 113 = some (2, 0, 2, 0, 0, Tr_X3_isUpTo) := rfl
theorem ca_X3_foresee_168 : ca_X3_foresee 168 = some (0, 1, 2, 0, 0, Tr_X1_copyFrom) := rfl
theorem ca_X3_foresee_204 : ca_X3_foresee 204 = some (0, 3, 3, 0, 0, Tr_X3_letGoBy) := rfl
theorem ca_X3_foresee_142 : ca_X3_foresee 142 = some (0, 1, 1, 0, 0, Tr_X1_crackedThere) := rfl
theorem ca_X3_foresee_152 : ca_X3_foresee 152 = some (0, 1, 1, 0, 0, Tr_X1_allRot) := rfl
theorem cm_X3_foresee : ∀ i q, ca_X3_foresee i = some q → ab_moq i q := ab_lk_all (ab_all_c mo_X3_isDays (ab_all_c mo_X3_isUpTo (ab_all_c mo_X1_copyFrom (ab_all_c mo_X3_letGoBy (ab_all_c mo_X1_crackedThere (ab_all_c mo_X1_allRot (ab_all_n)))))))
set_option maxRecDepth 100000 in
set_option maxHeartbeats 4000000 in
theorem sem_X3_foresee (base : Nat) : ab_Sem tbX3 lw_ts base cX3_foresee ca_X3_foresee 1 3 0 0 (fun as => ab_en as 3) Tr_X3_foresee := by
  intro as h K hT V hV
  unfold Tr_X3_foresee at hT
  split at hT
  · rename_i a days what
    obtain ⟨⟨⟨⟨r, ns⟩, ⟨t, ms⟩, ⟨c, n⟩, b, q0, q1, q2, q3⟩, S, O, f, T⟩, hP, hs, hK⟩ := ab_so_el hT
    have hA := sr_el hP
    obtain ⟨D, D0, D1, D2, D3, -⟩ := id hA
    dsimp only at D D0 D1 D2 D3
    try dsimp only at hK hs
    show V 0 [some (.inr (.inl (some a))), some (.inl days), some (.inl what)] [] h 0 0
    obtain ⟨rfl, hs1, hs2⟩ := hs
    have h1 : decide ((1 : Int) ≤ 1 ∧ (1 : Int) ≤ 60) = true := rfl
    have h2 : isUpToF what 2 = true := decide_eq_true hs1
    obtain ⟨-, m0, m1, m2, m3, m4, m5, m6, m7, m8, -, -, e9, -⟩ := roof_el D1
    obtain ⟨-, l0, l1, l2, l3, l4, l5, l6, l7, l8, -, -, e6, -⟩ := roof_el D0
    have hdy := (roof_el D0).1.day_r
    have dj := sr_dj hA
    dsimp only at dj
    have a2 : ∀ h3 h4, ab_fr h h3 (t :: ms) → ab_roof h4 t = some (ms, (foreP (S, O, f, T)).2) → ab_cov h4 c = some (n, (foreP (S, O, f, T)).1) → ab_fr h3 h4 ((t :: ms) ++ [c, n]) → V 55 [some (.inr (.inl (some a))), some (.inl 1), some (.inl what)] [] h4 0 0 := by
      intro h3 h4 q6 q7 q8 q9
      have fr := (q6.sub (fun b hb => List.mem_append.mpr (Or.inl hb))).tr q9
      have g := sr_tc hA q7 q8 fr
      have hk3 := hK h4 (sr_of g) fr
      obtain ⟨d, d0, d1, -⟩ := g
      dsimp only at d d0 d1
      obtain ⟨-, l0, l1, l2, l3, l4, l5, l6, l7, l8, -, -, e6, -⟩ := roof_el d1
      have k0 : what = 0 → K (some (.inl (foreP (S, O, f, T)).2.there)) h4 := fun q => by subst q; exact hk3
      have k1 : what = 1 → K (some (.inl (crkThF (foreP (S, O, f, T)).2))) h4 := fun q => by subst q; exact hk3
      have k2 : what = 2 → K (some (.inl (allRotF (foreP (S, O, f, T)).2))) h4 := fun q => by subst q; exact hk3
      generalize (foreP (S, O, f, T)).2 = S2 at *
      refine hV (fun _ => false) 80 _ _ _ _ _ _ ?_
      simp only [d, d1, e6, bI_in, bI_0, bI_1, bI_t, bI_f, bI_01, Tr_X1_crackedThere, Tr_X1_allRot, ae_aload_n, ae_getfield, ae_iload_n, ae_invokevirtual, ae_ireturn, ae_lookupswitch, dX3_foresee_55, dX3_foresee_56, dX3_foresee_84, dX3_foresee_85, dX3_foresee_88, dX3_foresee_91, dX3_foresee_92, dX3_foresee_93, dX3_foresee_96, dX3_foresee_99, dX3_foresee_100, dX3_foresee_101, dX3_foresee_104, dX3_foresee_107, tbX3_g16, tbX3_g48, ca_X3_foresee_199, ca_X3_foresee_113, ca_X3_foresee_168, ca_X3_foresee_204, ca_X3_foresee_142, ca_X3_foresee_152, ab_wp0, ab_wps, ab_stp, ab_g, ab_st, ab_k2, ab_cl, ab_pop, ab_sz, ab_2, ab_ret, ab_f4, ab_tg, ab_I, ab_II, ab_A, ab_Rf, ab_VR, ab_IR, ab_VIR, ab_1, ab_LL, ab_DD, ab_ob, ab_pr, ab_qr, ab_ln, ab_so, ab_vI, ab_vA, ab_vD, ab_vL, ab_v2, ab_c, ab_fit, ab_rv, ab_tsw, ab_lsw, ab_up_eq, Fin.isValue, ab_f0, ab_f1, ab_f2, ab_f3, List.getElem?_cons_zero, List.getElem?_cons_succ, List.set_cons_zero, List.set_cons_succ, List.length_cons, List.length_nil, List.size_toArray, List.head?_cons, List.tail_cons, Option.map_some, cond_true, cond_false, true_and, and_true, false_and, and_false, not_true_eq_false, not_false_eq_true, true_imp_iff, false_imp_iff, if_true, if_false, ite_true, ite_false, ↓reduceIte, Nat.reduceAdd, Nat.reduceEqDiff, Nat.reduceLeDiff, Nat.reduceLT, Nat.reduceBEq, Nat.reduceBNe, Int.reduceAdd, Int.reduceNeg, Int.reduceSub, Int.reduceLE, Int.reduceLT, Int.reduceToNat, Int.reduceEq, Int.reduceMul, Int.cast_ofNat_Int, Nat.zero_add, Nat.add_zero, Nat.le_refl, eq_self, ne_eq, reduceCtorEq, or_true, true_or, or_false, false_or, Bool.or_true, Bool.or_false, Bool.true_or, Bool.false_or, Nat.zero_le, Int.le_refl, Int.ofNat_zero, Int.ofNat_one, Bool.false_eq_true]
      try simp only [ab_in]
      (repeat' (first | intro _ | refine And.intro ?_ ?_)) <;> (first | exact k0 (by omega) | exact k1 (by omega) | exact k2 (by omega) | exact rfl | contradiction | omega | (exfalso; omega))
    have a1 : ∀ h3, ab_roof h3 t = some (ms, cpF O S) → ab_fr h h3 (t :: ms) → V 46 [some (.inr (.inl (some a))), some (.inl 1), some (.inl what)] [] h3 0 0 := by
      intro h3 q5 q6
      have g := sr_trial hA q5 q6
      have hg := sr_of g
      obtain ⟨d, d0, d1, d2, -⟩ := g
      dsimp only at d d0 d1 d2 hg
      have dd : (cpF O S).day = S.day := rfl
      refine hV (fun p => p == 55) 80 _ _ _ _ _ _ ?_
      simp only [d, d1, hg, dd, bI_in, bI_0, bI_1, bI_t, bI_f, bI_01, Tr_X3_letGoBy, ae_aload_n, ae_getfield, ae_iload_n, ae_invokevirtual, dX3_foresee_46, dX3_foresee_47, dX3_foresee_48, dX3_foresee_51, dX3_foresee_52, tbX3_g16, ca_X3_foresee_199, ca_X3_foresee_113, ca_X3_foresee_168, ca_X3_foresee_204, ca_X3_foresee_142, ca_X3_foresee_152, ab_wp0, ab_wps, ab_stp, ab_g, ab_st, ab_k2, ab_cl, ab_pop, ab_sz, ab_2, ab_ret, ab_f4, ab_tg, ab_I, ab_II, ab_A, ab_Rf, ab_VR, ab_IR, ab_VIR, ab_1, ab_LL, ab_DD, ab_ob, ab_pr, ab_qr, ab_ln, ab_so, ab_vI, ab_vA, ab_vD, ab_vL, ab_v2, ab_c, ab_fit, ab_rv, ab_tsw, ab_lsw, ab_up_eq, Fin.isValue, ab_f0, ab_f1, ab_f2, ab_f3, List.getElem?_cons_zero, List.getElem?_cons_succ, List.set_cons_zero, List.set_cons_succ, List.length_cons, List.length_nil, List.size_toArray, List.head?_cons, List.tail_cons, Option.map_some, cond_true, cond_false, true_and, and_true, false_and, and_false, not_true_eq_false, not_false_eq_true, true_imp_iff, false_imp_iff, if_true, if_false, ite_true, ite_false, ↓reduceIte, Nat.reduceAdd, Nat.reduceEqDiff, Nat.reduceLeDiff, Nat.reduceLT, Nat.reduceBEq, Nat.reduceBNe, Int.reduceAdd, Int.reduceNeg, Int.reduceSub, Int.reduceLE, Int.reduceLT, Int.reduceToNat, Int.reduceEq, Int.reduceMul, Int.cast_ofNat_Int, Nat.zero_add, Nat.add_zero, Nat.le_refl, eq_self, ne_eq, reduceCtorEq, or_true, true_or, or_false, false_or, Bool.or_true, Bool.or_false, Bool.true_or, Bool.false_or, Nat.zero_le, Int.le_refl, Int.ofNat_zero, Int.ofNat_one, Bool.false_eq_true]
      try simp only [ab_in]
      (repeat' (first | intro _ | refine And.intro ?_ ?_)) <;> (first | exact a2 h3 _ q6 (by assumption) (by assumption) (by assumption) | exact rfl | contradiction | omega | (exfalso; omega))
    refine hV (fun p => p == 46) 80 _ _ _ _ _ _ ?_
    simp only [D, D0, D1, e9, e6, h1, h2, bI_in, bI_0, bI_1, bI_t, bI_f, bI_01, Tr_X3_isDays, Tr_X3_isUpTo, Tr_X1_copyFrom, ae_aload_n, ae_dup, ae_getfield, ae_iconst, ae_ifCond, ae_iload_n, ae_invokespecial, ae_invokestatic, ae_invokevirtual, ae_ldc, ae_new, dX3_foresee_0, dX3_foresee_1, dX3_foresee_4, dX3_foresee_7, dX3_foresee_10, dX3_foresee_11, dX3_foresee_13, dX3_foresee_16, dX3_foresee_17, dX3_foresee_18, dX3_foresee_19, dX3_foresee_22, dX3_foresee_25, dX3_foresee_28, dX3_foresee_29, dX3_foresee_31, dX3_foresee_34, dX3_foresee_35, dX3_foresee_36, dX3_foresee_39, dX3_foresee_40, dX3_foresee_43, tbX3_g12, tbX3_g16, ca_X3_foresee_199, ca_X3_foresee_113, ca_X3_foresee_168, ca_X3_foresee_204, ca_X3_foresee_142, ca_X3_foresee_152, ab_wp0, ab_wps, ab_stp, ab_g, ab_st, ab_k2, ab_cl, ab_pop, ab_sz, ab_2, ab_ret, ab_f4, ab_tg, ab_I, ab_II, ab_A, ab_Rf, ab_VR, ab_IR, ab_VIR, ab_1, ab_LL, ab_DD, ab_ob, ab_pr, ab_qr, ab_ln, ab_so, ab_vI, ab_vA, ab_vD, ab_vL, ab_v2, ab_c, ab_fit, ab_rv, ab_tsw, ab_lsw, ab_up_eq, Fin.isValue, ab_f0, ab_f1, ab_f2, ab_f3, List.getElem?_cons_zero, List.getElem?_cons_succ, List.set_cons_zero, List.set_cons_succ, List.length_cons, List.length_nil, List.size_toArray, List.head?_cons, List.tail_cons, Option.map_some, cond_true, cond_false, true_and, and_true, false_and, and_false, not_true_eq_false, not_false_eq_true, true_imp_iff, false_imp_iff, if_true, if_false, ite_true, ite_false, ↓reduceIte, Nat.reduceAdd, Nat.reduceEqDiff, Nat.reduceLeDiff, Nat.reduceLT, Nat.reduceBEq, Nat.reduceBNe, Int.reduceAdd, Int.reduceNeg, Int.reduceSub, Int.reduceLE, Int.reduceLT, Int.reduceToNat, Int.reduceEq, Int.reduceMul, Int.cast_ofNat_Int, Nat.zero_add, Nat.add_zero, Nat.le_refl, eq_self, ne_eq, reduceCtorEq, or_true, true_or, or_false, false_or, Bool.or_true, Bool.or_false, Bool.true_or, Bool.false_or, Nat.zero_le, Int.le_refl, Int.ofNat_zero, Int.ofNat_one, Bool.false_eq_true]
    try simp only [ab_in]
    (repeat' (first | intro _ | refine And.intro ?_ ?_)) <;> (first | exact a1 _ (by assumption) (by assumption) | exact dj _ (by assumption) (by assumption) | exact rfl | contradiction | omega | (exfalso; omega))
  · exact hT.elim
set_option maxRecDepth 100000 in
theorem con_X3_foresee (l : Launch) (D : va_G) (ty : Nat → ClassId) (base : Nat) : ab_Con l D vwCl ty lw_ts base lw_wd yX3_foresee cX3_foresee 3 (some .int) 6 141 0 0 Tr_X3_foresee :=
  ab_con_of (own := RX3) (rt := 1) (tb := tbX3) (ini := false) (ca := ca_X3_foresee) (by decide +kernel) rfl (fun h => by cases h) rfl lw_wd_ok wtbX3 lw_ar cm_X3_foresee
    (fun p e R s m args below meth c K hcx => by
      obtain ⟨hx, hb, hml, hown, hF, rfl⟩ := hcx
      exact ab_lk_all (ab_all_c (ab_tc_S hx hb hml hown lw_wd_ok hF ⟨rfl, rfl⟩ (con_X3_isDays l D ty base) (lw_wi (by decide +kernel) (by decide +kernel)) (lw_wi (by decide +kernel) (by decide +kernel)) (lw_wi (by decide +kernel) (by decide +kernel)) (lw_wi (by decide +kernel) (by decide +kernel)) (by decide +kernel) ⟨by decide, by decide⟩) (ab_all_c (ab_tc_S hx hb hml hown lw_wd_ok hF ⟨rfl, rfl⟩ (con_X3_isUpTo l D ty base) (lw_wi (by decide +kernel) (by decide +kernel)) (lw_wi (by decide +kernel) (by decide +kernel)) (lw_wi (by decide +kernel) (by decide +kernel)) (lw_wi (by decide +kernel) (by decide +kernel)) (by decide +kernel) ⟨by decide, by decide⟩) (ab_all_c (ab_tc_V hx hb hml hown lw_wd_ok hF ⟨rfl, rfl⟩ (con_X1_copyFrom l D ty base) rfl (lw_wi (by decide +kernel) (by decide +kernel)) (lw_wi (by decide +kernel) (by decide +kernel)) (lw_wi (by decide +kernel) (by decide +kernel)) (lw_wi (by decide +kernel) (by decide +kernel)) (lw_wi (by decide +kernel) (by decide +kernel)) (by decide +kernel) ⟨by decide, by decide⟩) (ab_all_c (ab_tc_V hx hb hml hown lw_wd_ok hF ⟨rfl, rfl⟩ (con_X3_letGoBy l D ty base) rfl (lw_wi (by decide +kernel) (by decide +kernel)) (lw_wi (by decide +kernel) (by decide +kernel)) (lw_wi (by decide +kernel) (by decide +kernel)) (lw_wi (by decide +kernel) (by decide +kernel)) (lw_wi (by decide +kernel) (by decide +kernel)) (by decide +kernel) ⟨by decide, by decide⟩) (ab_all_c (ab_tc_V hx hb hml hown lw_wd_ok hF ⟨rfl, rfl⟩ (con_X1_crackedThere l D ty base) rfl (lw_wi (by decide +kernel) (by decide +kernel)) (lw_wi (by decide +kernel) (by decide +kernel)) (lw_wi (by decide +kernel) (by decide +kernel)) (lw_wi (by decide +kernel) (by decide +kernel)) (lw_wi (by decide +kernel) (by decide +kernel)) (by decide +kernel) ⟨by decide, by decide⟩) (ab_all_c (ab_tc_V hx hb hml hown lw_wd_ok hF ⟨rfl, rfl⟩ (con_X1_allRot l D ty base) rfl (lw_wi (by decide +kernel) (by decide +kernel)) (lw_wi (by decide +kernel) (by decide +kernel)) (lw_wi (by decide +kernel) (by decide +kernel)) (lw_wi (by decide +kernel) (by decide +kernel)) (lw_wi (by decide +kernel) (by decide +kernel)) (by decide +kernel) ⟨by decide, by decide⟩) (ab_all_n))))))))
    (by intro as h K ht; unfold Tr_X3_foresee at ht; split at ht <;> first | exact ht.elim | exact Nat.le_of_ble_eq_true rfl) (sem_X3_foresee base)
