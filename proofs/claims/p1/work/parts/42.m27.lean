/-! ===== the reference: what only reads, on a bare roof ===== -/
def Tr_X4_isIn : ATr := fun _as h K => match _as with
  | [.inl v, .inl lo, .inl hi] => (ab_in v ∧ ab_in lo ∧ ab_in hi) ∧ K (some (.inl (bI (decide (lo ≤ v ∧ v ≤ hi))))) h
  | _ => False
theorem mo_X4_isIn : ab_mo Tr_X4_isIn := by
  intro as h K K' hk ht
  unfold Tr_X4_isIn at ht ⊢
  split at ht
  · exact ⟨ht.1, hk _ _ ht.2⟩
  · exact ht.elim
def ca_X4_isIn : Nat → Option ACS := ab_lk []
theorem cm_X4_isIn : ∀ i q, ca_X4_isIn i = some q → ab_moq i q := ab_lk_all (ab_all_n)
set_option maxRecDepth 100000 in
set_option maxHeartbeats 1000000 in
theorem sem_X4_isIn (base : Nat) : ab_Sem tbX4 lw_ts base cX4_isIn ca_X4_isIn 2 3 0 0 (fun as => ab_en as 3) Tr_X4_isIn := by
  intro as h K hT V hV
  unfold Tr_X4_isIn at hT
  split at hT
  · rename_i v lo hi
    obtain ⟨hs, hK⟩ := hT
    show V 0 [some (.inl v), some (.inl lo), some (.inl hi)] [] h 0 0
    by_cases h1 : lo ≤ v ∧ v ≤ hi
    · rw [decide_eq_true h1, bI_t] at hK
      refine hV (fun _ => false) 80 _ _ _ _ _ _ ?_
      simp only [bI_in, bI_0, bI_1, bI_t, bI_f, bI_01, ae_goto, ae_iconst, ae_if_icmp, ae_iload_n, ae_ireturn, dX4_isIn_0, dX4_isIn_1, dX4_isIn_2, dX4_isIn_5, dX4_isIn_6, dX4_isIn_7, dX4_isIn_10, dX4_isIn_11, dX4_isIn_14, dX4_isIn_15, ab_wp0, ab_wps, ab_stp, ab_g, ab_st, ab_k2, ab_cl, ab_pop, ab_sz, ab_2, ab_ret, ab_f4, ab_tg, ab_I, ab_II, ab_A, ab_Rf, ab_VR, ab_IR, ab_VIR, ab_1, ab_LL, ab_DD, ab_ob, ab_pr, ab_qr, ab_ln, ab_so, ab_vI, ab_vA, ab_vD, ab_vL, ab_v2, ab_c, ab_fit, ab_rv, ab_tsw, ab_lsw, ab_up_eq, Fin.isValue, ab_f0, ab_f1, ab_f2, ab_f3, List.getElem?_cons_zero, List.getElem?_cons_succ, List.set_cons_zero, List.set_cons_succ, List.length_cons, List.length_nil, List.size_toArray, List.head?_cons, List.tail_cons, Option.map_some, cond_true, cond_false, true_and, and_true, false_and, and_false, not_true_eq_false, not_false_eq_true, true_imp_iff, false_imp_iff, if_true, if_false, ite_true, ite_false, ↓reduceIte, Nat.reduceAdd, Nat.reduceEqDiff, Nat.reduceLeDiff, Nat.reduceLT, Nat.reduceBEq, Nat.reduceBNe, Int.reduceAdd, Int.reduceNeg, Int.reduceSub, Int.reduceLE, Int.reduceLT, Int.reduceToNat, Int.reduceEq, Int.reduceMul, Int.cast_ofNat_Int, Nat.zero_add, Nat.add_zero, Nat.le_refl, eq_self, ne_eq, reduceCtorEq, or_true, true_or, or_false, false_or, Bool.or_true, Bool.or_false, Bool.true_or, Bool.false_or, Nat.zero_le, Int.le_refl, Int.ofNat_zero, Int.ofNat_one, Bool.false_eq_true]
      try simp only [ab_in] at hs ⊢
      (repeat' (first | intro _ | refine And.intro ?_ ?_)) <;> (first | exact hK | contradiction | omega | (exfalso; omega))
    · rw [decide_eq_false h1, bI_f] at hK
      refine hV (fun _ => false) 80 _ _ _ _ _ _ ?_
      simp only [bI_in, bI_0, bI_1, bI_t, bI_f, bI_01, ae_goto, ae_iconst, ae_if_icmp, ae_iload_n, ae_ireturn, dX4_isIn_0, dX4_isIn_1, dX4_isIn_2, dX4_isIn_5, dX4_isIn_6, dX4_isIn_7, dX4_isIn_10, dX4_isIn_11, dX4_isIn_14, dX4_isIn_15, ab_wp0, ab_wps, ab_stp, ab_g, ab_st, ab_k2, ab_cl, ab_pop, ab_sz, ab_2, ab_ret, ab_f4, ab_tg, ab_I, ab_II, ab_A, ab_Rf, ab_VR, ab_IR, ab_VIR, ab_1, ab_LL, ab_DD, ab_ob, ab_pr, ab_qr, ab_ln, ab_so, ab_vI, ab_vA, ab_vD, ab_vL, ab_v2, ab_c, ab_fit, ab_rv, ab_tsw, ab_lsw, ab_up_eq, Fin.isValue, ab_f0, ab_f1, ab_f2, ab_f3, List.getElem?_cons_zero, List.getElem?_cons_succ, List.set_cons_zero, List.set_cons_succ, List.length_cons, List.length_nil, List.size_toArray, List.head?_cons, List.tail_cons, Option.map_some, cond_true, cond_false, true_and, and_true, false_and, and_false, not_true_eq_false, not_false_eq_true, true_imp_iff, false_imp_iff, if_true, if_false, ite_true, ite_false, ↓reduceIte, Nat.reduceAdd, Nat.reduceEqDiff, Nat.reduceLeDiff, Nat.reduceLT, Nat.reduceBEq, Nat.reduceBNe, Int.reduceAdd, Int.reduceNeg, Int.reduceSub, Int.reduceLE, Int.reduceLT, Int.reduceToNat, Int.reduceEq, Int.reduceMul, Int.cast_ofNat_Int, Nat.zero_add, Nat.add_zero, Nat.le_refl, eq_self, ne_eq, reduceCtorEq, or_true, true_or, or_false, false_or, Bool.or_true, Bool.or_false, Bool.true_or, Bool.false_or, Nat.zero_le, Int.le_refl, Int.ofNat_zero, Int.ofNat_one, Bool.false_eq_true]
      try simp only [ab_in] at hs ⊢
      (repeat' (first | intro _ | refine And.intro ?_ ?_)) <;> (first | exact hK | contradiction | omega | (exfalso; omega))
  · exact hT.elim
set_option maxRecDepth 100000 in
theorem con_X4_isIn (l : Launch) (D : va_G) (ty : Nat → ClassId) (base : Nat) : ab_Con l D vwCl ty lw_ts base lw_wd yX4_isIn cX4_isIn 3 (some .boolean) 0 0 0 0 Tr_X4_isIn :=
  ab_con_of (own := RX4) (rt := 2) (tb := tbX4) (ini := false) (ca := ca_X4_isIn) (by decide +kernel) rfl (fun h => by cases h) rfl lw_wd_ok wtbX4 lw_ar cm_X4_isIn
    (fun p e R s m args below meth c K hcx => by
      obtain ⟨hx, hb, hml, hown, hF, rfl⟩ := hcx
      exact ab_lk_all (ab_all_n))
    (by intro as h K ht; unfold Tr_X4_isIn at ht; split at ht <;> first | exact ht.elim | exact Nat.le_of_ble_eq_true rfl) (sem_X4_isIn base)
def Tr_X4_isPlace : ATr := fun _as h K => match _as with
  | [.inl x, .inl y] => (ab_in x ∧ ab_in y) ∧ K (some (.inl (bI (isPlaceF x y)))) h
  | _ => False
theorem mo_X4_isPlace : ab_mo Tr_X4_isPlace := by
  intro as h K K' hk ht
  unfold Tr_X4_isPlace at ht ⊢
  split at ht
  · exact ⟨ht.1, hk _ _ ht.2⟩
  · exact ht.elim
def ca_X4_isPlace : Nat → Option ACS := ab_lk [(36, (2, 0, 3, 0, 0, Tr_X4_isIn))]
theorem ca_X4_isPlace_36 : ca_X4_isPlace 36 = some (2, 0, 3, 0, 0, Tr_X4_isIn) := rfl
theorem cm_X4_isPlace : ∀ i q, ca_X4_isPlace i = some q → ab_moq i q := ab_lk_all (ab_all_c mo_X4_isIn (ab_all_n))
set_option maxRecDepth 100000 in
set_option maxHeartbeats 1000000 in
theorem sem_X4_isPlace (base : Nat) : ab_Sem tbX4 lw_ts base cX4_isPlace ca_X4_isPlace 2 2 0 0 (fun as => ab_en as 2) Tr_X4_isPlace := by
  intro as h K hT V hV
  unfold Tr_X4_isPlace at hT
  split at hT
  · rename_i x y
    obtain ⟨hs, hK⟩ := hT
    show V 0 [some (.inl x), some (.inl y)] [] h 0 0
    cases ha : decide (0 ≤ x ∧ x ≤ 11)
    · have ha2 := of_decide_eq_false ha
      have hp : isPlaceF x y = false := decide_eq_false (by omega)
      rw [hp, bI_f] at hK
      refine hV (fun _ => false) 80 _ _ _ _ _ _ ?_
      simp only [ha, bI_in, bI_0, bI_1, bI_t, bI_f, bI_01, Tr_X4_isIn, ae_bipush, ae_goto, ae_iconst, ae_ifCond, ae_iload_n, ae_invokestatic, ae_ireturn, dX4_isPlace_0, dX4_isPlace_1, dX4_isPlace_2, dX4_isPlace_4, dX4_isPlace_7, dX4_isPlace_10, dX4_isPlace_11, dX4_isPlace_12, dX4_isPlace_14, dX4_isPlace_17, dX4_isPlace_20, dX4_isPlace_21, dX4_isPlace_24, dX4_isPlace_25, ca_X4_isPlace_36, ab_wp0, ab_wps, ab_stp, ab_g, ab_st, ab_k2, ab_cl, ab_pop, ab_sz, ab_2, ab_ret, ab_f4, ab_tg, ab_I, ab_II, ab_A, ab_Rf, ab_VR, ab_IR, ab_VIR, ab_1, ab_LL, ab_DD, ab_ob, ab_pr, ab_qr, ab_ln, ab_so, ab_vI, ab_vA, ab_vD, ab_vL, ab_v2, ab_c, ab_fit, ab_rv, ab_tsw, ab_lsw, ab_up_eq, Fin.isValue, ab_f0, ab_f1, ab_f2, ab_f3, List.getElem?_cons_zero, List.getElem?_cons_succ, List.set_cons_zero, List.set_cons_succ, List.length_cons, List.length_nil, List.size_toArray, List.head?_cons, List.tail_cons, Option.map_some, cond_true, cond_false, true_and, and_true, false_and, and_false, not_true_eq_false, not_false_eq_true, true_imp_iff, false_imp_iff, if_true, if_false, ite_true, ite_false, ↓reduceIte, Nat.reduceAdd, Nat.reduceEqDiff, Nat.reduceLeDiff, Nat.reduceLT, Nat.reduceBEq, Nat.reduceBNe, Int.reduceAdd, Int.reduceNeg, Int.reduceSub, Int.reduceLE, Int.reduceLT, Int.reduceToNat, Int.reduceEq, Int.reduceMul, Int.cast_ofNat_Int, Nat.zero_add, Nat.add_zero, Nat.le_refl, eq_self, ne_eq, reduceCtorEq, or_true, true_or, or_false, false_or, Bool.or_true, Bool.or_false, Bool.true_or, Bool.false_or, Nat.zero_le, Int.le_refl, Int.ofNat_zero, Int.ofNat_one, Bool.false_eq_true]
      try simp only [ab_in] at hs ⊢
      (repeat' (first | intro _ | refine And.intro ?_ ?_)) <;> (first | exact hK | contradiction | omega | (exfalso; omega))
    · cases hb : decide (0 ≤ y ∧ y ≤ 7)
      · have hb2 := of_decide_eq_false hb
        have hp : isPlaceF x y = false := decide_eq_false (by omega)
        rw [hp, bI_f] at hK
        refine hV (fun _ => false) 80 _ _ _ _ _ _ ?_
        simp only [ha, hb, bI_in, bI_0, bI_1, bI_t, bI_f, bI_01, Tr_X4_isIn, ae_bipush, ae_goto, ae_iconst, ae_ifCond, ae_iload_n, ae_invokestatic, ae_ireturn, dX4_isPlace_0, dX4_isPlace_1, dX4_isPlace_2, dX4_isPlace_4, dX4_isPlace_7, dX4_isPlace_10, dX4_isPlace_11, dX4_isPlace_12, dX4_isPlace_14, dX4_isPlace_17, dX4_isPlace_20, dX4_isPlace_21, dX4_isPlace_24, dX4_isPlace_25, ca_X4_isPlace_36, ab_wp0, ab_wps, ab_stp, ab_g, ab_st, ab_k2, ab_cl, ab_pop, ab_sz, ab_2, ab_ret, ab_f4, ab_tg, ab_I, ab_II, ab_A, ab_Rf, ab_VR, ab_IR, ab_VIR, ab_1, ab_LL, ab_DD, ab_ob, ab_pr, ab_qr, ab_ln, ab_so, ab_vI, ab_vA, ab_vD, ab_vL, ab_v2, ab_c, ab_fit, ab_rv, ab_tsw, ab_lsw, ab_up_eq, Fin.isValue, ab_f0, ab_f1, ab_f2, ab_f3, List.getElem?_cons_zero, List.getElem?_cons_succ, List.set_cons_zero, List.set_cons_succ, List.length_cons, List.length_nil, List.size_toArray, List.head?_cons, List.tail_cons, Option.map_some, cond_true, cond_false, true_and, and_true, false_and, and_false, not_true_eq_false, not_false_eq_true, true_imp_iff, false_imp_iff, if_true, if_false, ite_true, ite_false, ↓reduceIte, Nat.reduceAdd, Nat.reduceEqDiff, Nat.reduceLeDiff, Nat.reduceLT, Nat.reduceBEq, Nat.reduceBNe, Int.reduceAdd, Int.reduceNeg, Int.reduceSub, Int.reduceLE, Int.reduceLT, Int.reduceToNat, Int.reduceEq, Int.reduceMul, Int.cast_ofNat_Int, Nat.zero_add, Nat.add_zero, Nat.le_refl, eq_self, ne_eq, reduceCtorEq, or_true, true_or, or_false, false_or, Bool.or_true, Bool.or_false, Bool.true_or, Bool.false_or, Nat.zero_le, Int.le_refl, Int.ofNat_zero, Int.ofNat_one, Bool.false_eq_true]
        try simp only [ab_in] at hs ⊢
        (repeat' (first | intro _ | refine And.intro ?_ ?_)) <;> (first | exact hK | contradiction | omega | (exfalso; omega))
      · have ha2 := of_decide_eq_true ha
        have hb2 := of_decide_eq_true hb
        have hp : isPlaceF x y = true := decide_eq_true (by omega)
        rw [hp, bI_t] at hK
        refine hV (fun _ => false) 80 _ _ _ _ _ _ ?_
        simp only [ha, hb, bI_in, bI_0, bI_1, bI_t, bI_f, bI_01, Tr_X4_isIn, ae_bipush, ae_goto, ae_iconst, ae_ifCond, ae_iload_n, ae_invokestatic, ae_ireturn, dX4_isPlace_0, dX4_isPlace_1, dX4_isPlace_2, dX4_isPlace_4, dX4_isPlace_7, dX4_isPlace_10, dX4_isPlace_11, dX4_isPlace_12, dX4_isPlace_14, dX4_isPlace_17, dX4_isPlace_20, dX4_isPlace_21, dX4_isPlace_24, dX4_isPlace_25, ca_X4_isPlace_36, ab_wp0, ab_wps, ab_stp, ab_g, ab_st, ab_k2, ab_cl, ab_pop, ab_sz, ab_2, ab_ret, ab_f4, ab_tg, ab_I, ab_II, ab_A, ab_Rf, ab_VR, ab_IR, ab_VIR, ab_1, ab_LL, ab_DD, ab_ob, ab_pr, ab_qr, ab_ln, ab_so, ab_vI, ab_vA, ab_vD, ab_vL, ab_v2, ab_c, ab_fit, ab_rv, ab_tsw, ab_lsw, ab_up_eq, Fin.isValue, ab_f0, ab_f1, ab_f2, ab_f3, List.getElem?_cons_zero, List.getElem?_cons_succ, List.set_cons_zero, List.set_cons_succ, List.length_cons, List.length_nil, List.size_toArray, List.head?_cons, List.tail_cons, Option.map_some, cond_true, cond_false, true_and, and_true, false_and, and_false, not_true_eq_false, not_false_eq_true, true_imp_iff, false_imp_iff, if_true, if_false, ite_true, ite_false, ↓reduceIte, Nat.reduceAdd, Nat.reduceEqDiff, Nat.reduceLeDiff, Nat.reduceLT, Nat.reduceBEq, Nat.reduceBNe, Int.reduceAdd, Int.reduceNeg, Int.reduceSub, Int.reduceLE, Int.reduceLT, Int.reduceToNat, Int.reduceEq, Int.reduceMul, Int.cast_ofNat_Int, Nat.zero_add, Nat.add_zero, Nat.le_refl, eq_self, ne_eq, reduceCtorEq, or_true, true_or, or_false, false_or, Bool.or_true, Bool.or_false, Bool.true_or, Bool.false_or, Nat.zero_le, Int.le_refl, Int.ofNat_zero, Int.ofNat_one, Bool.false_eq_true]
        try simp only [ab_in] at hs ⊢
        (repeat' (first | intro _ | refine And.intro ?_ ?_)) <;> (first | exact hK | contradiction | omega | (exfalso; omega))
  · exact hT.elim
set_option maxRecDepth 100000 in
theorem con_X4_isPlace (l : Launch) (D : va_G) (ty : Nat → ClassId) (base : Nat) : ab_Con l D vwCl ty lw_ts base lw_wd yX4_isPlace cX4_isPlace 2 (some .boolean) 1 22 0 0 Tr_X4_isPlace :=
  ab_con_of (own := RX4) (rt := 2) (tb := tbX4) (ini := false) (ca := ca_X4_isPlace) (by decide +kernel) rfl (fun h => by cases h) rfl lw_wd_ok wtbX4 lw_ar cm_X4_isPlace
    (fun p e R s m args below meth c K hcx => by
      obtain ⟨hx, hb, hml, hown, hF, rfl⟩ := hcx
      exact ab_lk_all (ab_all_c (ab_tc_S hx hb hml hown lw_wd_ok hF ⟨rfl, rfl⟩ (con_X4_isIn l D ty base) (lw_wi (by decide +kernel) (by decide +kernel)) (lw_wi (by decide +kernel) (by decide +kernel)) (lw_wi (by decide +kernel) (by decide +kernel)) (lw_wi (by decide +kernel) (by decide +kernel)) (by decide +kernel) ⟨by decide, by decide⟩) (ab_all_n)))
    (by intro as h K ht; unfold Tr_X4_isPlace at ht; split at ht <;> first | exact ht.elim | exact Nat.le_of_ble_eq_true rfl) (sem_X4_isPlace base)
def Tr_X4_isSpan : ATr := fun _as h K => match _as with
  | [.inl row, .inl from9, .inl wide] => (ab_in row ∧ ab_in from9 ∧ ab_in wide) ∧ K (some (.inl (bI (fitsF row from9 wide)))) h
  | _ => False
theorem mo_X4_isSpan : ab_mo Tr_X4_isSpan := by
  intro as h K K' hk ht
  unfold Tr_X4_isSpan at ht ⊢
  split at ht
  · exact ⟨ht.1, hk _ _ ht.2⟩
  · exact ht.elim
def ca_X4_isSpan : Nat → Option ACS := ab_lk [(36, (2, 0, 3, 0, 0, Tr_X4_isIn))]
theorem ca_X4_isSpan_36 : ca_X4_isSpan 36 = some (2, 0, 3, 0, 0, Tr_X4_isIn) := rfl
theorem cm_X4_isSpan : ∀ i q, ca_X4_isSpan i = some q → ab_moq i q := ab_lk_all (ab_all_c mo_X4_isIn (ab_all_n))
set_option maxRecDepth 100000 in
set_option maxHeartbeats 1000000 in
theorem sem_X4_isSpan (base : Nat) : ab_Sem tbX4 lw_ts base cX4_isSpan ca_X4_isSpan 2 3 0 0 (fun as => ab_en as 3) Tr_X4_isSpan := by
  intro as h K hT V hV
  unfold Tr_X4_isSpan at hT
  split at hT
  · rename_i row from9 wide
    obtain ⟨hs, hK⟩ := hT
    show V 0 [some (.inl row), some (.inl from9), some (.inl wide)] [] h 0 0
    cases ha : decide (0 ≤ row ∧ row ≤ 7)
    · have ha2 := of_decide_eq_false ha
      have hp : fitsF row from9 wide = false := decide_eq_false (by omega)
      rw [hp, bI_f] at hK
      refine hV (fun _ => false) 80 _ _ _ _ _ _ ?_
      simp only [ha, bI_in, bI_0, bI_1, bI_t, bI_f, bI_01, Tr_X4_isIn, ae_bipush, ae_goto, ae_iadd, ae_iconst, ae_ifCond, ae_if_icmp, ae_iload_n, ae_invokestatic, ae_ireturn, dX4_isSpan_0, dX4_isSpan_1, dX4_isSpan_2, dX4_isSpan_4, dX4_isSpan_7, dX4_isSpan_10, dX4_isSpan_11, dX4_isSpan_12, dX4_isSpan_14, dX4_isSpan_17, dX4_isSpan_20, dX4_isSpan_21, dX4_isSpan_22, dX4_isSpan_23, dX4_isSpan_26, dX4_isSpan_29, dX4_isSpan_30, dX4_isSpan_31, dX4_isSpan_32, dX4_isSpan_34, dX4_isSpan_37, dX4_isSpan_38, dX4_isSpan_41, dX4_isSpan_42, ca_X4_isSpan_36, ab_wp0, ab_wps, ab_stp, ab_g, ab_st, ab_k2, ab_cl, ab_pop, ab_sz, ab_2, ab_ret, ab_f4, ab_tg, ab_I, ab_II, ab_A, ab_Rf, ab_VR, ab_IR, ab_VIR, ab_1, ab_LL, ab_DD, ab_ob, ab_pr, ab_qr, ab_ln, ab_so, ab_vI, ab_vA, ab_vD, ab_vL, ab_v2, ab_c, ab_fit, ab_rv, ab_tsw, ab_lsw, ab_up_eq, Fin.isValue, ab_f0, ab_f1, ab_f2, ab_f3, List.getElem?_cons_zero, List.getElem?_cons_succ, List.set_cons_zero, List.set_cons_succ, List.length_cons, List.length_nil, List.size_toArray, List.head?_cons, List.tail_cons, Option.map_some, cond_true, cond_false, true_and, and_true, false_and, and_false, not_true_eq_false, not_false_eq_true, true_imp_iff, false_imp_iff, if_true, if_false, ite_true, ite_false, ↓reduceIte, Nat.reduceAdd, Nat.reduceEqDiff, Nat.reduceLeDiff, Nat.reduceLT, Nat.reduceBEq, Nat.reduceBNe, Int.reduceAdd, Int.reduceNeg, Int.reduceSub, Int.reduceLE, Int.reduceLT, Int.reduceToNat, Int.reduceEq, Int.reduceMul, Int.cast_ofNat_Int, Nat.zero_add, Nat.add_zero, Nat.le_refl, eq_self, ne_eq, reduceCtorEq, or_true, true_or, or_false, false_or, Bool.or_true, Bool.or_false, Bool.true_or, Bool.false_or, Nat.zero_le, Int.le_refl, Int.ofNat_zero, Int.ofNat_one, Bool.false_eq_true]
      try simp only [ab_in] at hs ⊢
      (repeat' (first | intro _ | refine And.intro ?_ ?_)) <;> (first | exact hK | contradiction | omega | (exfalso; omega))
    · have ha2 := of_decide_eq_true ha
      cases hb : decide (0 ≤ from9 ∧ from9 ≤ 11)
      · have hb2 := of_decide_eq_false hb
        have hp : fitsF row from9 wide = false := decide_eq_false (by omega)
        rw [hp, bI_f] at hK
        refine hV (fun _ => false) 80 _ _ _ _ _ _ ?_
        simp only [ha, hb, bI_in, bI_0, bI_1, bI_t, bI_f, bI_01, Tr_X4_isIn, ae_bipush, ae_goto, ae_iadd, ae_iconst, ae_ifCond, ae_if_icmp, ae_iload_n, ae_invokestatic, ae_ireturn, dX4_isSpan_0, dX4_isSpan_1, dX4_isSpan_2, dX4_isSpan_4, dX4_isSpan_7, dX4_isSpan_10, dX4_isSpan_11, dX4_isSpan_12, dX4_isSpan_14, dX4_isSpan_17, dX4_isSpan_20, dX4_isSpan_21, dX4_isSpan_22, dX4_isSpan_23, dX4_isSpan_26, dX4_isSpan_29, dX4_isSpan_30, dX4_isSpan_31, dX4_isSpan_32, dX4_isSpan_34, dX4_isSpan_37, dX4_isSpan_38, dX4_isSpan_41, dX4_isSpan_42, ca_X4_isSpan_36, ab_wp0, ab_wps, ab_stp, ab_g, ab_st, ab_k2, ab_cl, ab_pop, ab_sz, ab_2, ab_ret, ab_f4, ab_tg, ab_I, ab_II, ab_A, ab_Rf, ab_VR, ab_IR, ab_VIR, ab_1, ab_LL, ab_DD, ab_ob, ab_pr, ab_qr, ab_ln, ab_so, ab_vI, ab_vA, ab_vD, ab_vL, ab_v2, ab_c, ab_fit, ab_rv, ab_tsw, ab_lsw, ab_up_eq, Fin.isValue, ab_f0, ab_f1, ab_f2, ab_f3, List.getElem?_cons_zero, List.getElem?_cons_succ, List.set_cons_zero, List.set_cons_succ, List.length_cons, List.length_nil, List.size_toArray, List.head?_cons, List.tail_cons, Option.map_some, cond_true, cond_false, true_and, and_true, false_and, and_false, not_true_eq_false, not_false_eq_true, true_imp_iff, false_imp_iff, if_true, if_false, ite_true, ite_false, ↓reduceIte, Nat.reduceAdd, Nat.reduceEqDiff, Nat.reduceLeDiff, Nat.reduceLT, Nat.reduceBEq, Nat.reduceBNe, Int.reduceAdd, Int.reduceNeg, Int.reduceSub, Int.reduceLE, Int.reduceLT, Int.reduceToNat, Int.reduceEq, Int.reduceMul, Int.cast_ofNat_Int, Nat.zero_add, Nat.add_zero, Nat.le_refl, eq_self, ne_eq, reduceCtorEq, or_true, true_or, or_false, false_or, Bool.or_true, Bool.or_false, Bool.true_or, Bool.false_or, Nat.zero_le, Int.le_refl, Int.ofNat_zero, Int.ofNat_one, Bool.false_eq_true]
        try simp only [ab_in] at hs ⊢
        (repeat' (first | intro _ | refine And.intro ?_ ?_)) <;> (first | exact hK | contradiction | omega | (exfalso; omega))
      · have hb2 := of_decide_eq_true hb
        cases hc : decide (1 ≤ wide ∧ wide ≤ 4)
        · have hc2 := of_decide_eq_false hc
          have hp : fitsF row from9 wide = false := decide_eq_false (by omega)
          rw [hp, bI_f] at hK
          refine hV (fun _ => false) 80 _ _ _ _ _ _ ?_
          simp only [ha, hb, hc, bI_in, bI_0, bI_1, bI_t, bI_f, bI_01, Tr_X4_isIn, ae_bipush, ae_goto, ae_iadd, ae_iconst, ae_ifCond, ae_if_icmp, ae_iload_n, ae_invokestatic, ae_ireturn, dX4_isSpan_0, dX4_isSpan_1, dX4_isSpan_2, dX4_isSpan_4, dX4_isSpan_7, dX4_isSpan_10, dX4_isSpan_11, dX4_isSpan_12, dX4_isSpan_14, dX4_isSpan_17, dX4_isSpan_20, dX4_isSpan_21, dX4_isSpan_22, dX4_isSpan_23, dX4_isSpan_26, dX4_isSpan_29, dX4_isSpan_30, dX4_isSpan_31, dX4_isSpan_32, dX4_isSpan_34, dX4_isSpan_37, dX4_isSpan_38, dX4_isSpan_41, dX4_isSpan_42, ca_X4_isSpan_36, ab_wp0, ab_wps, ab_stp, ab_g, ab_st, ab_k2, ab_cl, ab_pop, ab_sz, ab_2, ab_ret, ab_f4, ab_tg, ab_I, ab_II, ab_A, ab_Rf, ab_VR, ab_IR, ab_VIR, ab_1, ab_LL, ab_DD, ab_ob, ab_pr, ab_qr, ab_ln, ab_so, ab_vI, ab_vA, ab_vD, ab_vL, ab_v2, ab_c, ab_fit, ab_rv, ab_tsw, ab_lsw, ab_up_eq, Fin.isValue, ab_f0, ab_f1, ab_f2, ab_f3, List.getElem?_cons_zero, List.getElem?_cons_succ, List.set_cons_zero, List.set_cons_succ, List.length_cons, List.length_nil, List.size_toArray, List.head?_cons, List.tail_cons, Option.map_some, cond_true, cond_false, true_and, and_true, false_and, and_false, not_true_eq_false, not_false_eq_true, true_imp_iff, false_imp_iff, if_true, if_false, ite_true, ite_false, ↓reduceIte, Nat.reduceAdd, Nat.reduceEqDiff, Nat.reduceLeDiff, Nat.reduceLT, Nat.reduceBEq, Nat.reduceBNe, Int.reduceAdd, Int.reduceNeg, Int.reduceSub, Int.reduceLE, Int.reduceLT, Int.reduceToNat, Int.reduceEq, Int.reduceMul, Int.cast_ofNat_Int, Nat.zero_add, Nat.add_zero, Nat.le_refl, eq_self, ne_eq, reduceCtorEq, or_true, true_or, or_false, false_or, Bool.or_true, Bool.or_false, Bool.true_or, Bool.false_or, Nat.zero_le, Int.le_refl, Int.ofNat_zero, Int.ofNat_one, Bool.false_eq_true]
          try simp only [ab_in] at hs ⊢
          (repeat' (first | intro _ | refine And.intro ?_ ?_)) <;> (first | exact hK | contradiction | omega | (exfalso; omega))
        · have hc2 := of_decide_eq_true hc
          by_cases h9 : from9 + wide ≤ 12
          · have hp : fitsF row from9 wide = true := decide_eq_true (by omega)
            rw [hp, bI_t] at hK
            refine hV (fun _ => false) 80 _ _ _ _ _ _ ?_
            simp only [ha, hb, hc, bI_in, bI_0, bI_1, bI_t, bI_f, bI_01, Tr_X4_isIn, ae_bipush, ae_goto, ae_iadd, ae_iconst, ae_ifCond, ae_if_icmp, ae_iload_n, ae_invokestatic, ae_ireturn, dX4_isSpan_0, dX4_isSpan_1, dX4_isSpan_2, dX4_isSpan_4, dX4_isSpan_7, dX4_isSpan_10, dX4_isSpan_11, dX4_isSpan_12, dX4_isSpan_14, dX4_isSpan_17, dX4_isSpan_20, dX4_isSpan_21, dX4_isSpan_22, dX4_isSpan_23, dX4_isSpan_26, dX4_isSpan_29, dX4_isSpan_30, dX4_isSpan_31, dX4_isSpan_32, dX4_isSpan_34, dX4_isSpan_37, dX4_isSpan_38, dX4_isSpan_41, dX4_isSpan_42, ca_X4_isSpan_36, ab_wp0, ab_wps, ab_stp, ab_g, ab_st, ab_k2, ab_cl, ab_pop, ab_sz, ab_2, ab_ret, ab_f4, ab_tg, ab_I, ab_II, ab_A, ab_Rf, ab_VR, ab_IR, ab_VIR, ab_1, ab_LL, ab_DD, ab_ob, ab_pr, ab_qr, ab_ln, ab_so, ab_vI, ab_vA, ab_vD, ab_vL, ab_v2, ab_c, ab_fit, ab_rv, ab_tsw, ab_lsw, ab_up_eq, Fin.isValue, ab_f0, ab_f1, ab_f2, ab_f3, List.getElem?_cons_zero, List.getElem?_cons_succ, List.set_cons_zero, List.set_cons_succ, List.length_cons, List.length_nil, List.size_toArray, List.head?_cons, List.tail_cons, Option.map_some, cond_true, cond_false, true_and, and_true, false_and, and_false, not_true_eq_false, not_false_eq_true, true_imp_iff, false_imp_iff, if_true, if_false, ite_true, ite_false, ↓reduceIte, Nat.reduceAdd, Nat.reduceEqDiff, Nat.reduceLeDiff, Nat.reduceLT, Nat.reduceBEq, Nat.reduceBNe, Int.reduceAdd, Int.reduceNeg, Int.reduceSub, Int.reduceLE, Int.reduceLT, Int.reduceToNat, Int.reduceEq, Int.reduceMul, Int.cast_ofNat_Int, Nat.zero_add, Nat.add_zero, Nat.le_refl, eq_self, ne_eq, reduceCtorEq, or_true, true_or, or_false, false_or, Bool.or_true, Bool.or_false, Bool.true_or, Bool.false_or, Nat.zero_le, Int.le_refl, Int.ofNat_zero, Int.ofNat_one, Bool.false_eq_true]
            try simp only [ab_in] at hs ⊢
            (repeat' (first | intro _ | refine And.intro ?_ ?_)) <;> (first | exact hK | contradiction | omega | (exfalso; omega))
          · have hp : fitsF row from9 wide = false := decide_eq_false (by omega)
            rw [hp, bI_f] at hK
            refine hV (fun _ => false) 80 _ _ _ _ _ _ ?_
            simp only [ha, hb, hc, bI_in, bI_0, bI_1, bI_t, bI_f, bI_01, Tr_X4_isIn, ae_bipush, ae_goto, ae_iadd, ae_iconst, ae_ifCond, ae_if_icmp, ae_iload_n, ae_invokestatic, ae_ireturn, dX4_isSpan_0, dX4_isSpan_1, dX4_isSpan_2, dX4_isSpan_4, dX4_isSpan_7, dX4_isSpan_10, dX4_isSpan_11, dX4_isSpan_12, dX4_isSpan_14, dX4_isSpan_17, dX4_isSpan_20, dX4_isSpan_21, dX4_isSpan_22, dX4_isSpan_23, dX4_isSpan_26, dX4_isSpan_29, dX4_isSpan_30, dX4_isSpan_31, dX4_isSpan_32, dX4_isSpan_34, dX4_isSpan_37, dX4_isSpan_38, dX4_isSpan_41, dX4_isSpan_42, ca_X4_isSpan_36, ab_wp0, ab_wps, ab_stp, ab_g, ab_st, ab_k2, ab_cl, ab_pop, ab_sz, ab_2, ab_ret, ab_f4, ab_tg, ab_I, ab_II, ab_A, ab_Rf, ab_VR, ab_IR, ab_VIR, ab_1, ab_LL, ab_DD, ab_ob, ab_pr, ab_qr, ab_ln, ab_so, ab_vI, ab_vA, ab_vD, ab_vL, ab_v2, ab_c, ab_fit, ab_rv, ab_tsw, ab_lsw, ab_up_eq, Fin.isValue, ab_f0, ab_f1, ab_f2, ab_f3, List.getElem?_cons_zero, List.getElem?_cons_succ, List.set_cons_zero, List.set_cons_succ, List.length_cons, List.length_nil, List.size_toArray, List.head?_cons, List.tail_cons, Option.map_some, cond_true, cond_false, true_and, and_true, false_and, and_false, not_true_eq_false, not_false_eq_true, true_imp_iff, false_imp_iff, if_true, if_false, ite_true, ite_false, ↓reduceIte, Nat.reduceAdd, Nat.reduceEqDiff, Nat.reduceLeDiff, Nat.reduceLT, Nat.reduceBEq, Nat.reduceBNe, Int.reduceAdd, Int.reduceNeg, Int.reduceSub, Int.reduceLE, Int.reduceLT, Int.reduceToNat, Int.reduceEq, Int.reduceMul, Int.cast_ofNat_Int, Nat.zero_add, Nat.add_zero, Nat.le_refl, eq_self, ne_eq, reduceCtorEq, or_true, true_or, or_false, false_or, Bool.or_true, Bool.or_false, Bool.true_or, Bool.false_or, Nat.zero_le, Int.le_refl, Int.ofNat_zero, Int.ofNat_one, Bool.false_eq_true]
            try simp only [ab_in] at hs ⊢
            (repeat' (first | intro _ | refine And.intro ?_ ?_)) <;> (first | exact hK | contradiction | omega | (exfalso; omega))
  · exact hT.elim
set_option maxRecDepth 100000 in
theorem con_X4_isSpan (l : Launch) (D : va_G) (ty : Nat → ClassId) (base : Nat) : ab_Con l D vwCl ty lw_ts base lw_wd yX4_isSpan cX4_isSpan 3 (some .boolean) 1 22 0 0 Tr_X4_isSpan :=
  ab_con_of (own := RX4) (rt := 2) (tb := tbX4) (ini := false) (ca := ca_X4_isSpan) (by decide +kernel) rfl (fun h => by cases h) rfl lw_wd_ok wtbX4 lw_ar cm_X4_isSpan
    (fun p e R s m args below meth c K hcx => by
      obtain ⟨hx, hb, hml, hown, hF, rfl⟩ := hcx
      exact ab_lk_all (ab_all_c (ab_tc_S hx hb hml hown lw_wd_ok hF ⟨rfl, rfl⟩ (con_X4_isIn l D ty base) (lw_wi (by decide +kernel) (by decide +kernel)) (lw_wi (by decide +kernel) (by decide +kernel)) (lw_wi (by decide +kernel) (by decide +kernel)) (lw_wi (by decide +kernel) (by decide +kernel)) (by decide +kernel) ⟨by decide, by decide⟩) (ab_all_n)))
    (by intro as h K ht; unfold Tr_X4_isSpan at ht; split at ht <;> first | exact ht.elim | exact Nat.le_of_ble_eq_true rfl) (sem_X4_isSpan base)
noncomputable def Tr_X4_isSlate : ATr := fun as h K => match as with
  | [.inr (.inl (some a)), .inl s] => ab_so (ab_md h a) fun P => (bareV P.2 ∧ (ab_in s)) ∧ K (some (.inl (0))) h
  | _ => False
theorem mo_X4_isSlate : ab_mo Tr_X4_isSlate := by
  intro as h K K' hk ht
  unfold Tr_X4_isSlate at ht ⊢
  split at ht
  · exact ab_so_mo (fun P q => ⟨q.1, hk _ _ q.2⟩) ht
  · exact ht.elim
def ca_X4_isSlate : Nat → Option ACS := ab_lk [(36, (2, 0, 3, 0, 0, Tr_X4_isIn))]
theorem ca_X4_isSlate_36 : ca_X4_isSlate 36 = some (2, 0, 3, 0, 0, Tr_X4_isIn) := rfl
theorem cm_X4_isSlate : ∀ i q, ca_X4_isSlate i = some q → ab_moq i q := ab_lk_all (ab_all_c mo_X4_isIn (ab_all_n))
set_option maxRecDepth 100000 in
set_option maxHeartbeats 4000000 in
theorem sem_X4_isSlate (base : Nat) : ab_Sem tbX4 lw_ts base cX4_isSlate ca_X4_isSlate 2 2 0 0 (fun as => ab_en as 2) Tr_X4_isSlate := by
  intro as h K hT V hV
  unfold Tr_X4_isSlate at hT
  split at hT
  · rename_i a s
    obtain ⟨⟨⟨b0, b1, b2, b3, b4, b5⟩, th, sl, f0, f1, f2, f3, f4, f5⟩, hP, ⟨hb, hs⟩, hK⟩ := ab_so_el hT
    obtain ⟨g0, g1, g2, g3, g4, g5⟩ := id hb
    dsimp only [MV.thr, MV.sl, MV.fst9, MV.fat, MV.frt, MV.ftb, MV.fnm, MV.fmk] at g0 g1 g2 g3 g4 g5 hK hs
    subst g0
    have hm := md_el hP
    obtain ⟨c, c0, c1, c2, c3, c4, c5, -⟩ := id hm
    dsimp only [mdC, MV.thr, MV.sl, MV.fst9, MV.fat, MV.frt, MV.ftb, MV.fnm, MV.fmk] at c c0 c1 c2 c3 c4 c5
    show V 0 [some (.inr (.inl (some a))), some (.inl s)] [] h 0 0
    have hd : decide (0 ≤ s ∧ s ≤ -1) = false := decide_eq_false (by omega)
    refine hV (fun _ => false) 80 _ _ _ _ _ _ ?_
    simp only [c, hd, bI_in, bI_0, bI_1, bI_t, bI_f, bI_01, Tr_X4_isIn, ae_aload_n, ae_getfield, ae_iconst, ae_iload_n, ae_invokestatic, ae_ireturn, ae_isub, dX4_isSlate_0, dX4_isSlate_1, dX4_isSlate_2, dX4_isSlate_3, dX4_isSlate_6, dX4_isSlate_7, dX4_isSlate_8, dX4_isSlate_11, tbX4_g33, ca_X4_isSlate_36, ab_wp0, ab_wps, ab_stp, ab_g, ab_st, ab_k2, ab_cl, ab_pop, ab_sz, ab_2, ab_ret, ab_f4, ab_tg, ab_I, ab_II, ab_A, ab_Rf, ab_VR, ab_IR, ab_VIR, ab_1, ab_LL, ab_DD, ab_ob, ab_pr, ab_qr, ab_ln, ab_so, ab_vI, ab_vA, ab_vD, ab_vL, ab_v2, ab_c, ab_fit, ab_rv, ab_tsw, ab_lsw, ab_up_eq, Fin.isValue, ab_f0, ab_f1, ab_f2, ab_f3, List.getElem?_cons_zero, List.getElem?_cons_succ, List.set_cons_zero, List.set_cons_succ, List.length_cons, List.length_nil, List.size_toArray, List.head?_cons, List.tail_cons, Option.map_some, cond_true, cond_false, true_and, and_true, false_and, and_false, not_true_eq_false, not_false_eq_true, true_imp_iff, false_imp_iff, if_true, if_false, ite_true, ite_false, ↓reduceIte, Nat.reduceAdd, Nat.reduceEqDiff, Nat.reduceLeDiff, Nat.reduceLT, Nat.reduceBEq, Nat.reduceBNe, Int.reduceAdd, Int.reduceNeg, Int.reduceSub, Int.reduceLE, Int.reduceLT, Int.reduceToNat, Int.reduceEq, Int.reduceMul, Int.cast_ofNat_Int, Nat.zero_add, Nat.add_zero, Nat.le_refl, eq_self, ne_eq, reduceCtorEq, or_true, true_or, or_false, false_or, Bool.or_true, Bool.or_false, Bool.true_or, Bool.false_or, Nat.zero_le, Int.le_refl, Int.ofNat_zero, Int.ofNat_one, Bool.false_eq_true]
    try simp only [ab_in] at hs ⊢
    (repeat' (first | intro _ | refine And.intro ?_ ?_)) <;> (first | exact hK | contradiction | omega | (exfalso; omega))
  · exact hT.elim
set_option maxRecDepth 100000 in
theorem con_X4_isSlate (l : Launch) (D : va_G) (ty : Nat → ClassId) (base : Nat) : ab_Con l D vwCl ty lw_ts base lw_wd yX4_isSlate cX4_isSlate 2 (some .boolean) 1 22 0 0 Tr_X4_isSlate :=
  ab_con_of (own := RX4) (rt := 2) (tb := tbX4) (ini := false) (ca := ca_X4_isSlate) (by decide +kernel) rfl (fun h => by cases h) rfl lw_wd_ok wtbX4 lw_ar cm_X4_isSlate
    (fun p e R s m args below meth c K hcx => by
      obtain ⟨hx, hb, hml, hown, hF, rfl⟩ := hcx
      exact ab_lk_all (ab_all_c (ab_tc_S hx hb hml hown lw_wd_ok hF ⟨rfl, rfl⟩ (con_X4_isIn l D ty base) (lw_wi (by decide +kernel) (by decide +kernel)) (lw_wi (by decide +kernel) (by decide +kernel)) (lw_wi (by decide +kernel) (by decide +kernel)) (lw_wi (by decide +kernel) (by decide +kernel)) (by decide +kernel) ⟨by decide, by decide⟩) (ab_all_n)))
    (by intro as h K ht; unfold Tr_X4_isSlate at ht; split at ht <;> first | exact ht.elim | exact Nat.le_of_ble_eq_true rfl) (sem_X4_isSlate base)
noncomputable def Tr_X4_slateAt : ATr := fun as h K => match as with
  | [.inr (.inl (some a)), .inl x, .inl y] => ab_so (ab_md h a) fun P => (bareV P.2 ∧ (ab_in x ∧ ab_in y)) ∧ K (some (.inl (-1))) h
  | _ => False
theorem mo_X4_slateAt : ab_mo Tr_X4_slateAt := by
  intro as h K K' hk ht
  unfold Tr_X4_slateAt at ht ⊢
  split at ht
  · exact ab_so_mo (fun P q => ⟨q.1, hk _ _ q.2⟩) ht
  · exact ht.elim
def ca_X4_slateAt : Nat → Option ACS := ab_lk [(44, (2, 0, 2, 0, 0, Tr_X4_isPlace))]
theorem ca_X4_slateAt_44 : ca_X4_slateAt 44 = some (2, 0, 2, 0, 0, Tr_X4_isPlace) := rfl
theorem cm_X4_slateAt : ∀ i q, ca_X4_slateAt i = some q → ab_moq i q := ab_lk_all (ab_all_c mo_X4_isPlace (ab_all_n))
set_option maxRecDepth 100000 in
set_option maxHeartbeats 4000000 in
theorem sem_X4_slateAt (base : Nat) : ab_Sem tbX4 lw_ts base cX4_slateAt ca_X4_slateAt 1 3 0 0 (fun as => ab_en as 3) Tr_X4_slateAt := by
  intro as h K hT V hV
  unfold Tr_X4_slateAt at hT
  split at hT
  · rename_i a x y
    obtain ⟨⟨⟨b0, b1, b2, b3, b4, b5⟩, th, sl, f0, f1, f2, f3, f4, f5⟩, hP, ⟨hb, hs⟩, hK⟩ := ab_so_el hT
    obtain ⟨g0, g1, g2, g3, g4, g5⟩ := id hb
    dsimp only [MV.thr, MV.sl, MV.fst9, MV.fat, MV.frt, MV.ftb, MV.fnm, MV.fmk] at g0 g1 g2 g3 g4 g5 hK hs
    subst g0
    have hm := md_el hP
    obtain ⟨c, c0, c1, c2, c3, c4, c5, -⟩ := id hm
    dsimp only [mdC, MV.thr, MV.sl, MV.fst9, MV.fat, MV.frt, MV.ftb, MV.fnm, MV.fmk] at c c0 c1 c2 c3 c4 c5
    show V 0 [some (.inr (.inl (some a))), some (.inl x), some (.inl y)] [] h 0 0
    cases hp : isPlaceF x y
    · refine hV (fun _ => false) 80 _ _ _ _ _ _ ?_
      simp only [hp, bI_in, bI_0, bI_1, bI_t, bI_f, bI_01, Tr_X4_isPlace, ae_aload_n, ae_bipush, ae_getfield, ae_goto, ae_iadd, ae_iaload, ae_iconst, ae_ifCond, ae_iload_n, ae_imul, ae_invokestatic, ae_ireturn, dX4_slateAt_0, dX4_slateAt_1, dX4_slateAt_2, dX4_slateAt_5, dX4_slateAt_8, dX4_slateAt_9, dX4_slateAt_12, dX4_slateAt_14, dX4_slateAt_15, dX4_slateAt_16, dX4_slateAt_17, dX4_slateAt_18, dX4_slateAt_19, dX4_slateAt_22, dX4_slateAt_23, tbX4_g13, ca_X4_slateAt_44, ab_wp0, ab_wps, ab_stp, ab_g, ab_st, ab_k2, ab_cl, ab_pop, ab_sz, ab_2, ab_ret, ab_f4, ab_tg, ab_I, ab_II, ab_A, ab_Rf, ab_VR, ab_IR, ab_VIR, ab_1, ab_LL, ab_DD, ab_ob, ab_pr, ab_qr, ab_ln, ab_so, ab_vI, ab_vA, ab_vD, ab_vL, ab_v2, ab_c, ab_fit, ab_rv, ab_tsw, ab_lsw, ab_up_eq, Fin.isValue, ab_f0, ab_f1, ab_f2, ab_f3, List.getElem?_cons_zero, List.getElem?_cons_succ, List.set_cons_zero, List.set_cons_succ, List.length_cons, List.length_nil, List.size_toArray, List.head?_cons, List.tail_cons, Option.map_some, cond_true, cond_false, true_and, and_true, false_and, and_false, not_true_eq_false, not_false_eq_true, true_imp_iff, false_imp_iff, if_true, if_false, ite_true, ite_false, ↓reduceIte, Nat.reduceAdd, Nat.reduceEqDiff, Nat.reduceLeDiff, Nat.reduceLT, Nat.reduceBEq, Nat.reduceBNe, Int.reduceAdd, Int.reduceNeg, Int.reduceSub, Int.reduceLE, Int.reduceLT, Int.reduceToNat, Int.reduceEq, Int.reduceMul, Int.cast_ofNat_Int, Nat.zero_add, Nat.add_zero, Nat.le_refl, eq_self, ne_eq, reduceCtorEq, or_true, true_or, or_false, false_or, Bool.or_true, Bool.or_false, Bool.true_or, Bool.false_or, Nat.zero_le, Int.le_refl, Int.ofNat_zero, Int.ofNat_one, Bool.false_eq_true]
      try simp only [ab_in] at hs ⊢
      (repeat' (first | intro _ | refine And.intro ?_ ?_)) <;> (first | exact hK | contradiction | omega | (exfalso; omega))
    · have hp2 : 0 ≤ x ∧ x < 12 ∧ 0 ≤ y ∧ y < 8 := of_decide_eq_true hp
      have hv := g1 (12 * y + x) (by omega) (by omega)
      refine hV (fun _ => false) 80 _ _ _ _ _ _ ?_
      simp only [hp, c, c1, hv, bI_in, bI_0, bI_1, bI_t, bI_f, bI_01, Tr_X4_isPlace, ae_aload_n, ae_bipush, ae_getfield, ae_goto, ae_iadd, ae_iaload, ae_iconst, ae_ifCond, ae_iload_n, ae_imul, ae_invokestatic, ae_ireturn, dX4_slateAt_0, dX4_slateAt_1, dX4_slateAt_2, dX4_slateAt_5, dX4_slateAt_8, dX4_slateAt_9, dX4_slateAt_12, dX4_slateAt_14, dX4_slateAt_15, dX4_slateAt_16, dX4_slateAt_17, dX4_slateAt_18, dX4_slateAt_19, dX4_slateAt_22, dX4_slateAt_23, tbX4_g13, ca_X4_slateAt_44, ab_wp0, ab_wps, ab_stp, ab_g, ab_st, ab_k2, ab_cl, ab_pop, ab_sz, ab_2, ab_ret, ab_f4, ab_tg, ab_I, ab_II, ab_A, ab_Rf, ab_VR, ab_IR, ab_VIR, ab_1, ab_LL, ab_DD, ab_ob, ab_pr, ab_qr, ab_ln, ab_so, ab_vI, ab_vA, ab_vD, ab_vL, ab_v2, ab_c, ab_fit, ab_rv, ab_tsw, ab_lsw, ab_up_eq, Fin.isValue, ab_f0, ab_f1, ab_f2, ab_f3, List.getElem?_cons_zero, List.getElem?_cons_succ, List.set_cons_zero, List.set_cons_succ, List.length_cons, List.length_nil, List.size_toArray, List.head?_cons, List.tail_cons, Option.map_some, cond_true, cond_false, true_and, and_true, false_and, and_false, not_true_eq_false, not_false_eq_true, true_imp_iff, false_imp_iff, if_true, if_false, ite_true, ite_false, ↓reduceIte, Nat.reduceAdd, Nat.reduceEqDiff, Nat.reduceLeDiff, Nat.reduceLT, Nat.reduceBEq, Nat.reduceBNe, Int.reduceAdd, Int.reduceNeg, Int.reduceSub, Int.reduceLE, Int.reduceLT, Int.reduceToNat, Int.reduceEq, Int.reduceMul, Int.cast_ofNat_Int, Nat.zero_add, Nat.add_zero, Nat.le_refl, eq_self, ne_eq, reduceCtorEq, or_true, true_or, or_false, false_or, Bool.or_true, Bool.or_false, Bool.true_or, Bool.false_or, Nat.zero_le, Int.le_refl, Int.ofNat_zero, Int.ofNat_one, Bool.false_eq_true]
      try simp only [ab_in] at hs ⊢
      (repeat' (first | intro _ | refine And.intro ?_ ?_)) <;> (first | exact hK | contradiction | omega | (exfalso; omega))
  · exact hT.elim
set_option maxRecDepth 100000 in
theorem con_X4_slateAt (l : Launch) (D : va_G) (ty : Nat → ClassId) (base : Nat) : ab_Con l D vwCl ty lw_ts base lw_wd yX4_slateAt cX4_slateAt 3 (some .int) 2 43 0 0 Tr_X4_slateAt :=
  ab_con_of (own := RX4) (rt := 1) (tb := tbX4) (ini := false) (ca := ca_X4_slateAt) (by decide +kernel) rfl (fun h => by cases h) rfl lw_wd_ok wtbX4 lw_ar cm_X4_slateAt
    (fun p e R s m args below meth c K hcx => by
      obtain ⟨hx, hb, hml, hown, hF, rfl⟩ := hcx
      exact ab_lk_all (ab_all_c (ab_tc_S hx hb hml hown lw_wd_ok hF ⟨rfl, rfl⟩ (con_X4_isPlace l D ty base) (lw_wi (by decide +kernel) (by decide +kernel)) (lw_wi (by decide +kernel) (by decide +kernel)) (lw_wi (by decide +kernel) (by decide +kernel)) (lw_wi (by decide +kernel) (by decide +kernel)) (by decide +kernel) ⟨by decide, by decide⟩) (ab_all_n)))
    (by intro as h K ht; unfold Tr_X4_slateAt at ht; split at ht <;> first | exact ht.elim | exact Nat.le_of_ble_eq_true rfl) (sem_X4_slateAt base)
noncomputable def Tr_X4_slatesIn : ATr := fun as h K => match as with
  | [.inr (.inl (some a)), .inl row, .inl from9, .inl wide] => ab_so (ab_md h a) fun P => (bareV P.2 ∧ ((0 ≤ row ∧ row ≤ 8) ∧ (0 ≤ from9 ∧ from9 ≤ 12) ∧ 0 ≤ wide ∧ wide ≤ 4)) ∧ K (some (.inl (0))) h
  | _ => False
theorem mo_X4_slatesIn : ab_mo Tr_X4_slatesIn := by
  intro as h K K' hk ht
  unfold Tr_X4_slatesIn at ht ⊢
  split at ht
  · exact ab_so_mo (fun P q => ⟨q.1, hk _ _ q.2⟩) ht
  · exact ht.elim
def ca_X4_slatesIn : Nat → Option ACS := ab_lk [(48, (0, 4, 3, 0, 0, Tr_X4_slateAt))]
theorem ca_X4_slatesIn_48 : ca_X4_slatesIn 48 = some (0, 4, 3, 0, 0, Tr_X4_slateAt) := rfl
theorem cm_X4_slatesIn : ∀ i q, ca_X4_slatesIn i = some q → ab_moq i q := ab_lk_all (ab_all_c mo_X4_slateAt (ab_all_n))
set_option maxRecDepth 100000 in
set_option maxHeartbeats 4000000 in
theorem sem_X4_slatesIn (base : Nat) : ab_Sem tbX4 lw_ts base cX4_slatesIn ca_X4_slatesIn 1 7 0 0 (fun as => ab_en as 7) Tr_X4_slatesIn := by
  intro as h K hT V hV
  unfold Tr_X4_slatesIn at hT
  split at hT
  · rename_i a row from9 wide
    obtain ⟨⟨⟨b0, b1, b2, b3, b4, b5⟩, th, sl, f0, f1, f2, f3, f4, f5⟩, hP, ⟨hb, hs⟩, hK⟩ := ab_so_el hT
    obtain ⟨g0, g1, g2, g3, g4, g5⟩ := id hb
    dsimp only [MV.thr, MV.sl, MV.fst9, MV.fat, MV.frt, MV.ftb, MV.fnm, MV.fmk] at g0 g1 g2 g3 g4 g5 hK hs
    subst g0
    have hm := md_el hP
    obtain ⟨c, c0, c1, c2, c3, c4, c5, -⟩ := id hm
    dsimp only [mdC, MV.thr, MV.sl, MV.fst9, MV.fat, MV.frt, MV.ftb, MV.fnm, MV.fmk] at c c0 c1 c2 c3 c4 c5
    show V 0 [some (.inr (.inl (some a))), some (.inl row), some (.inl from9), some (.inl wide), none, none, none] [] h 0 0
    have loop : ∀ (n : Nat) (x : Int) (u : Option AV), x + n = from9 + wide → from9 ≤ x → V 6 [some (.inr (.inl (some a))), some (.inl row), some (.inl from9), some (.inl wide), some (.inl 0), some (.inl x), u] [] h 0 0 := by
      intro n
      induction n with
      | zero =>
        intro x u e1 e2
        refine hV (fun _ => false) 80 _ _ _ _ _ _ ?_
        simp only [bI_in, bI_0, bI_1, bI_t, bI_f, bI_01, ae_aload_n, ae_goto, ae_iadd, ae_iconst, ae_if_icmp, ae_iinc, ae_iload, ae_iload_n, ae_invokevirtual, ae_ireturn, ae_istore, ae_isub, dX4_slatesIn_0, dX4_slatesIn_1, dX4_slatesIn_3, dX4_slatesIn_4, dX4_slatesIn_6, dX4_slatesIn_8, dX4_slatesIn_9, dX4_slatesIn_10, dX4_slatesIn_11, dX4_slatesIn_14, dX4_slatesIn_15, dX4_slatesIn_17, dX4_slatesIn_18, dX4_slatesIn_21, dX4_slatesIn_23, dX4_slatesIn_25, dX4_slatesIn_27, dX4_slatesIn_28, dX4_slatesIn_31, dX4_slatesIn_33, dX4_slatesIn_34, dX4_slatesIn_37, dX4_slatesIn_38, dX4_slatesIn_40, dX4_slatesIn_41, dX4_slatesIn_42, dX4_slatesIn_43, dX4_slatesIn_46, dX4_slatesIn_48, dX4_slatesIn_51, dX4_slatesIn_52, dX4_slatesIn_55, dX4_slatesIn_56, dX4_slatesIn_57, dX4_slatesIn_59, dX4_slatesIn_62, dX4_slatesIn_65, dX4_slatesIn_67, ca_X4_slatesIn_48, ab_wp0, ab_wps, ab_stp, ab_g, ab_st, ab_k2, ab_cl, ab_pop, ab_sz, ab_2, ab_ret, ab_f4, ab_tg, ab_I, ab_II, ab_A, ab_Rf, ab_VR, ab_IR, ab_VIR, ab_1, ab_LL, ab_DD, ab_ob, ab_pr, ab_qr, ab_ln, ab_so, ab_vI, ab_vA, ab_vD, ab_vL, ab_v2, ab_c, ab_fit, ab_rv, ab_tsw, ab_lsw, ab_up_eq, Fin.isValue, ab_f0, ab_f1, ab_f2, ab_f3, List.getElem?_cons_zero, List.getElem?_cons_succ, List.set_cons_zero, List.set_cons_succ, List.length_cons, List.length_nil, List.size_toArray, List.head?_cons, List.tail_cons, Option.map_some, cond_true, cond_false, true_and, and_true, false_and, and_false, not_true_eq_false, not_false_eq_true, true_imp_iff, false_imp_iff, if_true, if_false, ite_true, ite_false, ↓reduceIte, Nat.reduceAdd, Nat.reduceEqDiff, Nat.reduceLeDiff, Nat.reduceLT, Nat.reduceBEq, Nat.reduceBNe, Int.reduceAdd, Int.reduceNeg, Int.reduceSub, Int.reduceLE, Int.reduceLT, Int.reduceToNat, Int.reduceEq, Int.reduceMul, Int.cast_ofNat_Int, Nat.zero_add, Nat.add_zero, Nat.le_refl, eq_self, ne_eq, reduceCtorEq, or_true, true_or, or_false, false_or, Bool.or_true, Bool.or_false, Bool.true_or, Bool.false_or, Nat.zero_le, Int.le_refl, Int.ofNat_zero, Int.ofNat_one, Bool.false_eq_true]
        try simp only [ab_in] at hs ⊢
        (repeat' (first | intro _ | refine And.intro ?_ ?_)) <;> (first | exact hK | contradiction | omega | (exfalso; omega))
      | succ n ih =>
        intro x u e1 e2
        have ih' := ih (x + 1) (some (.inl (-1))) (by omega) (by omega)
        refine hV (fun p => p == 14) 80 _ _ _ _ _ _ ?_
        simp only [ae_iadd, ae_if_icmp, ae_iload, ae_iload_n, dX4_slatesIn_6, dX4_slatesIn_8, dX4_slatesIn_9, dX4_slatesIn_10, dX4_slatesIn_11, ca_X4_slatesIn_48, ab_wp0, ab_wps, ab_stp, ab_g, ab_st, ab_k2, ab_cl, ab_pop, ab_sz, ab_2, ab_ret, ab_f4, ab_tg, ab_I, ab_II, ab_A, ab_Rf, ab_VR, ab_IR, ab_VIR, ab_1, ab_LL, ab_DD, ab_ob, ab_pr, ab_qr, ab_ln, ab_so, ab_vI, ab_vA, ab_vD, ab_vL, ab_v2, ab_c, ab_fit, ab_rv, ab_tsw, ab_lsw, ab_up_eq, Fin.isValue, ab_f0, ab_f1, ab_f2, ab_f3, List.getElem?_cons_zero, List.getElem?_cons_succ, List.set_cons_zero, List.set_cons_succ, List.length_cons, List.length_nil, List.size_toArray, List.head?_cons, List.tail_cons, Option.map_some, cond_true, cond_false, true_and, and_true, false_and, and_false, not_true_eq_false, not_false_eq_true, true_imp_iff, false_imp_iff, if_true, if_false, ite_true, ite_false, ↓reduceIte, Nat.reduceAdd, Nat.reduceEqDiff, Nat.reduceLeDiff, Nat.reduceLT, Nat.reduceBEq, Nat.reduceBNe, Int.reduceAdd, Int.reduceNeg, Int.reduceSub, Int.reduceLE, Int.reduceLT, Int.reduceToNat, Int.reduceEq, Int.reduceMul, Int.cast_ofNat_Int, Nat.zero_add, Nat.add_zero, Nat.le_refl, eq_self, ne_eq, reduceCtorEq, or_true, true_or, or_false, false_or, Bool.or_true, Bool.or_false, Bool.true_or, Bool.false_or, Nat.zero_le, Int.le_refl, Int.ofNat_zero, Int.ofNat_one, Bool.false_eq_true]
        simp only [ab_in]
        have l14 : V 14 [some (.inr (.inl (some a))), some (.inl row), some (.inl from9), some (.inl wide), some (.inl 0), some (.inl x), u] [] h 0 0 := by
          refine hV (fun p => p == 6) 80 _ _ _ _ _ _ ?_
          simp only [c, hP, hb, bI_in, bI_0, bI_1, bI_t, bI_f, bI_01, Tr_X4_slateAt, ae_aload_n, ae_goto, ae_iadd, ae_iconst, ae_if_icmp, ae_iinc, ae_iload, ae_iload_n, ae_invokevirtual, ae_istore, ae_isub, dX4_slatesIn_14, dX4_slatesIn_15, dX4_slatesIn_17, dX4_slatesIn_18, dX4_slatesIn_21, dX4_slatesIn_23, dX4_slatesIn_25, dX4_slatesIn_27, dX4_slatesIn_28, dX4_slatesIn_31, dX4_slatesIn_33, dX4_slatesIn_34, dX4_slatesIn_37, dX4_slatesIn_38, dX4_slatesIn_40, dX4_slatesIn_41, dX4_slatesIn_42, dX4_slatesIn_43, dX4_slatesIn_46, dX4_slatesIn_48, dX4_slatesIn_51, dX4_slatesIn_52, dX4_slatesIn_55, dX4_slatesIn_56, dX4_slatesIn_57, dX4_slatesIn_59, dX4_slatesIn_62, ca_X4_slatesIn_48, ab_wp0, ab_wps, ab_stp, ab_g, ab_st, ab_k2, ab_cl, ab_pop, ab_sz, ab_2, ab_ret, ab_f4, ab_tg, ab_I, ab_II, ab_A, ab_Rf, ab_VR, ab_IR, ab_VIR, ab_1, ab_LL, ab_DD, ab_ob, ab_pr, ab_qr, ab_ln, ab_so, ab_vI, ab_vA, ab_vD, ab_vL, ab_v2, ab_c, ab_fit, ab_rv, ab_tsw, ab_lsw, ab_up_eq, Fin.isValue, ab_f0, ab_f1, ab_f2, ab_f3, List.getElem?_cons_zero, List.getElem?_cons_succ, List.set_cons_zero, List.set_cons_succ, List.length_cons, List.length_nil, List.size_toArray, List.head?_cons, List.tail_cons, Option.map_some, cond_true, cond_false, true_and, and_true, false_and, and_false, not_true_eq_false, not_false_eq_true, true_imp_iff, false_imp_iff, if_true, if_false, ite_true, ite_false, ↓reduceIte, Nat.reduceAdd, Nat.reduceEqDiff, Nat.reduceLeDiff, Nat.reduceLT, Nat.reduceBEq, Nat.reduceBNe, Int.reduceAdd, Int.reduceNeg, Int.reduceSub, Int.reduceLE, Int.reduceLT, Int.reduceToNat, Int.reduceEq, Int.reduceMul, Int.cast_ofNat_Int, Nat.zero_add, Nat.add_zero, Nat.le_refl, eq_self, ne_eq, reduceCtorEq, or_true, true_or, or_false, false_or, Bool.or_true, Bool.or_false, Bool.true_or, Bool.false_or, Nat.zero_le, Int.le_refl, Int.ofNat_zero, Int.ofNat_one, Bool.false_eq_true]
          try simp only [ab_in] at hs ⊢
          (repeat' (first | intro _ | refine And.intro ?_ ?_)) <;> (first | exact ih' | contradiction | omega | (exfalso; omega))
        (repeat' (first | intro _ | refine And.intro ?_ ?_)) <;> (first | exact l14 | contradiction | omega | (exfalso; omega))
    have l0 := loop wide.toNat from9 none (by omega) (by omega)
    refine hV (fun p => p == 6) 80 _ _ _ _ _ _ ?_
    simp only [bI_in, bI_0, bI_1, bI_t, bI_f, bI_01, ae_iconst, ae_iload_n, ae_istore, dX4_slatesIn_0, dX4_slatesIn_1, dX4_slatesIn_3, dX4_slatesIn_4, ca_X4_slatesIn_48, ab_wp0, ab_wps, ab_stp, ab_g, ab_st, ab_k2, ab_cl, ab_pop, ab_sz, ab_2, ab_ret, ab_f4, ab_tg, ab_I, ab_II, ab_A, ab_Rf, ab_VR, ab_IR, ab_VIR, ab_1, ab_LL, ab_DD, ab_ob, ab_pr, ab_qr, ab_ln, ab_so, ab_vI, ab_vA, ab_vD, ab_vL, ab_v2, ab_c, ab_fit, ab_rv, ab_tsw, ab_lsw, ab_up_eq, Fin.isValue, ab_f0, ab_f1, ab_f2, ab_f3, List.getElem?_cons_zero, List.getElem?_cons_succ, List.set_cons_zero, List.set_cons_succ, List.length_cons, List.length_nil, List.size_toArray, List.head?_cons, List.tail_cons, Option.map_some, cond_true, cond_false, true_and, and_true, false_and, and_false, not_true_eq_false, not_false_eq_true, true_imp_iff, false_imp_iff, if_true, if_false, ite_true, ite_false, ↓reduceIte, Nat.reduceAdd, Nat.reduceEqDiff, Nat.reduceLeDiff, Nat.reduceLT, Nat.reduceBEq, Nat.reduceBNe, Int.reduceAdd, Int.reduceNeg, Int.reduceSub, Int.reduceLE, Int.reduceLT, Int.reduceToNat, Int.reduceEq, Int.reduceMul, Int.cast_ofNat_Int, Nat.zero_add, Nat.add_zero, Nat.le_refl, eq_self, ne_eq, reduceCtorEq, or_true, true_or, or_false, false_or, Bool.or_true, Bool.or_false, Bool.true_or, Bool.false_or, Nat.zero_le, Int.le_refl, Int.ofNat_zero, Int.ofNat_one, Bool.false_eq_true]
    try simp only [ab_in] at hs ⊢
    (repeat' (first | intro _ | refine And.intro ?_ ?_)) <;> (first | exact l0 | contradiction | omega | (exfalso; omega))
  · exact hT.elim
set_option maxRecDepth 100000 in
theorem con_X4_slatesIn (l : Launch) (D : va_G) (ty : Nat → ClassId) (base : Nat) : ab_Con l D vwCl ty lw_ts base lw_wd yX4_slatesIn cX4_slatesIn 7 (some .int) 3 65 0 0 Tr_X4_slatesIn :=
  ab_con_of (own := RX4) (rt := 1) (tb := tbX4) (ini := false) (ca := ca_X4_slatesIn) (by decide +kernel) rfl (fun h => by cases h) rfl lw_wd_ok wtbX4 lw_ar cm_X4_slatesIn
    (fun p e R s m args below meth c K hcx => by
      obtain ⟨hx, hb, hml, hown, hF, rfl⟩ := hcx
      exact ab_lk_all (ab_all_c (ab_tc_V hx hb hml hown lw_wd_ok hF ⟨rfl, rfl⟩ (con_X4_slateAt l D ty base) rfl (lw_wi (by decide +kernel) (by decide +kernel)) (lw_wi (by decide +kernel) (by decide +kernel)) (lw_wi (by decide +kernel) (by decide +kernel)) (lw_wi (by decide +kernel) (by decide +kernel)) (lw_wi (by decide +kernel) (by decide +kernel)) (by decide +kernel) ⟨by decide, by decide⟩) (ab_all_n)))
    (by intro as h K ht; unfold Tr_X4_slatesIn at ht; split at ht <;> first | exact ht.elim | exact Nat.le_of_ble_eq_true rfl) (sem_X4_slatesIn base)
noncomputable def Tr_X4_onRoof : ATr := fun as h K => match as with
  | [.inr (.inl (some a))] => ab_so (ab_md h a) fun P => (bareV P.2 ∧ (True)) ∧ K (some (.inl (0))) h
  | _ => False
theorem mo_X4_onRoof : ab_mo Tr_X4_onRoof := by
  intro as h K K' hk ht
  unfold Tr_X4_onRoof at ht ⊢
  split at ht
  · exact ab_so_mo (fun P q => ⟨q.1, hk _ _ q.2⟩) ht
  · exact ht.elim
def ca_X4_onRoof : Nat → Option ACS := ab_lk []
theorem cm_X4_onRoof : ∀ i q, ca_X4_onRoof i = some q → ab_moq i q := ab_lk_all (ab_all_n)
set_option maxRecDepth 100000 in
set_option maxHeartbeats 4000000 in
theorem sem_X4_onRoof (base : Nat) : ab_Sem tbX4 lw_ts base cX4_onRoof ca_X4_onRoof 1 3 0 0 (fun as => ab_en as 3) Tr_X4_onRoof := by
  intro as h K hT V hV
  unfold Tr_X4_onRoof at hT
  split at hT
  · rename_i a
    obtain ⟨⟨⟨b0, b1, b2, b3, b4, b5⟩, th, sl, f0, f1, f2, f3, f4, f5⟩, hP, ⟨hb, hs⟩, hK⟩ := ab_so_el hT
    obtain ⟨g0, g1, g2, g3, g4, g5⟩ := id hb
    dsimp only [MV.thr, MV.sl, MV.fst9, MV.fat, MV.frt, MV.ftb, MV.fnm, MV.fmk] at g0 g1 g2 g3 g4 g5 hK hs
    subst g0
    have hm := md_el hP
    obtain ⟨c, c0, c1, c2, c3, c4, c5, -⟩ := id hm
    dsimp only [mdC, MV.thr, MV.sl, MV.fst9, MV.fat, MV.frt, MV.ftb, MV.fnm, MV.fmk] at c c0 c1 c2 c3 c4 c5
    show V 0 [some (.inr (.inl (some a))), none, none] [] h 0 0
    refine hV (fun _ => false) 80 _ _ _ _ _ _ ?_
    simp only [c, bI_in, bI_0, bI_1, bI_t, bI_f, bI_01, ae_aload_n, ae_getfield, ae_goto, ae_iadd, ae_iconst, ae_if_icmp, ae_iinc, ae_iload_n, ae_invokevirtual, ae_ireturn, ae_istore_n, dX4_onRoof_0, dX4_onRoof_1, dX4_onRoof_2, dX4_onRoof_3, dX4_onRoof_4, dX4_onRoof_5, dX4_onRoof_6, dX4_onRoof_9, dX4_onRoof_12, dX4_onRoof_13, dX4_onRoof_14, dX4_onRoof_15, dX4_onRoof_16, dX4_onRoof_19, dX4_onRoof_20, dX4_onRoof_21, dX4_onRoof_24, dX4_onRoof_27, dX4_onRoof_28, tbX4_g33, ab_wp0, ab_wps, ab_stp, ab_g, ab_st, ab_k2, ab_cl, ab_pop, ab_sz, ab_2, ab_ret, ab_f4, ab_tg, ab_I, ab_II, ab_A, ab_Rf, ab_VR, ab_IR, ab_VIR, ab_1, ab_LL, ab_DD, ab_ob, ab_pr, ab_qr, ab_ln, ab_so, ab_vI, ab_vA, ab_vD, ab_vL, ab_v2, ab_c, ab_fit, ab_rv, ab_tsw, ab_lsw, ab_up_eq, Fin.isValue, ab_f0, ab_f1, ab_f2, ab_f3, List.getElem?_cons_zero, List.getElem?_cons_succ, List.set_cons_zero, List.set_cons_succ, List.length_cons, List.length_nil, List.size_toArray, List.head?_cons, List.tail_cons, Option.map_some, cond_true, cond_false, true_and, and_true, false_and, and_false, not_true_eq_false, not_false_eq_true, true_imp_iff, false_imp_iff, if_true, if_false, ite_true, ite_false, ↓reduceIte, Nat.reduceAdd, Nat.reduceEqDiff, Nat.reduceLeDiff, Nat.reduceLT, Nat.reduceBEq, Nat.reduceBNe, Int.reduceAdd, Int.reduceNeg, Int.reduceSub, Int.reduceLE, Int.reduceLT, Int.reduceToNat, Int.reduceEq, Int.reduceMul, Int.cast_ofNat_Int, Nat.zero_add, Nat.add_zero, Nat.le_refl, eq_self, ne_eq, reduceCtorEq, or_true, true_or, or_false, false_or, Bool.or_true, Bool.or_false, Bool.true_or, Bool.false_or, Nat.zero_le, Int.le_refl, Int.ofNat_zero, Int.ofNat_one, Bool.false_eq_true]
    try simp only [ab_in] at ⊢
    (repeat' (first | intro _ | refine And.intro ?_ ?_)) <;> (first | exact hK | contradiction | omega | (exfalso; omega))
  · exact hT.elim
set_option maxRecDepth 100000 in
theorem con_X4_onRoof (l : Launch) (D : va_G) (ty : Nat → ClassId) (base : Nat) : ab_Con l D vwCl ty lw_ts base lw_wd yX4_onRoof cX4_onRoof 3 (some .int) 0 0 0 0 Tr_X4_onRoof :=
  ab_con_of (own := RX4) (rt := 1) (tb := tbX4) (ini := false) (ca := ca_X4_onRoof) (by decide +kernel) rfl (fun h => by cases h) rfl lw_wd_ok wtbX4 lw_ar cm_X4_onRoof
    (fun p e R s m args below meth c K hcx => by
      obtain ⟨hx, hb, hml, hown, hF, rfl⟩ := hcx
      exact ab_lk_all (ab_all_n))
    (by intro as h K ht; unfold Tr_X4_onRoof at ht; split at ht <;> first | exact ht.elim | exact Nat.le_of_ble_eq_true rfl) (sem_X4_onRoof base)
noncomputable def Tr_X4_cracked : ATr := fun as h K => match as with
  | [.inr (.inl (some a))] => ab_so (ab_md h a) fun P => (bareV P.2 ∧ (True)) ∧ K (some (.inl (0))) h
  | _ => False
theorem mo_X4_cracked : ab_mo Tr_X4_cracked := by
  intro as h K K' hk ht
  unfold Tr_X4_cracked at ht ⊢
  split at ht
  · exact ab_so_mo (fun P q => ⟨q.1, hk _ _ q.2⟩) ht
  · exact ht.elim
def ca_X4_cracked : Nat → Option ACS := ab_lk []
theorem cm_X4_cracked : ∀ i q, ca_X4_cracked i = some q → ab_moq i q := ab_lk_all (ab_all_n)
set_option maxRecDepth 100000 in
set_option maxHeartbeats 4000000 in
theorem sem_X4_cracked (base : Nat) : ab_Sem tbX4 lw_ts base cX4_cracked ca_X4_cracked 1 3 0 0 (fun as => ab_en as 3) Tr_X4_cracked := by
  intro as h K hT V hV
  unfold Tr_X4_cracked at hT
  split at hT
  · rename_i a
    obtain ⟨⟨⟨b0, b1, b2, b3, b4, b5⟩, th, sl, f0, f1, f2, f3, f4, f5⟩, hP, ⟨hb, hs⟩, hK⟩ := ab_so_el hT
    obtain ⟨g0, g1, g2, g3, g4, g5⟩ := id hb
    dsimp only [MV.thr, MV.sl, MV.fst9, MV.fat, MV.frt, MV.ftb, MV.fnm, MV.fmk] at g0 g1 g2 g3 g4 g5 hK hs
    subst g0
    have hm := md_el hP
    obtain ⟨c, c0, c1, c2, c3, c4, c5, -⟩ := id hm
    dsimp only [mdC, MV.thr, MV.sl, MV.fst9, MV.fat, MV.frt, MV.ftb, MV.fnm, MV.fmk] at c c0 c1 c2 c3 c4 c5
    show V 0 [some (.inr (.inl (some a))), none, none] [] h 0 0
    refine hV (fun p => p == 12) 80 _ _ _ _ _ _ ?_
    simp only [c, bI_in, bI_0, bI_1, bI_t, bI_f, bI_01, ae_aload_n, ae_getfield, ae_goto, ae_iadd, ae_iconst, ae_ifCond, ae_if_icmp, ae_iinc, ae_iload_n, ae_invokevirtual, ae_ireturn, ae_istore_n, dX4_cracked_0, dX4_cracked_1, dX4_cracked_2, dX4_cracked_3, dX4_cracked_4, dX4_cracked_5, dX4_cracked_6, dX4_cracked_9, dX4_cracked_12, dX4_cracked_13, dX4_cracked_14, dX4_cracked_15, dX4_cracked_18, dX4_cracked_21, dX4_cracked_22, dX4_cracked_23, dX4_cracked_24, dX4_cracked_27, dX4_cracked_30, dX4_cracked_31, dX4_cracked_32, dX4_cracked_33, dX4_cracked_36, dX4_cracked_39, dX4_cracked_40, tbX4_g33, ab_wp0, ab_wps, ab_stp, ab_g, ab_st, ab_k2, ab_cl, ab_pop, ab_sz, ab_2, ab_ret, ab_f4, ab_tg, ab_I, ab_II, ab_A, ab_Rf, ab_VR, ab_IR, ab_VIR, ab_1, ab_LL, ab_DD, ab_ob, ab_pr, ab_qr, ab_ln, ab_so, ab_vI, ab_vA, ab_vD, ab_vL, ab_v2, ab_c, ab_fit, ab_rv, ab_tsw, ab_lsw, ab_up_eq, Fin.isValue, ab_f0, ab_f1, ab_f2, ab_f3, List.getElem?_cons_zero, List.getElem?_cons_succ, List.set_cons_zero, List.set_cons_succ, List.length_cons, List.length_nil, List.size_toArray, List.head?_cons, List.tail_cons, Option.map_some, cond_true, cond_false, true_and, and_true, false_and, and_false, not_true_eq_false, not_false_eq_true, true_imp_iff, false_imp_iff, if_true, if_false, ite_true, ite_false, ↓reduceIte, Nat.reduceAdd, Nat.reduceEqDiff, Nat.reduceLeDiff, Nat.reduceLT, Nat.reduceBEq, Nat.reduceBNe, Int.reduceAdd, Int.reduceNeg, Int.reduceSub, Int.reduceLE, Int.reduceLT, Int.reduceToNat, Int.reduceEq, Int.reduceMul, Int.cast_ofNat_Int, Nat.zero_add, Nat.add_zero, Nat.le_refl, eq_self, ne_eq, reduceCtorEq, or_true, true_or, or_false, false_or, Bool.or_true, Bool.or_false, Bool.true_or, Bool.false_or, Nat.zero_le, Int.le_refl, Int.ofNat_zero, Int.ofNat_one, Bool.false_eq_true]
    try simp only [ab_in] at ⊢
    (repeat' (first | intro _ | refine And.intro ?_ ?_)) <;> (first | exact hK | contradiction | omega | (exfalso; omega))
  · exact hT.elim
set_option maxRecDepth 100000 in
theorem con_X4_cracked (l : Launch) (D : va_G) (ty : Nat → ClassId) (base : Nat) : ab_Con l D vwCl ty lw_ts base lw_wd yX4_cracked cX4_cracked 3 (some .int) 0 0 0 0 Tr_X4_cracked :=
  ab_con_of (own := RX4) (rt := 1) (tb := tbX4) (ini := false) (ca := ca_X4_cracked) (by decide +kernel) rfl (fun h => by cases h) rfl lw_wd_ok wtbX4 lw_ar cm_X4_cracked
    (fun p e R s m args below meth c K hcx => by
      obtain ⟨hx, hb, hml, hown, hF, rfl⟩ := hcx
      exact ab_lk_all (ab_all_n))
    (by intro as h K ht; unfold Tr_X4_cracked at ht; split at ht <;> first | exact ht.elim | exact Nat.le_of_ble_eq_true rfl) (sem_X4_cracked base)
noncomputable def Tr_X4_isWhole : ATr := fun as h K => match as with
  | [.inr (.inl (some a)), .inl x, .inl y] => ab_so (ab_md h a) fun P => (bareV P.2 ∧ (ab_in x ∧ ab_in y)) ∧ K (some (.inl (0))) h
  | _ => False
theorem mo_X4_isWhole : ab_mo Tr_X4_isWhole := by
  intro as h K K' hk ht
  unfold Tr_X4_isWhole at ht ⊢
  split at ht
  · exact ab_so_mo (fun P q => ⟨q.1, hk _ _ q.2⟩) ht
  · exact ht.elim
def ca_X4_isWhole : Nat → Option ACS := ab_lk [(48, (0, 4, 3, 0, 0, Tr_X4_slateAt))]
theorem ca_X4_isWhole_48 : ca_X4_isWhole 48 = some (0, 4, 3, 0, 0, Tr_X4_slateAt) := rfl
theorem cm_X4_isWhole : ∀ i q, ca_X4_isWhole i = some q → ab_moq i q := ab_lk_all (ab_all_c mo_X4_slateAt (ab_all_n))
set_option maxRecDepth 100000 in
set_option maxHeartbeats 4000000 in
theorem sem_X4_isWhole (base : Nat) : ab_Sem tbX4 lw_ts base cX4_isWhole ca_X4_isWhole 2 3 0 0 (fun as => ab_en as 3) Tr_X4_isWhole := by
  intro as h K hT V hV
  unfold Tr_X4_isWhole at hT
  split at hT
  · rename_i a x y
    obtain ⟨⟨⟨b0, b1, b2, b3, b4, b5⟩, th, sl, f0, f1, f2, f3, f4, f5⟩, hP, ⟨hb, hs⟩, hK⟩ := ab_so_el hT
    obtain ⟨g0, g1, g2, g3, g4, g5⟩ := id hb
    dsimp only [MV.thr, MV.sl, MV.fst9, MV.fat, MV.frt, MV.ftb, MV.fnm, MV.fmk] at g0 g1 g2 g3 g4 g5 hK hs
    subst g0
    have hm := md_el hP
    obtain ⟨c, c0, c1, c2, c3, c4, c5, -⟩ := id hm
    dsimp only [mdC, MV.thr, MV.sl, MV.fst9, MV.fat, MV.frt, MV.ftb, MV.fnm, MV.fmk] at c c0 c1 c2 c3 c4 c5
    show V 0 [some (.inr (.inl (some a))), some (.inl x), some (.inl y)] [] h 0 0
    refine hV (fun _ => false) 80 _ _ _ _ _ _ ?_
    simp only [c, hP, hb, bI_in, bI_0, bI_1, bI_t, bI_f, bI_01, Tr_X4_slateAt, ae_aload_n, ae_goto, ae_iconst, ae_ifCond, ae_if_icmp, ae_iload_n, ae_invokevirtual, ae_ireturn, dX4_isWhole_0, dX4_isWhole_1, dX4_isWhole_2, dX4_isWhole_3, dX4_isWhole_6, dX4_isWhole_7, dX4_isWhole_10, dX4_isWhole_11, dX4_isWhole_12, dX4_isWhole_13, dX4_isWhole_14, dX4_isWhole_17, dX4_isWhole_18, dX4_isWhole_21, dX4_isWhole_24, dX4_isWhole_25, dX4_isWhole_28, dX4_isWhole_29, ca_X4_isWhole_48, ab_wp0, ab_wps, ab_stp, ab_g, ab_st, ab_k2, ab_cl, ab_pop, ab_sz, ab_2, ab_ret, ab_f4, ab_tg, ab_I, ab_II, ab_A, ab_Rf, ab_VR, ab_IR, ab_VIR, ab_1, ab_LL, ab_DD, ab_ob, ab_pr, ab_qr, ab_ln, ab_so, ab_vI, ab_vA, ab_vD, ab_vL, ab_v2, ab_c, ab_fit, ab_rv, ab_tsw, ab_lsw, ab_up_eq, Fin.isValue, ab_f0, ab_f1, ab_f2, ab_f3, List.getElem?_cons_zero, List.getElem?_cons_succ, List.set_cons_zero, List.set_cons_succ, List.length_cons, List.length_nil, List.size_toArray, List.head?_cons, List.tail_cons, Option.map_some, cond_true, cond_false, true_and, and_true, false_and, and_false, not_true_eq_false, not_false_eq_true, true_imp_iff, false_imp_iff, if_true, if_false, ite_true, ite_false, ↓reduceIte, Nat.reduceAdd, Nat.reduceEqDiff, Nat.reduceLeDiff, Nat.reduceLT, Nat.reduceBEq, Nat.reduceBNe, Int.reduceAdd, Int.reduceNeg, Int.reduceSub, Int.reduceLE, Int.reduceLT, Int.reduceToNat, Int.reduceEq, Int.reduceMul, Int.cast_ofNat_Int, Nat.zero_add, Nat.add_zero, Nat.le_refl, eq_self, ne_eq, reduceCtorEq, or_true, true_or, or_false, false_or, Bool.or_true, Bool.or_false, Bool.true_or, Bool.false_or, Nat.zero_le, Int.le_refl, Int.ofNat_zero, Int.ofNat_one, Bool.false_eq_true]
    try simp only [ab_in] at hs ⊢
    (repeat' (first | intro _ | refine And.intro ?_ ?_)) <;> (first | exact hK | contradiction | omega | (exfalso; omega))
  · exact hT.elim
set_option maxRecDepth 100000 in
theorem con_X4_isWhole (l : Launch) (D : va_G) (ty : Nat → ClassId) (base : Nat) : ab_Con l D vwCl ty lw_ts base lw_wd yX4_isWhole cX4_isWhole 3 (some .boolean) 3 65 0 0 Tr_X4_isWhole :=
  ab_con_of (own := RX4) (rt := 2) (tb := tbX4) (ini := false) (ca := ca_X4_isWhole) (by decide +kernel) rfl (fun h => by cases h) rfl lw_wd_ok wtbX4 lw_ar cm_X4_isWhole
    (fun p e R s m args below meth c K hcx => by
      obtain ⟨hx, hb, hml, hown, hF, rfl⟩ := hcx
      exact ab_lk_all (ab_all_c (ab_tc_V hx hb hml hown lw_wd_ok hF ⟨rfl, rfl⟩ (con_X4_slateAt l D ty base) rfl (lw_wi (by decide +kernel) (by decide +kernel)) (lw_wi (by decide +kernel) (by decide +kernel)) (lw_wi (by decide +kernel) (by decide +kernel)) (lw_wi (by decide +kernel) (by decide +kernel)) (lw_wi (by decide +kernel) (by decide +kernel)) (by decide +kernel) ⟨by decide, by decide⟩) (ab_all_n)))
    (by intro as h K ht; unfold Tr_X4_isWhole at ht; split at ht <;> first | exact ht.elim | exact Nat.le_of_ble_eq_true rfl) (sem_X4_isWhole base)
noncomputable def Tr_X4_isCovered : ATr := fun as h K => match as with
  | [.inr (.inl (some a)), .inl x, .inl y] => ab_so (ab_md h a) fun P => (bareV P.2 ∧ (ab_in x ∧ -1 ≤ y ∧ y ≤ 100)) ∧ K (some (.inl (0))) h
  | _ => False
theorem mo_X4_isCovered : ab_mo Tr_X4_isCovered := by
  intro as h K K' hk ht
  unfold Tr_X4_isCovered at ht ⊢
  split at ht
  · exact ab_so_mo (fun P q => ⟨q.1, hk _ _ q.2⟩) ht
  · exact ht.elim
def ca_X4_isCovered : Nat → Option ACS := ab_lk [(106, (0, 4, 3, 0, 0, Tr_X4_isWhole))]
theorem ca_X4_isCovered_106 : ca_X4_isCovered 106 = some (0, 4, 3, 0, 0, Tr_X4_isWhole) := rfl
theorem cm_X4_isCovered : ∀ i q, ca_X4_isCovered i = some q → ab_moq i q := ab_lk_all (ab_all_c mo_X4_isWhole (ab_all_n))
set_option maxRecDepth 100000 in
set_option maxHeartbeats 4000000 in
theorem sem_X4_isCovered (base : Nat) : ab_Sem tbX4 lw_ts base cX4_isCovered ca_X4_isCovered 2 3 0 0 (fun as => ab_en as 3) Tr_X4_isCovered := by
  intro as h K hT V hV
  unfold Tr_X4_isCovered at hT
  split at hT
  · rename_i a x y
    obtain ⟨⟨⟨b0, b1, b2, b3, b4, b5⟩, th, sl, f0, f1, f2, f3, f4, f5⟩, hP, ⟨hb, hs⟩, hK⟩ := ab_so_el hT
    obtain ⟨g0, g1, g2, g3, g4, g5⟩ := id hb
    dsimp only [MV.thr, MV.sl, MV.fst9, MV.fat, MV.frt, MV.ftb, MV.fnm, MV.fmk] at g0 g1 g2 g3 g4 g5 hK hs
    subst g0
    have hm := md_el hP
    obtain ⟨c, c0, c1, c2, c3, c4, c5, -⟩ := id hm
    dsimp only [mdC, MV.thr, MV.sl, MV.fst9, MV.fat, MV.frt, MV.ftb, MV.fnm, MV.fmk] at c c0 c1 c2 c3 c4 c5
    show V 0 [some (.inr (.inl (some a))), some (.inl x), some (.inl y)] [] h 0 0
    refine hV (fun _ => false) 80 _ _ _ _ _ _ ?_
    simp only [c, hP, hb, bI_in, bI_0, bI_1, bI_t, bI_f, bI_01, Tr_X4_isWhole, ae_aload_n, ae_goto, ae_iadd, ae_iconst, ae_ifCond, ae_iload_n, ae_invokevirtual, ae_ireturn, dX4_isCovered_0, dX4_isCovered_1, dX4_isCovered_2, dX4_isCovered_3, dX4_isCovered_6, dX4_isCovered_9, dX4_isCovered_10, dX4_isCovered_11, dX4_isCovered_12, dX4_isCovered_13, dX4_isCovered_14, dX4_isCovered_17, dX4_isCovered_20, dX4_isCovered_21, dX4_isCovered_24, dX4_isCovered_25, ca_X4_isCovered_106, ab_wp0, ab_wps, ab_stp, ab_g, ab_st, ab_k2, ab_cl, ab_pop, ab_sz, ab_2, ab_ret, ab_f4, ab_tg, ab_I, ab_II, ab_A, ab_Rf, ab_VR, ab_IR, ab_VIR, ab_1, ab_LL, ab_DD, ab_ob, ab_pr, ab_qr, ab_ln, ab_so, ab_vI, ab_vA, ab_vD, ab_vL, ab_v2, ab_c, ab_fit, ab_rv, ab_tsw, ab_lsw, ab_up_eq, Fin.isValue, ab_f0, ab_f1, ab_f2, ab_f3, List.getElem?_cons_zero, List.getElem?_cons_succ, List.set_cons_zero, List.set_cons_succ, List.length_cons, List.length_nil, List.size_toArray, List.head?_cons, List.tail_cons, Option.map_some, cond_true, cond_false, true_and, and_true, false_and, and_false, not_true_eq_false, not_false_eq_true, true_imp_iff, false_imp_iff, if_true, if_false, ite_true, ite_false, ↓reduceIte, Nat.reduceAdd, Nat.reduceEqDiff, Nat.reduceLeDiff, Nat.reduceLT, Nat.reduceBEq, Nat.reduceBNe, Int.reduceAdd, Int.reduceNeg, Int.reduceSub, Int.reduceLE, Int.reduceLT, Int.reduceToNat, Int.reduceEq, Int.reduceMul, Int.cast_ofNat_Int, Nat.zero_add, Nat.add_zero, Nat.le_refl, eq_self, ne_eq, reduceCtorEq, or_true, true_or, or_false, false_or, Bool.or_true, Bool.or_false, Bool.true_or, Bool.false_or, Nat.zero_le, Int.le_refl, Int.ofNat_zero, Int.ofNat_one, Bool.false_eq_true]
    try simp only [ab_in] at hs ⊢
    (repeat' (first | intro _ | refine And.intro ?_ ?_)) <;> (first | exact hK | contradiction | omega | (exfalso; omega))
  · exact hT.elim
set_option maxRecDepth 100000 in
theorem con_X4_isCovered (l : Launch) (D : va_G) (ty : Nat → ClassId) (base : Nat) : ab_Con l D vwCl ty lw_ts base lw_wd yX4_isCovered cX4_isCovered 3 (some .boolean) 4 87 0 0 Tr_X4_isCovered :=
  ab_con_of (own := RX4) (rt := 2) (tb := tbX4) (ini := false) (ca := ca_X4_isCovered) (by decide +kernel) rfl (fun h => by cases h) rfl lw_wd_ok wtbX4 lw_ar cm_X4_isCovered
    (fun p e R s m args below meth c K hcx => by
      obtain ⟨hx, hb, hml, hown, hF, rfl⟩ := hcx
      exact ab_lk_all (ab_all_c (ab_tc_V hx hb hml hown lw_wd_ok hF ⟨rfl, rfl⟩ (con_X4_isWhole l D ty base) rfl (lw_wi (by decide +kernel) (by decide +kernel)) (lw_wi (by decide +kernel) (by decide +kernel)) (lw_wi (by decide +kernel) (by decide +kernel)) (lw_wi (by decide +kernel) (by decide +kernel)) (lw_wi (by decide +kernel) (by decide +kernel)) (by decide +kernel) ⟨by decide, by decide⟩) (ab_all_n)))
    (by intro as h K ht; unfold Tr_X4_isCovered at ht; split at ht <;> first | exact ht.elim | exact Nat.le_of_ble_eq_true rfl) (sem_X4_isCovered base)
noncomputable def Tr_X4_isFree : ATr := fun as h K => match as with
  | [.inr (.inl (some a)), .inl row, .inl from9, .inl wide] => ab_so (ab_md h a) fun P => (bareV P.2 ∧ ((0 ≤ row ∧ row ≤ 7) ∧ (0 ≤ from9 ∧ from9 ≤ 12) ∧ 0 ≤ wide ∧ wide ≤ 4)) ∧ K (some (.inl (1))) h
  | _ => False
theorem mo_X4_isFree : ab_mo Tr_X4_isFree := by
  intro as h K K' hk ht
  unfold Tr_X4_isFree at ht ⊢
  split at ht
  · exact ab_so_mo (fun P q => ⟨q.1, hk _ _ q.2⟩) ht
  · exact ht.elim
def ca_X4_isFree : Nat → Option ACS := ab_lk [(51, (0, 4, 4, 0, 0, Tr_X4_slatesIn))]
theorem ca_X4_isFree_51 : ca_X4_isFree 51 = some (0, 4, 4, 0, 0, Tr_X4_slatesIn) := rfl
theorem cm_X4_isFree : ∀ i q, ca_X4_isFree i = some q → ab_moq i q := ab_lk_all (ab_all_c mo_X4_slatesIn (ab_all_n))
set_option maxRecDepth 100000 in
set_option maxHeartbeats 4000000 in
theorem sem_X4_isFree (base : Nat) : ab_Sem tbX4 lw_ts base cX4_isFree ca_X4_isFree 2 4 0 0 (fun as => ab_en as 4) Tr_X4_isFree := by
  intro as h K hT V hV
  unfold Tr_X4_isFree at hT
  split at hT
  · rename_i a row from9 wide
    obtain ⟨⟨⟨b0, b1, b2, b3, b4, b5⟩, th, sl, f0, f1, f2, f3, f4, f5⟩, hP, ⟨hb, hs⟩, hK⟩ := ab_so_el hT
    obtain ⟨g0, g1, g2, g3, g4, g5⟩ := id hb
    dsimp only [MV.thr, MV.sl, MV.fst9, MV.fat, MV.frt, MV.ftb, MV.fnm, MV.fmk] at g0 g1 g2 g3 g4 g5 hK hs
    subst g0
    have hm := md_el hP
    obtain ⟨c, c0, c1, c2, c3, c4, c5, -⟩ := id hm
    dsimp only [mdC, MV.thr, MV.sl, MV.fst9, MV.fat, MV.frt, MV.ftb, MV.fnm, MV.fmk] at c c0 c1 c2 c3 c4 c5
    show V 0 [some (.inr (.inl (some a))), some (.inl row), some (.inl from9), some (.inl wide)] [] h 0 0
    refine hV (fun _ => false) 80 _ _ _ _ _ _ ?_
    simp only [c, hP, hb, bI_in, bI_0, bI_1, bI_t, bI_f, bI_01, Tr_X4_slatesIn, ae_aload_n, ae_goto, ae_iadd, ae_iconst, ae_ifCond, ae_iload_n, ae_invokevirtual, ae_ireturn, dX4_isFree_0, dX4_isFree_1, dX4_isFree_2, dX4_isFree_3, dX4_isFree_4, dX4_isFree_7, dX4_isFree_10, dX4_isFree_11, dX4_isFree_12, dX4_isFree_13, dX4_isFree_14, dX4_isFree_15, dX4_isFree_16, dX4_isFree_19, dX4_isFree_22, dX4_isFree_23, dX4_isFree_26, dX4_isFree_27, ca_X4_isFree_51, ab_wp0, ab_wps, ab_stp, ab_g, ab_st, ab_k2, ab_cl, ab_pop, ab_sz, ab_2, ab_ret, ab_f4, ab_tg, ab_I, ab_II, ab_A, ab_Rf, ab_VR, ab_IR, ab_VIR, ab_1, ab_LL, ab_DD, ab_ob, ab_pr, ab_qr, ab_ln, ab_so, ab_vI, ab_vA, ab_vD, ab_vL, ab_v2, ab_c, ab_fit, ab_rv, ab_tsw, ab_lsw, ab_up_eq, Fin.isValue, ab_f0, ab_f1, ab_f2, ab_f3, List.getElem?_cons_zero, List.getElem?_cons_succ, List.set_cons_zero, List.set_cons_succ, List.length_cons, List.length_nil, List.size_toArray, List.head?_cons, List.tail_cons, Option.map_some, cond_true, cond_false, true_and, and_true, false_and, and_false, not_true_eq_false, not_false_eq_true, true_imp_iff, false_imp_iff, if_true, if_false, ite_true, ite_false, ↓reduceIte, Nat.reduceAdd, Nat.reduceEqDiff, Nat.reduceLeDiff, Nat.reduceLT, Nat.reduceBEq, Nat.reduceBNe, Int.reduceAdd, Int.reduceNeg, Int.reduceSub, Int.reduceLE, Int.reduceLT, Int.reduceToNat, Int.reduceEq, Int.reduceMul, Int.cast_ofNat_Int, Nat.zero_add, Nat.add_zero, Nat.le_refl, eq_self, ne_eq, reduceCtorEq, or_true, true_or, or_false, false_or, Bool.or_true, Bool.or_false, Bool.true_or, Bool.false_or, Nat.zero_le, Int.le_refl, Int.ofNat_zero, Int.ofNat_one, Bool.false_eq_true]
    try simp only [ab_in] at hs ⊢
    (repeat' (first | intro _ | refine And.intro ?_ ?_)) <;> (first | exact hK | contradiction | omega | (exfalso; omega))
  · exact hT.elim
set_option maxRecDepth 100000 in
theorem con_X4_isFree (l : Launch) (D : va_G) (ty : Nat → ClassId) (base : Nat) : ab_Con l D vwCl ty lw_ts base lw_wd yX4_isFree cX4_isFree 4 (some .boolean) 4 91 0 0 Tr_X4_isFree :=
  ab_con_of (own := RX4) (rt := 2) (tb := tbX4) (ini := false) (ca := ca_X4_isFree) (by decide +kernel) rfl (fun h => by cases h) rfl lw_wd_ok wtbX4 lw_ar cm_X4_isFree
    (fun p e R s m args below meth c K hcx => by
      obtain ⟨hx, hb, hml, hown, hF, rfl⟩ := hcx
      exact ab_lk_all (ab_all_c (ab_tc_V hx hb hml hown lw_wd_ok hF ⟨rfl, rfl⟩ (con_X4_slatesIn l D ty base) rfl (lw_wi (by decide +kernel) (by decide +kernel)) (lw_wi (by decide +kernel) (by decide +kernel)) (lw_wi (by decide +kernel) (by decide +kernel)) (lw_wi (by decide +kernel) (by decide +kernel)) (lw_wi (by decide +kernel) (by decide +kernel)) (by decide +kernel) ⟨by decide, by decide⟩) (ab_all_n)))
    (by intro as h K ht; unfold Tr_X4_isFree at ht; split at ht <;> first | exact ht.elim | exact Nat.le_of_ble_eq_true rfl) (sem_X4_isFree base)
noncomputable def Tr_X4_covered : ATr := fun as h K => match as with
  | [.inr (.inl (some a))] => ab_so (ab_md h a) fun P => (bareV P.2 ∧ (True)) ∧ K (some (.inl (0))) h
  | _ => False
theorem mo_X4_covered : ab_mo Tr_X4_covered := by
  intro as h K K' hk ht
  unfold Tr_X4_covered at ht ⊢
  split at ht
  · exact ab_so_mo (fun P q => ⟨q.1, hk _ _ q.2⟩) ht
  · exact ht.elim
def ca_X4_covered : Nat → Option ACS := ab_lk [(109, (0, 4, 3, 0, 0, Tr_X4_isCovered))]
theorem ca_X4_covered_109 : ca_X4_covered 109 = some (0, 4, 3, 0, 0, Tr_X4_isCovered) := rfl
theorem cm_X4_covered : ∀ i q, ca_X4_covered i = some q → ab_moq i q := ab_lk_all (ab_all_c mo_X4_isCovered (ab_all_n))
set_option maxRecDepth 100000 in
set_option maxHeartbeats 4000000 in
theorem sem_X4_covered (base : Nat) : ab_Sem tbX4 lw_ts base cX4_covered ca_X4_covered 1 3 0 0 (fun as => ab_en as 3) Tr_X4_covered := by
  intro as h K hT V hV
  unfold Tr_X4_covered at hT
  split at hT
  · rename_i a
    obtain ⟨⟨⟨b0, b1, b2, b3, b4, b5⟩, th, sl, f0, f1, f2, f3, f4, f5⟩, hP, ⟨hb, hs⟩, hK⟩ := ab_so_el hT
    obtain ⟨g0, g1, g2, g3, g4, g5⟩ := id hb
    dsimp only [MV.thr, MV.sl, MV.fst9, MV.fat, MV.frt, MV.ftb, MV.fnm, MV.fmk] at g0 g1 g2 g3 g4 g5 hK hs
    subst g0
    have hm := md_el hP
    obtain ⟨c, c0, c1, c2, c3, c4, c5, -⟩ := id hm
    dsimp only [mdC, MV.thr, MV.sl, MV.fst9, MV.fat, MV.frt, MV.ftb, MV.fnm, MV.fmk] at c c0 c1 c2 c3 c4 c5
    show V 0 [some (.inr (.inl (some a))), none, none] [] h 0 0
    have loop : ∀ (n : Nat) (k : Int), k + n = 96 → 0 ≤ k → V 4 [some (.inr (.inl (some a))), some (.inl 0), some (.inl k)] [] h 0 0 := by
      intro n
      induction n with
      | zero =>
        intro k e1 e2
        refine hV (fun _ => false) 80 _ _ _ _ _ _ ?_
        simp only [ae_aload_n, ae_bipush, ae_goto, ae_iadd, ae_iconst, ae_idiv, ae_ifCond, ae_if_icmp, ae_iinc, ae_iload_n, ae_invokevirtual, ae_irem, ae_ireturn, ae_istore_n, dX4_covered_0, dX4_covered_1, dX4_covered_2, dX4_covered_3, dX4_covered_4, dX4_covered_5, dX4_covered_7, dX4_covered_10, dX4_covered_11, dX4_covered_12, dX4_covered_13, dX4_covered_15, dX4_covered_16, dX4_covered_17, dX4_covered_19, dX4_covered_20, dX4_covered_23, dX4_covered_26, dX4_covered_27, dX4_covered_30, dX4_covered_31, dX4_covered_32, dX4_covered_33, dX4_covered_36, dX4_covered_39, dX4_covered_40, ca_X4_covered_109, ab_wp0, ab_wps, ab_stp, ab_g, ab_st, ab_k2, ab_cl, ab_pop, ab_sz, ab_2, ab_ret, ab_f4, ab_tg, ab_I, ab_II, ab_A, ab_Rf, ab_VR, ab_IR, ab_VIR, ab_1, ab_LL, ab_DD, ab_ob, ab_pr, ab_qr, ab_ln, ab_so, ab_vI, ab_vA, ab_vD, ab_vL, ab_v2, ab_c, ab_fit, ab_rv, ab_tsw, ab_lsw, ab_up_eq, Fin.isValue, ab_f0, ab_f1, ab_f2, ab_f3, List.getElem?_cons_zero, List.getElem?_cons_succ, List.set_cons_zero, List.set_cons_succ, List.length_cons, List.length_nil, List.size_toArray, List.head?_cons, List.tail_cons, Option.map_some, cond_true, cond_false, true_and, and_true, false_and, and_false, not_true_eq_false, not_false_eq_true, true_imp_iff, false_imp_iff, if_true, if_false, ite_true, ite_false, ↓reduceIte, Nat.reduceAdd, Nat.reduceEqDiff, Nat.reduceLeDiff, Nat.reduceLT, Nat.reduceBEq, Nat.reduceBNe, Int.reduceAdd, Int.reduceNeg, Int.reduceSub, Int.reduceLE, Int.reduceLT, Int.reduceToNat, Int.reduceEq, Int.reduceMul, Int.cast_ofNat_Int, Nat.zero_add, Nat.add_zero, Nat.le_refl, eq_self, ne_eq, reduceCtorEq, or_true, true_or, or_false, false_or, Bool.or_true, Bool.or_false, Bool.true_or, Bool.false_or, Nat.zero_le, Int.le_refl, Int.ofNat_zero, Int.ofNat_one, Bool.false_eq_true]
        simp only [ab_in]
        (repeat' (first | intro _ | refine And.intro ?_ ?_)) <;> (first | exact hK | contradiction | omega | (exfalso; omega))
      | succ n ih =>
        intro k e1 e2
        have ih' := ih (k + 1) (by omega) (by omega)
        have t1 : Int.tmod k 12 = k % 12 := Int.tmod_eq_emod_of_nonneg e2
        have t2 : Int.tdiv k 12 = k / 12 := Int.tdiv_eq_ediv_of_nonneg e2
        have l10 : V 10 [some (.inr (.inl (some a))), some (.inl 0), some (.inl k)] [] h 0 0 := by
          refine hV (fun p => p == 4) 80 _ _ _ _ _ _ ?_
          simp only [c, hP, hb, t1, t2, bI_in, bI_0, bI_1, bI_t, bI_f, bI_01, Tr_X4_isCovered, ae_aload_n, ae_bipush, ae_goto, ae_iadd, ae_iconst, ae_idiv, ae_ifCond, ae_iinc, ae_iload_n, ae_invokevirtual, ae_irem, ae_istore_n, dX4_covered_10, dX4_covered_11, dX4_covered_12, dX4_covered_13, dX4_covered_15, dX4_covered_16, dX4_covered_17, dX4_covered_19, dX4_covered_20, dX4_covered_23, dX4_covered_26, dX4_covered_27, dX4_covered_30, dX4_covered_31, dX4_covered_32, dX4_covered_33, dX4_covered_36, ca_X4_covered_109, ab_wp0, ab_wps, ab_stp, ab_g, ab_st, ab_k2, ab_cl, ab_pop, ab_sz, ab_2, ab_ret, ab_f4, ab_tg, ab_I, ab_II, ab_A, ab_Rf, ab_VR, ab_IR, ab_VIR, ab_1, ab_LL, ab_DD, ab_ob, ab_pr, ab_qr, ab_ln, ab_so, ab_vI, ab_vA, ab_vD, ab_vL, ab_v2, ab_c, ab_fit, ab_rv, ab_tsw, ab_lsw, ab_up_eq, Fin.isValue, ab_f0, ab_f1, ab_f2, ab_f3, List.getElem?_cons_zero, List.getElem?_cons_succ, List.set_cons_zero, List.set_cons_succ, List.length_cons, List.length_nil, List.size_toArray, List.head?_cons, List.tail_cons, Option.map_some, cond_true, cond_false, true_and, and_true, false_and, and_false, not_true_eq_false, not_false_eq_true, true_imp_iff, false_imp_iff, if_true, if_false, ite_true, ite_false, ↓reduceIte, Nat.reduceAdd, Nat.reduceEqDiff, Nat.reduceLeDiff, Nat.reduceLT, Nat.reduceBEq, Nat.reduceBNe, Int.reduceAdd, Int.reduceNeg, Int.reduceSub, Int.reduceLE, Int.reduceLT, Int.reduceToNat, Int.reduceEq, Int.reduceMul, Int.cast_ofNat_Int, Nat.zero_add, Nat.add_zero, Nat.le_refl, eq_self, ne_eq, reduceCtorEq, or_true, true_or, or_false, false_or, Bool.or_true, Bool.or_false, Bool.true_or, Bool.false_or, Nat.zero_le, Int.le_refl, Int.ofNat_zero, Int.ofNat_one, Bool.false_eq_true]
          simp only [ab_in]
          (repeat' (first | intro _ | refine And.intro ?_ ?_)) <;> (first | exact ih' | contradiction | omega | (exfalso; omega))
        refine hV (fun p => p == 10) 80 _ _ _ _ _ _ ?_
        simp only [ae_bipush, ae_if_icmp, ae_iload_n, dX4_covered_4, dX4_covered_5, dX4_covered_7, ca_X4_covered_109, ab_wp0, ab_wps, ab_stp, ab_g, ab_st, ab_k2, ab_cl, ab_pop, ab_sz, ab_2, ab_ret, ab_f4, ab_tg, ab_I, ab_II, ab_A, ab_Rf, ab_VR, ab_IR, ab_VIR, ab_1, ab_LL, ab_DD, ab_ob, ab_pr, ab_qr, ab_ln, ab_so, ab_vI, ab_vA, ab_vD, ab_vL, ab_v2, ab_c, ab_fit, ab_rv, ab_tsw, ab_lsw, ab_up_eq, Fin.isValue, ab_f0, ab_f1, ab_f2, ab_f3, List.getElem?_cons_zero, List.getElem?_cons_succ, List.set_cons_zero, List.set_cons_succ, List.length_cons, List.length_nil, List.size_toArray, List.head?_cons, List.tail_cons, Option.map_some, cond_true, cond_false, true_and, and_true, false_and, and_false, not_true_eq_false, not_false_eq_true, true_imp_iff, false_imp_iff, if_true, if_false, ite_true, ite_false, ↓reduceIte, Nat.reduceAdd, Nat.reduceEqDiff, Nat.reduceLeDiff, Nat.reduceLT, Nat.reduceBEq, Nat.reduceBNe, Int.reduceAdd, Int.reduceNeg, Int.reduceSub, Int.reduceLE, Int.reduceLT, Int.reduceToNat, Int.reduceEq, Int.reduceMul, Int.cast_ofNat_Int, Nat.zero_add, Nat.add_zero, Nat.le_refl, eq_self, ne_eq, reduceCtorEq, or_true, true_or, or_false, false_or, Bool.or_true, Bool.or_false, Bool.true_or, Bool.false_or, Nat.zero_le, Int.le_refl, Int.ofNat_zero, Int.ofNat_one, Bool.false_eq_true]
        simp only [ab_in]
        (repeat' (first | intro _ | refine And.intro ?_ ?_)) <;> (first | exact l10 | contradiction | omega | (exfalso; omega))
    have l0 := loop 96 0 (by omega) (by omega)
    refine hV (fun p => p == 4) 80 _ _ _ _ _ _ ?_
    simp only [bI_in, bI_0, bI_1, bI_t, bI_f, bI_01, ae_iconst, ae_istore_n, dX4_covered_0, dX4_covered_1, dX4_covered_2, dX4_covered_3, ca_X4_covered_109, ab_wp0, ab_wps, ab_stp, ab_g, ab_st, ab_k2, ab_cl, ab_pop, ab_sz, ab_2, ab_ret, ab_f4, ab_tg, ab_I, ab_II, ab_A, ab_Rf, ab_VR, ab_IR, ab_VIR, ab_1, ab_LL, ab_DD, ab_ob, ab_pr, ab_qr, ab_ln, ab_so, ab_vI, ab_vA, ab_vD, ab_vL, ab_v2, ab_c, ab_fit, ab_rv, ab_tsw, ab_lsw, ab_up_eq, Fin.isValue, ab_f0, ab_f1, ab_f2, ab_f3, List.getElem?_cons_zero, List.getElem?_cons_succ, List.set_cons_zero, List.set_cons_succ, List.length_cons, List.length_nil, List.size_toArray, List.head?_cons, List.tail_cons, Option.map_some, cond_true, cond_false, true_and, and_true, false_and, and_false, not_true_eq_false, not_false_eq_true, true_imp_iff, false_imp_iff, if_true, if_false, ite_true, ite_false, ↓reduceIte, Nat.reduceAdd, Nat.reduceEqDiff, Nat.reduceLeDiff, Nat.reduceLT, Nat.reduceBEq, Nat.reduceBNe, Int.reduceAdd, Int.reduceNeg, Int.reduceSub, Int.reduceLE, Int.reduceLT, Int.reduceToNat, Int.reduceEq, Int.reduceMul, Int.cast_ofNat_Int, Nat.zero_add, Nat.add_zero, Nat.le_refl, eq_self, ne_eq, reduceCtorEq, or_true, true_or, or_false, false_or, Bool.or_true, Bool.or_false, Bool.true_or, Bool.false_or, Nat.zero_le, Int.le_refl, Int.ofNat_zero, Int.ofNat_one, Bool.false_eq_true]
    try simp only [ab_in] at ⊢
    (repeat' (first | intro _ | refine And.intro ?_ ?_)) <;> (first | exact l0 | contradiction | omega | (exfalso; omega))
  · exact hT.elim
set_option maxRecDepth 100000 in
theorem con_X4_covered (l : Launch) (D : va_G) (ty : Nat → ClassId) (base : Nat) : ab_Con l D vwCl ty lw_ts base lw_wd yX4_covered cX4_covered 3 (some .int) 5 109 0 0 Tr_X4_covered :=
  ab_con_of (own := RX4) (rt := 1) (tb := tbX4) (ini := false) (ca := ca_X4_covered) (by decide +kernel) rfl (fun h => by cases h) rfl lw_wd_ok wtbX4 lw_ar cm_X4_covered
    (fun p e R s m args below meth c K hcx => by
      obtain ⟨hx, hb, hml, hown, hF, rfl⟩ := hcx
      exact ab_lk_all (ab_all_c (ab_tc_V hx hb hml hown lw_wd_ok hF ⟨rfl, rfl⟩ (con_X4_isCovered l D ty base) rfl (lw_wi (by decide +kernel) (by decide +kernel)) (lw_wi (by decide +kernel) (by decide +kernel)) (lw_wi (by decide +kernel) (by decide +kernel)) (lw_wi (by decide +kernel) (by decide +kernel)) (lw_wi (by decide +kernel) (by decide +kernel)) (by decide +kernel) ⟨by decide, by decide⟩) (ab_all_n)))
    (by intro as h K ht; unfold Tr_X4_covered at ht; split at ht <;> first | exact ht.elim | exact Nat.le_of_ble_eq_true rfl) (sem_X4_covered base)
noncomputable def Tr_X4_allRot : ATr := fun as h K => match as with
  | [.inr (.inl (some a))] => ab_so (ab_md h a) fun P => (bareV P.2 ∧ (True)) ∧ K (some (.inl (0))) h
  | _ => False
theorem mo_X4_allRot : ab_mo Tr_X4_allRot := by
  intro as h K K' hk ht
  unfold Tr_X4_allRot at ht ⊢
  split at ht
  · exact ab_so_mo (fun P q => ⟨q.1, hk _ _ q.2⟩) ht
  · exact ht.elim
def ca_X4_allRot : Nat → Option ACS := ab_lk []
theorem cm_X4_allRot : ∀ i q, ca_X4_allRot i = some q → ab_moq i q := ab_lk_all (ab_all_n)
set_option maxRecDepth 100000 in
set_option maxHeartbeats 4000000 in
theorem sem_X4_allRot (base : Nat) : ab_Sem tbX4 lw_ts base cX4_allRot ca_X4_allRot 1 6 0 0 (fun as => ab_en as 6) Tr_X4_allRot := by
  intro as h K hT V hV
  unfold Tr_X4_allRot at hT
  split at hT
  · rename_i a
    obtain ⟨⟨⟨b0, b1, b2, b3, b4, b5⟩, th, sl, f0, f1, f2, f3, f4, f5⟩, hP, ⟨hb, hs⟩, hK⟩ := ab_so_el hT
    obtain ⟨g0, g1, g2, g3, g4, g5⟩ := id hb
    dsimp only [MV.thr, MV.sl, MV.fst9, MV.fat, MV.frt, MV.ftb, MV.fnm, MV.fmk] at g0 g1 g2 g3 g4 g5 hK hs
    subst g0
    have hm := md_el hP
    obtain ⟨c, c0, c1, c2, c3, c4, c5, -⟩ := id hm
    dsimp only [mdC, MV.thr, MV.sl, MV.fst9, MV.fat, MV.frt, MV.ftb, MV.fnm, MV.fmk] at c c0 c1 c2 c3 c4 c5
    show V 0 [some (.inr (.inl (some a))), none, none, none, none, none] [] h 0 0
    have loop : ∀ (n : Nat) (k : Int) (u : Option AV), k + n = 96 → 0 ≤ k → V 13 [some (.inr (.inl (some a))), some (.inl 0), some (.inr (.inl (some b2))), some (.inl 96), some (.inl k), u] [] h 0 0 := by
      intro n
      induction n with
      | zero =>
        intro k u e1 e2
        refine hV (fun _ => false) 80 _ _ _ _ _ _ ?_
        simp only [ae_aload_n, ae_arraylength, ae_astore_n, ae_getfield, ae_goto, ae_iadd, ae_iaload, ae_iconst, ae_if_icmp, ae_iinc, ae_iload, ae_iload_n, ae_ireturn, ae_istore, ae_istore_n, dX4_allRot_0, dX4_allRot_1, dX4_allRot_2, dX4_allRot_3, dX4_allRot_6, dX4_allRot_7, dX4_allRot_8, dX4_allRot_9, dX4_allRot_10, dX4_allRot_11, dX4_allRot_13, dX4_allRot_15, dX4_allRot_16, dX4_allRot_19, dX4_allRot_20, dX4_allRot_22, dX4_allRot_23, dX4_allRot_25, dX4_allRot_26, dX4_allRot_28, dX4_allRot_29, dX4_allRot_30, dX4_allRot_33, dX4_allRot_36, dX4_allRot_37, tbX4_g16, ab_wp0, ab_wps, ab_stp, ab_g, ab_st, ab_k2, ab_cl, ab_pop, ab_sz, ab_2, ab_ret, ab_f4, ab_tg, ab_I, ab_II, ab_A, ab_Rf, ab_VR, ab_IR, ab_VIR, ab_1, ab_LL, ab_DD, ab_ob, ab_pr, ab_qr, ab_ln, ab_so, ab_vI, ab_vA, ab_vD, ab_vL, ab_v2, ab_c, ab_fit, ab_rv, ab_tsw, ab_lsw, ab_up_eq, Fin.isValue, ab_f0, ab_f1, ab_f2, ab_f3, List.getElem?_cons_zero, List.getElem?_cons_succ, List.set_cons_zero, List.set_cons_succ, List.length_cons, List.length_nil, List.size_toArray, List.head?_cons, List.tail_cons, Option.map_some, cond_true, cond_false, true_and, and_true, false_and, and_false, not_true_eq_false, not_false_eq_true, true_imp_iff, false_imp_iff, if_true, if_false, ite_true, ite_false, ↓reduceIte, Nat.reduceAdd, Nat.reduceEqDiff, Nat.reduceLeDiff, Nat.reduceLT, Nat.reduceBEq, Nat.reduceBNe, Int.reduceAdd, Int.reduceNeg, Int.reduceSub, Int.reduceLE, Int.reduceLT, Int.reduceToNat, Int.reduceEq, Int.reduceMul, Int.cast_ofNat_Int, Nat.zero_add, Nat.add_zero, Nat.le_refl, eq_self, ne_eq, reduceCtorEq, or_true, true_or, or_false, false_or, Bool.or_true, Bool.or_false, Bool.true_or, Bool.false_or, Nat.zero_le, Int.le_refl, Int.ofNat_zero, Int.ofNat_one, Bool.false_eq_true]
        simp only [ab_in]
        (repeat' (first | intro _ | refine And.intro ?_ ?_)) <;> (first | exact hK | contradiction | omega | (exfalso; omega))
      | succ n ih =>
        intro k u e1 e2
        have ih' := ih (k + 1) (some (.inl 0)) (by omega) (by omega)
        have hv := g2 k (by omega) (by omega)
        have l19 : V 19 [some (.inr (.inl (some a))), some (.inl 0), some (.inr (.inl (some b2))), some (.inl 96), some (.inl k), u] [] h 0 0 := by
          refine hV (fun p => p == 13) 80 _ _ _ _ _ _ ?_
          simp only [c2, hv, ae_aload_n, ae_goto, ae_iadd, ae_iaload, ae_iinc, ae_iload, ae_iload_n, ae_istore, ae_istore_n, dX4_allRot_19, dX4_allRot_20, dX4_allRot_22, dX4_allRot_23, dX4_allRot_25, dX4_allRot_26, dX4_allRot_28, dX4_allRot_29, dX4_allRot_30, dX4_allRot_33, ab_wp0, ab_wps, ab_stp, ab_g, ab_st, ab_k2, ab_cl, ab_pop, ab_sz, ab_2, ab_ret, ab_f4, ab_tg, ab_I, ab_II, ab_A, ab_Rf, ab_VR, ab_IR, ab_VIR, ab_1, ab_LL, ab_DD, ab_ob, ab_pr, ab_qr, ab_ln, ab_so, ab_vI, ab_vA, ab_vD, ab_vL, ab_v2, ab_c, ab_fit, ab_rv, ab_tsw, ab_lsw, ab_up_eq, Fin.isValue, ab_f0, ab_f1, ab_f2, ab_f3, List.getElem?_cons_zero, List.getElem?_cons_succ, List.set_cons_zero, List.set_cons_succ, List.length_cons, List.length_nil, List.size_toArray, List.head?_cons, List.tail_cons, Option.map_some, cond_true, cond_false, true_and, and_true, false_and, and_false, not_true_eq_false, not_false_eq_true, true_imp_iff, false_imp_iff, if_true, if_false, ite_true, ite_false, ↓reduceIte, Nat.reduceAdd, Nat.reduceEqDiff, Nat.reduceLeDiff, Nat.reduceLT, Nat.reduceBEq, Nat.reduceBNe, Int.reduceAdd, Int.reduceNeg, Int.reduceSub, Int.reduceLE, Int.reduceLT, Int.reduceToNat, Int.reduceEq, Int.reduceMul, Int.cast_ofNat_Int, Nat.zero_add, Nat.add_zero, Nat.le_refl, eq_self, ne_eq, reduceCtorEq, or_true, true_or, or_false, false_or, Bool.or_true, Bool.or_false, Bool.true_or, Bool.false_or, Nat.zero_le, Int.le_refl, Int.ofNat_zero, Int.ofNat_one, Bool.false_eq_true]
          (repeat' (first | intro _ | refine And.intro ?_ ?_)) <;> (first | exact ih' | contradiction | omega | (exfalso; omega))
        refine hV (fun p => p == 19) 80 _ _ _ _ _ _ ?_
        simp only [ae_if_icmp, ae_iload, ae_iload_n, dX4_allRot_13, dX4_allRot_15, dX4_allRot_16, ab_wp0, ab_wps, ab_stp, ab_g, ab_st, ab_k2, ab_cl, ab_pop, ab_sz, ab_2, ab_ret, ab_f4, ab_tg, ab_I, ab_II, ab_A, ab_Rf, ab_VR, ab_IR, ab_VIR, ab_1, ab_LL, ab_DD, ab_ob, ab_pr, ab_qr, ab_ln, ab_so, ab_vI, ab_vA, ab_vD, ab_vL, ab_v2, ab_c, ab_fit, ab_rv, ab_tsw, ab_lsw, ab_up_eq, Fin.isValue, ab_f0, ab_f1, ab_f2, ab_f3, List.getElem?_cons_zero, List.getElem?_cons_succ, List.set_cons_zero, List.set_cons_succ, List.length_cons, List.length_nil, List.size_toArray, List.head?_cons, List.tail_cons, Option.map_some, cond_true, cond_false, true_and, and_true, false_and, and_false, not_true_eq_false, not_false_eq_true, true_imp_iff, false_imp_iff, if_true, if_false, ite_true, ite_false, ↓reduceIte, Nat.reduceAdd, Nat.reduceEqDiff, Nat.reduceLeDiff, Nat.reduceLT, Nat.reduceBEq, Nat.reduceBNe, Int.reduceAdd, Int.reduceNeg, Int.reduceSub, Int.reduceLE, Int.reduceLT, Int.reduceToNat, Int.reduceEq, Int.reduceMul, Int.cast_ofNat_Int, Nat.zero_add, Nat.add_zero, Nat.le_refl, eq_self, ne_eq, reduceCtorEq, or_true, true_or, or_false, false_or, Bool.or_true, Bool.or_false, Bool.true_or, Bool.false_or, Nat.zero_le, Int.le_refl, Int.ofNat_zero, Int.ofNat_one, Bool.false_eq_true]
        simp only [ab_in]
        (repeat' (first | intro _ | refine And.intro ?_ ?_)) <;> (first | exact l19 | contradiction | omega | (exfalso; omega))
    have l0 := loop 96 0 none (by omega) (by omega)
    refine hV (fun p => p == 13) 80 _ _ _ _ _ _ ?_
    simp only [c, c2, Int.ofNat_eq_natCast, Int.cast_ofNat_Int, bI_in, bI_0, bI_1, bI_t, bI_f, bI_01, ae_aload_n, ae_arraylength, ae_astore_n, ae_getfield, ae_iconst, ae_istore, ae_istore_n, dX4_allRot_0, dX4_allRot_1, dX4_allRot_2, dX4_allRot_3, dX4_allRot_6, dX4_allRot_7, dX4_allRot_8, dX4_allRot_9, dX4_allRot_10, dX4_allRot_11, tbX4_g16, ab_wp0, ab_wps, ab_stp, ab_g, ab_st, ab_k2, ab_cl, ab_pop, ab_sz, ab_2, ab_ret, ab_f4, ab_tg, ab_I, ab_II, ab_A, ab_Rf, ab_VR, ab_IR, ab_VIR, ab_1, ab_LL, ab_DD, ab_ob, ab_pr, ab_qr, ab_ln, ab_so, ab_vI, ab_vA, ab_vD, ab_vL, ab_v2, ab_c, ab_fit, ab_rv, ab_tsw, ab_lsw, ab_up_eq, Fin.isValue, ab_f0, ab_f1, ab_f2, ab_f3, List.getElem?_cons_zero, List.getElem?_cons_succ, List.set_cons_zero, List.set_cons_succ, List.length_cons, List.length_nil, List.size_toArray, List.head?_cons, List.tail_cons, Option.map_some, cond_true, cond_false, true_and, and_true, false_and, and_false, not_true_eq_false, not_false_eq_true, true_imp_iff, false_imp_iff, if_true, if_false, ite_true, ite_false, ↓reduceIte, Nat.reduceAdd, Nat.reduceEqDiff, Nat.reduceLeDiff, Nat.reduceLT, Nat.reduceBEq, Nat.reduceBNe, Int.reduceAdd, Int.reduceNeg, Int.reduceSub, Int.reduceLE, Int.reduceLT, Int.reduceToNat, Int.reduceEq, Int.reduceMul, Int.cast_ofNat_Int, Nat.zero_add, Nat.add_zero, Nat.le_refl, eq_self, ne_eq, reduceCtorEq, or_true, true_or, or_false, false_or, Bool.or_true, Bool.or_false, Bool.true_or, Bool.false_or, Nat.zero_le, Int.le_refl, Int.ofNat_zero, Int.ofNat_one, Bool.false_eq_true]
    try simp only [ab_in] at ⊢
    (repeat' (first | intro _ | refine And.intro ?_ ?_)) <;> (first | exact l0 | contradiction | omega | (exfalso; omega))
  · exact hT.elim
set_option maxRecDepth 100000 in
theorem con_X4_allRot (l : Launch) (D : va_G) (ty : Nat → ClassId) (base : Nat) : ab_Con l D vwCl ty lw_ts base lw_wd yX4_allRot cX4_allRot 6 (some .int) 0 0 0 0 Tr_X4_allRot :=
  ab_con_of (own := RX4) (rt := 1) (tb := tbX4) (ini := false) (ca := ca_X4_allRot) (by decide +kernel) rfl (fun h => by cases h) rfl lw_wd_ok wtbX4 lw_ar cm_X4_allRot
    (fun p e R s m args below meth c K hcx => by
      obtain ⟨hx, hb, hml, hown, hF, rfl⟩ := hcx
      exact ab_lk_all (ab_all_n))
    (by intro as h K ht; unfold Tr_X4_allRot at ht; split at ht <;> first | exact ht.elim | exact Nat.le_of_ble_eq_true rfl) (sem_X4_allRot base)
noncomputable def Tr_X4_counted : ATr := fun as h K => match as with
  | [.inr (.inl (some a)), .inl what] => ab_so (ab_md h a) fun P => (bareV P.2 ∧ (0 ≤ what ∧ what ≤ 6)) ∧ K (some (.inl (if what = 0 then P.2.fnm 0 else 0))) h
  | _ => False
theorem mo_X4_counted : ab_mo Tr_X4_counted := by
  intro as h K K' hk ht
  unfold Tr_X4_counted at ht ⊢
  split at ht
  · exact ab_so_mo (fun P q => ⟨q.1, hk _ _ q.2⟩) ht
  · exact ht.elim
def ca_X4_counted : Nat → Option ACS := ab_lk [(62, (0, 4, 1, 0, 0, Tr_X4_onRoof)), (115, (0, 4, 1, 0, 0, Tr_X4_cracked)), (118, (0, 4, 1, 0, 0, Tr_X4_covered)), (121, (0, 4, 1, 0, 0, Tr_X4_allRot))]
theorem ca_X4_counted_62 : ca_X4_counted 62 = some (0, 4, 1, 0, 0, Tr_X4_onRoof) := rfl
theorem ca_X4_counted_115 : ca_X4_counted 115 = some (0, 4, 1, 0, 0, Tr_X4_cracked) := rfl
theorem ca_X4_counted_118 : ca_X4_counted 118 = some (0, 4, 1, 0, 0, Tr_X4_covered) := rfl
theorem ca_X4_counted_121 : ca_X4_counted 121 = some (0, 4, 1, 0, 0, Tr_X4_allRot) := rfl
theorem cm_X4_counted : ∀ i q, ca_X4_counted i = some q → ab_moq i q := ab_lk_all (ab_all_c mo_X4_onRoof (ab_all_c mo_X4_cracked (ab_all_c mo_X4_covered (ab_all_c mo_X4_allRot (ab_all_n)))))
set_option maxRecDepth 100000 in
set_option maxHeartbeats 4000000 in
theorem sem_X4_counted (base : Nat) : ab_Sem tbX4 lw_ts base cX4_counted ca_X4_counted 1 2 0 0 (fun as => ab_en as 2) Tr_X4_counted := by
  intro as h K hT V hV
  unfold Tr_X4_counted at hT
  split at hT
  · rename_i a what
    obtain ⟨⟨⟨b0, b1, b2, b3, b4, b5⟩, th, sl, f0, f1, f2, f3, f4, f5⟩, hP, ⟨hb, hs⟩, hK⟩ := ab_so_el hT
    obtain ⟨g0, g1, g2, g3, g4, g5⟩ := id hb
    dsimp only [MV.thr, MV.sl, MV.fst9, MV.fat, MV.frt, MV.ftb, MV.fnm, MV.fmk] at g0 g1 g2 g3 g4 g5 hK hs
    subst g0
    have hm := md_el hP
    obtain ⟨c, c0, c1, c2, c3, c4, c5, -⟩ := id hm
    dsimp only [mdC, MV.thr, MV.sl, MV.fst9, MV.fat, MV.frt, MV.ftb, MV.fnm, MV.fmk] at c c0 c1 c2 c3 c4 c5
    show V 0 [some (.inr (.inl (some a))), some (.inl what)] [] h 0 0
    have k0 : what = 0 → K (some (.inl (f4 0))) h := fun q => by rw [if_pos q] at hK; exact hK
    have k1 : ¬ what = 0 → K (some (.inl 0)) h := fun q => by rw [if_neg q] at hK; exact hK
    refine hV (fun _ => false) 80 _ _ _ _ _ _ ?_
    simp only [c, c4, g5, hP, hb, bI_in, bI_0, bI_1, bI_t, bI_f, bI_01, Tr_X4_onRoof, Tr_X4_cracked, Tr_X4_covered, Tr_X4_allRot, ae_aload_n, ae_getfield, ae_iaload, ae_iconst, ae_iload_n, ae_invokevirtual, ae_ireturn, ae_tableswitch, dX4_counted_0, dX4_counted_1, dX4_counted_40, dX4_counted_41, dX4_counted_44, dX4_counted_45, dX4_counted_46, dX4_counted_47, dX4_counted_48, dX4_counted_51, dX4_counted_52, dX4_counted_53, dX4_counted_56, dX4_counted_57, dX4_counted_58, dX4_counted_61, dX4_counted_62, dX4_counted_63, dX4_counted_66, dX4_counted_67, dX4_counted_68, dX4_counted_71, dX4_counted_72, dX4_counted_73, dX4_counted_74, dX4_counted_75, dX4_counted_78, tbX4_g22, tbX4_g33, ca_X4_counted_62, ca_X4_counted_115, ca_X4_counted_118, ca_X4_counted_121, ab_wp0, ab_wps, ab_stp, ab_g, ab_st, ab_k2, ab_cl, ab_pop, ab_sz, ab_2, ab_ret, ab_f4, ab_tg, ab_I, ab_II, ab_A, ab_Rf, ab_VR, ab_IR, ab_VIR, ab_1, ab_LL, ab_DD, ab_ob, ab_pr, ab_qr, ab_ln, ab_so, ab_vI, ab_vA, ab_vD, ab_vL, ab_v2, ab_c, ab_fit, ab_rv, ab_tsw, ab_lsw, ab_up_eq, Fin.isValue, ab_f0, ab_f1, ab_f2, ab_f3, List.getElem?_cons_zero, List.getElem?_cons_succ, List.set_cons_zero, List.set_cons_succ, List.length_cons, List.length_nil, List.size_toArray, List.head?_cons, List.tail_cons, Option.map_some, cond_true, cond_false, true_and, and_true, false_and, and_false, not_true_eq_false, not_false_eq_true, true_imp_iff, false_imp_iff, if_true, if_false, ite_true, ite_false, ↓reduceIte, Nat.reduceAdd, Nat.reduceEqDiff, Nat.reduceLeDiff, Nat.reduceLT, Nat.reduceBEq, Nat.reduceBNe, Int.reduceAdd, Int.reduceNeg, Int.reduceSub, Int.reduceLE, Int.reduceLT, Int.reduceToNat, Int.reduceEq, Int.reduceMul, Int.cast_ofNat_Int, Nat.zero_add, Nat.add_zero, Nat.le_refl, eq_self, ne_eq, reduceCtorEq, or_true, true_or, or_false, false_or, Bool.or_true, Bool.or_false, Bool.true_or, Bool.false_or, Nat.zero_le, Int.le_refl, Int.ofNat_zero, Int.ofNat_one, Bool.false_eq_true]
    try simp only [ab_in] at hs ⊢
    (repeat' (first | intro _ | refine And.intro ?_ ?_)) <;> (first | exact k0 (by omega) | exact k1 (by omega) | contradiction | omega | (exfalso; omega))
  · exact hT.elim
set_option maxRecDepth 100000 in
theorem con_X4_counted (l : Launch) (D : va_G) (ty : Nat → ClassId) (base : Nat) : ab_Con l D vwCl ty lw_ts base lw_wd yX4_counted cX4_counted 2 (some .int) 6 131 0 0 Tr_X4_counted :=
  ab_con_of (own := RX4) (rt := 1) (tb := tbX4) (ini := false) (ca := ca_X4_counted) (by decide +kernel) rfl (fun h => by cases h) rfl lw_wd_ok wtbX4 lw_ar cm_X4_counted
    (fun p e R s m args below meth c K hcx => by
      obtain ⟨hx, hb, hml, hown, hF, rfl⟩ := hcx
      exact ab_lk_all (ab_all_c (ab_tc_V hx hb hml hown lw_wd_ok hF ⟨rfl, rfl⟩ (con_X4_onRoof l D ty base) rfl (lw_wi (by decide +kernel) (by decide +kernel)) (lw_wi (by decide +kernel) (by decide +kernel)) (lw_wi (by decide +kernel) (by decide +kernel)) (lw_wi (by decide +kernel) (by decide +kernel)) (lw_wi (by decide +kernel) (by decide +kernel)) (by decide +kernel) ⟨by decide, by decide⟩) (ab_all_c (ab_tc_V hx hb hml hown lw_wd_ok hF ⟨rfl, rfl⟩ (con_X4_cracked l D ty base) rfl (lw_wi (by decide +kernel) (by decide +kernel)) (lw_wi (by decide +kernel) (by decide +kernel)) (lw_wi (by decide +kernel) (by decide +kernel)) (lw_wi (by decide +kernel) (by decide +kernel)) (lw_wi (by decide +kernel) (by decide +kernel)) (by decide +kernel) ⟨by decide, by decide⟩) (ab_all_c (ab_tc_V hx hb hml hown lw_wd_ok hF ⟨rfl, rfl⟩ (con_X4_covered l D ty base) rfl (lw_wi (by decide +kernel) (by decide +kernel)) (lw_wi (by decide +kernel) (by decide +kernel)) (lw_wi (by decide +kernel) (by decide +kernel)) (lw_wi (by decide +kernel) (by decide +kernel)) (lw_wi (by decide +kernel) (by decide +kernel)) (by decide +kernel) ⟨by decide, by decide⟩) (ab_all_c (ab_tc_V hx hb hml hown lw_wd_ok hF ⟨rfl, rfl⟩ (con_X4_allRot l D ty base) rfl (lw_wi (by decide +kernel) (by decide +kernel)) (lw_wi (by decide +kernel) (by decide +kernel)) (lw_wi (by decide +kernel) (by decide +kernel)) (lw_wi (by decide +kernel) (by decide +kernel)) (lw_wi (by decide +kernel) (by decide +kernel)) (by decide +kernel) ⟨by decide, by decide⟩) (ab_all_n))))))
    (by intro as h K ht; unfold Tr_X4_counted at ht; split at ht <;> first | exact ht.elim | exact Nat.le_of_ble_eq_true rfl) (sem_X4_counted base)
noncomputable def Tr_X4_dayTold : ATr := fun as h K => match as with
  | [.inr (.inl (some a)), .inl d] => ab_so (ab_md h a) fun P => (bareV P.2 ∧ (0 ≤ d ∧ d < 7)) ∧ K (some (.inl (0))) h
  | _ => False
theorem mo_X4_dayTold : ab_mo Tr_X4_dayTold := by
  intro as h K K' hk ht
  unfold Tr_X4_dayTold at ht ⊢
  split at ht
  · exact ab_so_mo (fun P q => ⟨q.1, hk _ _ q.2⟩) ht
  · exact ht.elim
def ca_X4_dayTold : Nat → Option ACS := ab_lk []
theorem cm_X4_dayTold : ∀ i q, ca_X4_dayTold i = some q → ab_moq i q := ab_lk_all (ab_all_n)
set_option maxRecDepth 100000 in
set_option maxHeartbeats 4000000 in
theorem sem_X4_dayTold (base : Nat) : ab_Sem tbX4 lw_ts base cX4_dayTold ca_X4_dayTold 1 2 0 0 (fun as => ab_en as 2) Tr_X4_dayTold := by
  intro as h K hT V hV
  unfold Tr_X4_dayTold at hT
  split at hT
  · rename_i a d
    obtain ⟨⟨⟨b0, b1, b2, b3, b4, b5⟩, th, sl, f0, f1, f2, f3, f4, f5⟩, hP, ⟨hb, hs⟩, hK⟩ := ab_so_el hT
    obtain ⟨g0, g1, g2, g3, g4, g5⟩ := id hb
    dsimp only [MV.thr, MV.sl, MV.fst9, MV.fat, MV.frt, MV.ftb, MV.fnm, MV.fmk] at g0 g1 g2 g3 g4 g5 hK hs
    subst g0
    have hm := md_el hP
    obtain ⟨c, c0, c1, c2, c3, c4, c5, -⟩ := id hm
    dsimp only [mdC, MV.thr, MV.sl, MV.fst9, MV.fat, MV.frt, MV.ftb, MV.fnm, MV.fmk] at c c0 c1 c2 c3 c4 c5
    show V 0 [some (.inr (.inl (some a))), some (.inl d)] [] h 0 0
    have e0 := g3 (4 * d + 0) (by omega) (by omega)
    have e2 := g3 (4 * d + 2) (by omega) (by omega)
    have e3 := g3 (4 * d + 3) (by omega) (by omega)
    refine hV (fun _ => false) 80 _ _ _ _ _ _ ?_
    simp only [c, c3, e0, e2, e3, bI_in, bI_0, bI_1, bI_t, bI_f, bI_01, ae_aload_n, ae_bipush, ae_getfield, ae_iadd, ae_iaload, ae_iconst, ae_iload_n, ae_imul, ae_ireturn, dX4_dayTold_0, dX4_dayTold_2, dX4_dayTold_3, dX4_dayTold_6, dX4_dayTold_7, dX4_dayTold_8, dX4_dayTold_9, dX4_dayTold_10, dX4_dayTold_11, dX4_dayTold_12, dX4_dayTold_13, dX4_dayTold_15, dX4_dayTold_16, dX4_dayTold_19, dX4_dayTold_20, dX4_dayTold_21, dX4_dayTold_22, dX4_dayTold_23, dX4_dayTold_24, dX4_dayTold_25, dX4_dayTold_26, dX4_dayTold_27, dX4_dayTold_28, dX4_dayTold_31, dX4_dayTold_32, dX4_dayTold_33, dX4_dayTold_34, dX4_dayTold_35, dX4_dayTold_36, dX4_dayTold_37, dX4_dayTold_38, tbX4_g19, ab_wp0, ab_wps, ab_stp, ab_g, ab_st, ab_k2, ab_cl, ab_pop, ab_sz, ab_2, ab_ret, ab_f4, ab_tg, ab_I, ab_II, ab_A, ab_Rf, ab_VR, ab_IR, ab_VIR, ab_1, ab_LL, ab_DD, ab_ob, ab_pr, ab_qr, ab_ln, ab_so, ab_vI, ab_vA, ab_vD, ab_vL, ab_v2, ab_c, ab_fit, ab_rv, ab_tsw, ab_lsw, ab_up_eq, Fin.isValue, ab_f0, ab_f1, ab_f2, ab_f3, List.getElem?_cons_zero, List.getElem?_cons_succ, List.set_cons_zero, List.set_cons_succ, List.length_cons, List.length_nil, List.size_toArray, List.head?_cons, List.tail_cons, Option.map_some, cond_true, cond_false, true_and, and_true, false_and, and_false, not_true_eq_false, not_false_eq_true, true_imp_iff, false_imp_iff, if_true, if_false, ite_true, ite_false, ↓reduceIte, Nat.reduceAdd, Nat.reduceEqDiff, Nat.reduceLeDiff, Nat.reduceLT, Nat.reduceBEq, Nat.reduceBNe, Int.reduceAdd, Int.reduceNeg, Int.reduceSub, Int.reduceLE, Int.reduceLT, Int.reduceToNat, Int.reduceEq, Int.reduceMul, Int.cast_ofNat_Int, Nat.zero_add, Nat.add_zero, Nat.le_refl, eq_self, ne_eq, reduceCtorEq, or_true, true_or, or_false, false_or, Bool.or_true, Bool.or_false, Bool.true_or, Bool.false_or, Nat.zero_le, Int.le_refl, Int.ofNat_zero, Int.ofNat_one, Bool.false_eq_true]
    try simp only [ab_in] at hs ⊢
    (repeat' (first | intro _ | refine And.intro ?_ ?_)) <;> (first | exact hK | contradiction | omega | (exfalso; omega))
  · exact hT.elim
set_option maxRecDepth 100000 in
theorem con_X4_dayTold (l : Launch) (D : va_G) (ty : Nat → ClassId) (base : Nat) : ab_Con l D vwCl ty lw_ts base lw_wd yX4_dayTold cX4_dayTold 2 (some .int) 0 0 0 0 Tr_X4_dayTold :=
  ab_con_of (own := RX4) (rt := 1) (tb := tbX4) (ini := false) (ca := ca_X4_dayTold) (by decide +kernel) rfl (fun h => by cases h) rfl lw_wd_ok wtbX4 lw_ar cm_X4_dayTold
    (fun p e R s m args below meth c K hcx => by
      obtain ⟨hx, hb, hml, hown, hF, rfl⟩ := hcx
      exact ab_lk_all (ab_all_n))
    (by intro as h K ht; unfold Tr_X4_dayTold at ht; split at ht <;> first | exact ht.elim | exact Nat.le_of_ble_eq_true rfl) (sem_X4_dayTold base)
noncomputable def Tr_X4_placeTold : ATr := fun as h K => match as with
  | [.inr (.inl (some a)), .inl x, .inl y, .inl what] => ab_so (ab_md h a) fun P => (bareV P.2 ∧ ((0 ≤ x ∧ x < 12 ∧ 0 ≤ y ∧ y < 8) ∧ 0 ≤ what ∧ what ≤ 2)) ∧ K (some (.inl (if what = 0 then -1 else 0))) h
  | _ => False
theorem mo_X4_placeTold : ab_mo Tr_X4_placeTold := by
  intro as h K K' hk ht
  unfold Tr_X4_placeTold at ht ⊢
  split at ht
  · exact ab_so_mo (fun P q => ⟨q.1, hk _ _ q.2⟩) ht
  · exact ht.elim
def ca_X4_placeTold : Nat → Option ACS := ab_lk [(48, (0, 4, 3, 0, 0, Tr_X4_slateAt)), (109, (0, 4, 3, 0, 0, Tr_X4_isCovered))]
theorem ca_X4_placeTold_48 : ca_X4_placeTold 48 = some (0, 4, 3, 0, 0, Tr_X4_slateAt) := rfl
theorem ca_X4_placeTold_109 : ca_X4_placeTold 109 = some (0, 4, 3, 0, 0, Tr_X4_isCovered) := rfl
theorem cm_X4_placeTold : ∀ i q, ca_X4_placeTold i = some q → ab_moq i q := ab_lk_all (ab_all_c mo_X4_slateAt (ab_all_c mo_X4_isCovered (ab_all_n)))
set_option maxRecDepth 100000 in
set_option maxHeartbeats 4000000 in
theorem sem_X4_placeTold (base : Nat) : ab_Sem tbX4 lw_ts base cX4_placeTold ca_X4_placeTold 1 4 0 0 (fun as => ab_en as 4) Tr_X4_placeTold := by
  intro as h K hT V hV
  unfold Tr_X4_placeTold at hT
  split at hT
  · rename_i a x y what
    obtain ⟨⟨⟨b0, b1, b2, b3, b4, b5⟩, th, sl, f0, f1, f2, f3, f4, f5⟩, hP, ⟨hb, hs⟩, hK⟩ := ab_so_el hT
    obtain ⟨g0, g1, g2, g3, g4, g5⟩ := id hb
    dsimp only [MV.thr, MV.sl, MV.fst9, MV.fat, MV.frt, MV.ftb, MV.fnm, MV.fmk] at g0 g1 g2 g3 g4 g5 hK hs
    subst g0
    have hm := md_el hP
    obtain ⟨c, c0, c1, c2, c3, c4, c5, -⟩ := id hm
    dsimp only [mdC, MV.thr, MV.sl, MV.fst9, MV.fat, MV.frt, MV.ftb, MV.fnm, MV.fmk] at c c0 c1 c2 c3 c4 c5
    show V 0 [some (.inr (.inl (some a))), some (.inl x), some (.inl y), some (.inl what)] [] h 0 0
    have k0 : what = 0 → K (some (.inl (-1))) h := fun q => by rw [if_pos q] at hK; exact hK
    have k1 : ¬ what = 0 → K (some (.inl 0)) h := fun q => by rw [if_neg q] at hK; exact hK
    have hv := g2 (12 * y + x) (by omega) (by omega)
    refine hV (fun _ => false) 80 _ _ _ _ _ _ ?_
    simp only [c, c2, hv, hP, hb, bI_in, bI_0, bI_1, bI_t, bI_f, bI_01, Tr_X4_slateAt, Tr_X4_isCovered, ae_aload_n, ae_bipush, ae_getfield, ae_goto, ae_iadd, ae_iaload, ae_iconst, ae_ifCond, ae_if_icmp, ae_iload_n, ae_imul, ae_invokevirtual, ae_ireturn, dX4_placeTold_0, dX4_placeTold_1, dX4_placeTold_4, dX4_placeTold_5, dX4_placeTold_6, dX4_placeTold_7, dX4_placeTold_10, dX4_placeTold_13, dX4_placeTold_14, dX4_placeTold_15, dX4_placeTold_18, dX4_placeTold_19, dX4_placeTold_22, dX4_placeTold_24, dX4_placeTold_25, dX4_placeTold_26, dX4_placeTold_27, dX4_placeTold_28, dX4_placeTold_29, dX4_placeTold_32, dX4_placeTold_33, dX4_placeTold_34, dX4_placeTold_35, dX4_placeTold_38, dX4_placeTold_41, dX4_placeTold_42, dX4_placeTold_45, dX4_placeTold_46, tbX4_g16, ca_X4_placeTold_48, ca_X4_placeTold_109, ab_wp0, ab_wps, ab_stp, ab_g, ab_st, ab_k2, ab_cl, ab_pop, ab_sz, ab_2, ab_ret, ab_f4, ab_tg, ab_I, ab_II, ab_A, ab_Rf, ab_VR, ab_IR, ab_VIR, ab_1, ab_LL, ab_DD, ab_ob, ab_pr, ab_qr, ab_ln, ab_so, ab_vI, ab_vA, ab_vD, ab_vL, ab_v2, ab_c, ab_fit, ab_rv, ab_tsw, ab_lsw, ab_up_eq, Fin.isValue, ab_f0, ab_f1, ab_f2, ab_f3, List.getElem?_cons_zero, List.getElem?_cons_succ, List.set_cons_zero, List.set_cons_succ, List.length_cons, List.length_nil, List.size_toArray, List.head?_cons, List.tail_cons, Option.map_some, cond_true, cond_false, true_and, and_true, false_and, and_false, not_true_eq_false, not_false_eq_true, true_imp_iff, false_imp_iff, if_true, if_false, ite_true, ite_false, ↓reduceIte, Nat.reduceAdd, Nat.reduceEqDiff, Nat.reduceLeDiff, Nat.reduceLT, Nat.reduceBEq, Nat.reduceBNe, Int.reduceAdd, Int.reduceNeg, Int.reduceSub, Int.reduceLE, Int.reduceLT, Int.reduceToNat, Int.reduceEq, Int.reduceMul, Int.cast_ofNat_Int, Nat.zero_add, Nat.add_zero, Nat.le_refl, eq_self, ne_eq, reduceCtorEq, or_true, true_or, or_false, false_or, Bool.or_true, Bool.or_false, Bool.true_or, Bool.false_or, Nat.zero_le, Int.le_refl, Int.ofNat_zero, Int.ofNat_one, Bool.false_eq_true]
    try simp only [ab_in] at hs ⊢
    (repeat' (first | intro _ | refine And.intro ?_ ?_)) <;> (first | exact k0 (by omega) | exact k1 (by omega) | contradiction | omega | (exfalso; omega))
  · exact hT.elim
set_option maxRecDepth 100000 in
theorem con_X4_placeTold (l : Launch) (D : va_G) (ty : Nat → ClassId) (base : Nat) : ab_Con l D vwCl ty lw_ts base lw_wd yX4_placeTold cX4_placeTold 4 (some .int) 5 109 0 0 Tr_X4_placeTold :=
  ab_con_of (own := RX4) (rt := 1) (tb := tbX4) (ini := false) (ca := ca_X4_placeTold) (by decide +kernel) rfl (fun h => by cases h) rfl lw_wd_ok wtbX4 lw_ar cm_X4_placeTold
    (fun p e R s m args below meth c K hcx => by
      obtain ⟨hx, hb, hml, hown, hF, rfl⟩ := hcx
      exact ab_lk_all (ab_all_c (ab_tc_V hx hb hml hown lw_wd_ok hF ⟨rfl, rfl⟩ (con_X4_slateAt l D ty base) rfl (lw_wi (by decide +kernel) (by decide +kernel)) (lw_wi (by decide +kernel) (by decide +kernel)) (lw_wi (by decide +kernel) (by decide +kernel)) (lw_wi (by decide +kernel) (by decide +kernel)) (lw_wi (by decide +kernel) (by decide +kernel)) (by decide +kernel) ⟨by decide, by decide⟩) (ab_all_c (ab_tc_V hx hb hml hown lw_wd_ok hF ⟨rfl, rfl⟩ (con_X4_isCovered l D ty base) rfl (lw_wi (by decide +kernel) (by decide +kernel)) (lw_wi (by decide +kernel) (by decide +kernel)) (lw_wi (by decide +kernel) (by decide +kernel)) (lw_wi (by decide +kernel) (by decide +kernel)) (lw_wi (by decide +kernel) (by decide +kernel)) (by decide +kernel) ⟨by decide, by decide⟩) (ab_all_n))))
    (by intro as h K ht; unfold Tr_X4_placeTold at ht; split at ht <;> first | exact ht.elim | exact Nat.le_of_ble_eq_true rfl) (sem_X4_placeTold base)
theorem tdiv2_r {a : Int} (h : 0 ≤ a ∧ a ≤ 18) : 0 ≤ Int.tdiv a 2 ∧ Int.tdiv a 2 ≤ 9 := by
  rw [Int.tdiv_eq_ediv_of_nonneg h.1]
  omega
theorem cF_r {rain : Int} (h : 0 ≤ rain ∧ rain ≤ 9) : ∀ (n : Nat) (acc : Int), 0 ≤ acc ∧ acc ≤ 18 → 0 ≤ cF rain n acc ∧ cF rain n acc ≤ 18 := by
  intro n
  induction n with
  | zero => intro acc h1; exact h1
  | succ n ih =>
    intro acc h1
    have h2 := tdiv2_r h1
    exact ih _ (by omega)
theorem cF_0 : ∀ (n : Nat), cF 0 n 0 = 0 := by
  intro n
  induction n with
  | zero => rfl
  | succ n ih => exact ih
noncomputable def Tr_X4_comesIn : ATr := fun as h K => match as with
  | [.inr (.inl (some a)), .inl rain, .inl x, .inl y] => ab_so (ab_md h a) fun P => (bareV P.2 ∧ ((0 ≤ rain ∧ rain ≤ 9) ∧ (0 ≤ x ∧ x < 12) ∧ 0 ≤ y ∧ y < 8)) ∧ K (some (.inl (cF rain (8 - y).toNat 0))) h
  | _ => False
theorem mo_X4_comesIn : ab_mo Tr_X4_comesIn := by
  intro as h K K' hk ht
  unfold Tr_X4_comesIn at ht ⊢
  split at ht
  · exact ab_so_mo (fun P q => ⟨q.1, hk _ _ q.2⟩) ht
  · exact ht.elim
def ca_X4_comesIn : Nat → Option ACS := ab_lk [(109, (0, 4, 3, 0, 0, Tr_X4_isCovered))]
theorem ca_X4_comesIn_109 : ca_X4_comesIn 109 = some (0, 4, 3, 0, 0, Tr_X4_isCovered) := rfl
theorem cm_X4_comesIn : ∀ i q, ca_X4_comesIn i = some q → ab_moq i q := ab_lk_all (ab_all_c mo_X4_isCovered (ab_all_n))
set_option maxRecDepth 100000 in
set_option maxHeartbeats 4000000 in
theorem sem_X4_comesIn (base : Nat) : ab_Sem tbX4 lw_ts base cX4_comesIn ca_X4_comesIn 1 6 0 0 (fun as => ab_en as 6) Tr_X4_comesIn := by
  intro as h K hT V hV
  unfold Tr_X4_comesIn at hT
  split at hT
  · rename_i a rain x y
    obtain ⟨⟨⟨b0, b1, b2, b3, b4, b5⟩, th, sl, f0, f1, f2, f3, f4, f5⟩, hP, ⟨hb, hs⟩, hK⟩ := ab_so_el hT
    obtain ⟨g0, g1, g2, g3, g4, g5⟩ := id hb
    dsimp only [MV.thr, MV.sl, MV.fst9, MV.fat, MV.frt, MV.ftb, MV.fnm, MV.fmk] at g0 g1 g2 g3 g4 g5 hK hs
    subst g0
    have hm := md_el hP
    obtain ⟨c, c0, c1, c2, c3, c4, c5, -⟩ := id hm
    dsimp only [mdC, MV.thr, MV.sl, MV.fst9, MV.fat, MV.frt, MV.ftb, MV.fnm, MV.fmk] at c c0 c1 c2 c3 c4 c5
    show V 0 [some (.inr (.inl (some a))), some (.inl rain), some (.inl x), some (.inl y), none, none] [] h 0 0
    have loop : ∀ (n : Nat) (row acc : Int), row + 1 = y + n → row ≤ 7 → (0 ≤ acc ∧ acc ≤ 18) → K (some (.inl (cF rain n acc))) h → V 7 [some (.inr (.inl (some a))), some (.inl rain), some (.inl x), some (.inl y), some (.inl acc), some (.inl row)] [] h 0 0 := by
      intro n
      induction n with
      | zero =>
        intro row acc e1 e2 e3 hK
        simp only [cF] at hK
        refine hV (fun _ => false) 80 _ _ _ _ _ _ ?_
        simp only [ae_aload_n, ae_bipush, ae_goto, ae_iadd, ae_iconst, ae_idiv, ae_ifCond, ae_if_icmp, ae_iinc, ae_iload, ae_iload_n, ae_invokevirtual, ae_ireturn, ae_istore, dX4_comesIn_0, dX4_comesIn_1, dX4_comesIn_3, dX4_comesIn_5, dX4_comesIn_7, dX4_comesIn_9, dX4_comesIn_10, dX4_comesIn_13, dX4_comesIn_14, dX4_comesIn_15, dX4_comesIn_17, dX4_comesIn_20, dX4_comesIn_23, dX4_comesIn_24, dX4_comesIn_27, dX4_comesIn_28, dX4_comesIn_30, dX4_comesIn_31, dX4_comesIn_32, dX4_comesIn_33, dX4_comesIn_35, dX4_comesIn_38, dX4_comesIn_41, dX4_comesIn_43, ca_X4_comesIn_109, ab_wp0, ab_wps, ab_stp, ab_g, ab_st, ab_k2, ab_cl, ab_pop, ab_sz, ab_2, ab_ret, ab_f4, ab_tg, ab_I, ab_II, ab_A, ab_Rf, ab_VR, ab_IR, ab_VIR, ab_1, ab_LL, ab_DD, ab_ob, ab_pr, ab_qr, ab_ln, ab_so, ab_vI, ab_vA, ab_vD, ab_vL, ab_v2, ab_c, ab_fit, ab_rv, ab_tsw, ab_lsw, ab_up_eq, Fin.isValue, ab_f0, ab_f1, ab_f2, ab_f3, List.getElem?_cons_zero, List.getElem?_cons_succ, List.set_cons_zero, List.set_cons_succ, List.length_cons, List.length_nil, List.size_toArray, List.head?_cons, List.tail_cons, Option.map_some, cond_true, cond_false, true_and, and_true, false_and, and_false, not_true_eq_false, not_false_eq_true, true_imp_iff, false_imp_iff, if_true, if_false, ite_true, ite_false, ↓reduceIte, Nat.reduceAdd, Nat.reduceEqDiff, Nat.reduceLeDiff, Nat.reduceLT, Nat.reduceBEq, Nat.reduceBNe, Int.reduceAdd, Int.reduceNeg, Int.reduceSub, Int.reduceLE, Int.reduceLT, Int.reduceToNat, Int.reduceEq, Int.reduceMul, Int.cast_ofNat_Int, Nat.zero_add, Nat.add_zero, Nat.le_refl, eq_self, ne_eq, reduceCtorEq, or_true, true_or, or_false, false_or, Bool.or_true, Bool.or_false, Bool.true_or, Bool.false_or, Nat.zero_le, Int.le_refl, Int.ofNat_zero, Int.ofNat_one, Bool.false_eq_true]
        simp only [ab_in]
        (repeat' (first | intro _ | refine And.intro ?_ ?_)) <;> (first | exact hK | contradiction | omega | (exfalso; omega))
      | succ n ih =>
        intro row acc e1 e2 e3 hK
        simp only [cF] at hK
        have ht := tdiv2_r e3
        have ih' := ih (row + -1) (rain + Int.tdiv acc 2) (by omega) (by omega) (by omega) hK
        have l13 : V 13 [some (.inr (.inl (some a))), some (.inl rain), some (.inl x), some (.inl y), some (.inl acc), some (.inl row)] [] h 0 0 := by
          refine hV (fun p => p == 7) 80 _ _ _ _ _ _ ?_
          simp only [c, hP, hb, bI_in, bI_0, bI_1, bI_t, bI_f, bI_01, Tr_X4_isCovered, ae_aload_n, ae_goto, ae_iadd, ae_iconst, ae_idiv, ae_ifCond, ae_iinc, ae_iload, ae_iload_n, ae_invokevirtual, ae_istore, dX4_comesIn_13, dX4_comesIn_14, dX4_comesIn_15, dX4_comesIn_17, dX4_comesIn_20, dX4_comesIn_23, dX4_comesIn_24, dX4_comesIn_27, dX4_comesIn_28, dX4_comesIn_30, dX4_comesIn_31, dX4_comesIn_32, dX4_comesIn_33, dX4_comesIn_35, dX4_comesIn_38, ca_X4_comesIn_109, ab_wp0, ab_wps, ab_stp, ab_g, ab_st, ab_k2, ab_cl, ab_pop, ab_sz, ab_2, ab_ret, ab_f4, ab_tg, ab_I, ab_II, ab_A, ab_Rf, ab_VR, ab_IR, ab_VIR, ab_1, ab_LL, ab_DD, ab_ob, ab_pr, ab_qr, ab_ln, ab_so, ab_vI, ab_vA, ab_vD, ab_vL, ab_v2, ab_c, ab_fit, ab_rv, ab_tsw, ab_lsw, ab_up_eq, Fin.isValue, ab_f0, ab_f1, ab_f2, ab_f3, List.getElem?_cons_zero, List.getElem?_cons_succ, List.set_cons_zero, List.set_cons_succ, List.length_cons, List.length_nil, List.size_toArray, List.head?_cons, List.tail_cons, Option.map_some, cond_true, cond_false, true_and, and_true, false_and, and_false, not_true_eq_false, not_false_eq_true, true_imp_iff, false_imp_iff, if_true, if_false, ite_true, ite_false, ↓reduceIte, Nat.reduceAdd, Nat.reduceEqDiff, Nat.reduceLeDiff, Nat.reduceLT, Nat.reduceBEq, Nat.reduceBNe, Int.reduceAdd, Int.reduceNeg, Int.reduceSub, Int.reduceLE, Int.reduceLT, Int.reduceToNat, Int.reduceEq, Int.reduceMul, Int.cast_ofNat_Int, Nat.zero_add, Nat.add_zero, Nat.le_refl, eq_self, ne_eq, reduceCtorEq, or_true, true_or, or_false, false_or, Bool.or_true, Bool.or_false, Bool.true_or, Bool.false_or, Nat.zero_le, Int.le_refl, Int.ofNat_zero, Int.ofNat_one, Bool.false_eq_true]
          simp only [ab_in]
          (repeat' (first | intro _ | refine And.intro ?_ ?_)) <;> (first | exact ih' | contradiction | omega | (exfalso; omega))
        refine hV (fun p => p == 13) 80 _ _ _ _ _ _ ?_
        simp only [ae_if_icmp, ae_iload, ae_iload_n, dX4_comesIn_7, dX4_comesIn_9, dX4_comesIn_10, ca_X4_comesIn_109, ab_wp0, ab_wps, ab_stp, ab_g, ab_st, ab_k2, ab_cl, ab_pop, ab_sz, ab_2, ab_ret, ab_f4, ab_tg, ab_I, ab_II, ab_A, ab_Rf, ab_VR, ab_IR, ab_VIR, ab_1, ab_LL, ab_DD, ab_ob, ab_pr, ab_qr, ab_ln, ab_so, ab_vI, ab_vA, ab_vD, ab_vL, ab_v2, ab_c, ab_fit, ab_rv, ab_tsw, ab_lsw, ab_up_eq, Fin.isValue, ab_f0, ab_f1, ab_f2, ab_f3, List.getElem?_cons_zero, List.getElem?_cons_succ, List.set_cons_zero, List.set_cons_succ, List.length_cons, List.length_nil, List.size_toArray, List.head?_cons, List.tail_cons, Option.map_some, cond_true, cond_false, true_and, and_true, false_and, and_false, not_true_eq_false, not_false_eq_true, true_imp_iff, false_imp_iff, if_true, if_false, ite_true, ite_false, ↓reduceIte, Nat.reduceAdd, Nat.reduceEqDiff, Nat.reduceLeDiff, Nat.reduceLT, Nat.reduceBEq, Nat.reduceBNe, Int.reduceAdd, Int.reduceNeg, Int.reduceSub, Int.reduceLE, Int.reduceLT, Int.reduceToNat, Int.reduceEq, Int.reduceMul, Int.cast_ofNat_Int, Nat.zero_add, Nat.add_zero, Nat.le_refl, eq_self, ne_eq, reduceCtorEq, or_true, true_or, or_false, false_or, Bool.or_true, Bool.or_false, Bool.true_or, Bool.false_or, Nat.zero_le, Int.le_refl, Int.ofNat_zero, Int.ofNat_one, Bool.false_eq_true]
        simp only [ab_in]
        (repeat' (first | intro _ | refine And.intro ?_ ?_)) <;> (first | exact l13 | contradiction | omega | (exfalso; omega))
    have l0 := loop (8 - y).toNat 7 0 (by omega) (by omega) (by omega) hK
    refine hV (fun p => p == 7) 80 _ _ _ _ _ _ ?_
    simp only [bI_in, bI_0, bI_1, bI_t, bI_f, bI_01, ae_bipush, ae_iconst, ae_istore, dX4_comesIn_0, dX4_comesIn_1, dX4_comesIn_3, dX4_comesIn_5, ca_X4_comesIn_109, ab_wp0, ab_wps, ab_stp, ab_g, ab_st, ab_k2, ab_cl, ab_pop, ab_sz, ab_2, ab_ret, ab_f4, ab_tg, ab_I, ab_II, ab_A, ab_Rf, ab_VR, ab_IR, ab_VIR, ab_1, ab_LL, ab_DD, ab_ob, ab_pr, ab_qr, ab_ln, ab_so, ab_vI, ab_vA, ab_vD, ab_vL, ab_v2, ab_c, ab_fit, ab_rv, ab_tsw, ab_lsw, ab_up_eq, Fin.isValue, ab_f0, ab_f1, ab_f2, ab_f3, List.getElem?_cons_zero, List.getElem?_cons_succ, List.set_cons_zero, List.set_cons_succ, List.length_cons, List.length_nil, List.size_toArray, List.head?_cons, List.tail_cons, Option.map_some, cond_true, cond_false, true_and, and_true, false_and, and_false, not_true_eq_false, not_false_eq_true, true_imp_iff, false_imp_iff, if_true, if_false, ite_true, ite_false, ↓reduceIte, Nat.reduceAdd, Nat.reduceEqDiff, Nat.reduceLeDiff, Nat.reduceLT, Nat.reduceBEq, Nat.reduceBNe, Int.reduceAdd, Int.reduceNeg, Int.reduceSub, Int.reduceLE, Int.reduceLT, Int.reduceToNat, Int.reduceEq, Int.reduceMul, Int.cast_ofNat_Int, Nat.zero_add, Nat.add_zero, Nat.le_refl, eq_self, ne_eq, reduceCtorEq, or_true, true_or, or_false, false_or, Bool.or_true, Bool.or_false, Bool.true_or, Bool.false_or, Nat.zero_le, Int.le_refl, Int.ofNat_zero, Int.ofNat_one, Bool.false_eq_true]
    try simp only [ab_in] at hs ⊢
    (repeat' (first | intro _ | refine And.intro ?_ ?_)) <;> (first | exact l0 | contradiction | omega | (exfalso; omega))
  · exact hT.elim
set_option maxRecDepth 100000 in
theorem con_X4_comesIn (l : Launch) (D : va_G) (ty : Nat → ClassId) (base : Nat) : ab_Con l D vwCl ty lw_ts base lw_wd yX4_comesIn cX4_comesIn 6 (some .int) 5 109 0 0 Tr_X4_comesIn :=
  ab_con_of (own := RX4) (rt := 1) (tb := tbX4) (ini := false) (ca := ca_X4_comesIn) (by decide +kernel) rfl (fun h => by cases h) rfl lw_wd_ok wtbX4 lw_ar cm_X4_comesIn
    (fun p e R s m args below meth c K hcx => by
      obtain ⟨hx, hb, hml, hown, hF, rfl⟩ := hcx
      exact ab_lk_all (ab_all_c (ab_tc_V hx hb hml hown lw_wd_ok hF ⟨rfl, rfl⟩ (con_X4_isCovered l D ty base) rfl (lw_wi (by decide +kernel) (by decide +kernel)) (lw_wi (by decide +kernel) (by decide +kernel)) (lw_wi (by decide +kernel) (by decide +kernel)) (lw_wi (by decide +kernel) (by decide +kernel)) (lw_wi (by decide +kernel) (by decide +kernel)) (by decide +kernel) ⟨by decide, by decide⟩) (ab_all_n)))
    (by intro as h K ht; unfold Tr_X4_comesIn at ht; split at ht <;> first | exact ht.elim | exact Nat.le_of_ble_eq_true rfl) (sem_X4_comesIn base)
noncomputable def Tr_X4_allIn : ATr := fun as h K => match as with
  | [.inr (.inl (some a)), .inl rain] => ab_so (ab_md h a) fun P => (bareV P.2 ∧ (0 ≤ rain ∧ rain ≤ 9)) ∧ K (some (.inl (allIF rain))) h
  | _ => False
theorem mo_X4_allIn : ab_mo Tr_X4_allIn := by
  intro as h K K' hk ht
  unfold Tr_X4_allIn at ht ⊢
  split at ht
  · exact ab_so_mo (fun P q => ⟨q.1, hk _ _ q.2⟩) ht
  · exact ht.elim
def ca_X4_allIn : Nat → Option ACS := ab_lk [(155, (0, 4, 4, 0, 0, Tr_X4_comesIn))]
theorem ca_X4_allIn_155 : ca_X4_allIn 155 = some (0, 4, 4, 0, 0, Tr_X4_comesIn) := rfl
theorem cm_X4_allIn : ∀ i q, ca_X4_allIn i = some q → ab_moq i q := ab_lk_all (ab_all_c mo_X4_comesIn (ab_all_n))
set_option maxRecDepth 100000 in
set_option maxHeartbeats 4000000 in
theorem sem_X4_allIn (base : Nat) : ab_Sem tbX4 lw_ts base cX4_allIn ca_X4_allIn 1 4 0 0 (fun as => ab_en as 4) Tr_X4_allIn := by
  intro as h K hT V hV
  unfold Tr_X4_allIn at hT
  split at hT
  · rename_i a rain
    obtain ⟨⟨⟨b0, b1, b2, b3, b4, b5⟩, th, sl, f0, f1, f2, f3, f4, f5⟩, hP, ⟨hb, hs⟩, hK⟩ := ab_so_el hT
    obtain ⟨g0, g1, g2, g3, g4, g5⟩ := id hb
    dsimp only [MV.thr, MV.sl, MV.fst9, MV.fat, MV.frt, MV.ftb, MV.fnm, MV.fmk] at g0 g1 g2 g3 g4 g5 hK hs
    subst g0
    have hm := md_el hP
    obtain ⟨c, c0, c1, c2, c3, c4, c5, -⟩ := id hm
    dsimp only [mdC, MV.thr, MV.sl, MV.fst9, MV.fat, MV.frt, MV.ftb, MV.fnm, MV.fmk] at c c0 c1 c2 c3 c4 c5
    show V 0 [some (.inr (.inl (some a))), some (.inl rain), none, none] [] h 0 0
    have loop : ∀ (n : Nat) (k s : Int), k + n = 96 → 0 ≤ k → (0 ≤ s ∧ s ≤ 18 * k) → K (some (.inl (s + sumR (fun k => cF rain (8 - k / 12).toNat 0) n k))) h → V 4 [some (.inr (.inl (some a))), some (.inl rain), some (.inl s), some (.inl k)] [] h 0 0 := by
      intro n
      induction n with
      | zero =>
        intro k s e1 e2 e3 hK
        simp only [sumR, Int.add_zero] at hK
        refine hV (fun _ => false) 80 _ _ _ _ _ _ ?_
        simp only [ae_aload_n, ae_bipush, ae_goto, ae_iadd, ae_iconst, ae_idiv, ae_if_icmp, ae_iinc, ae_iload_n, ae_invokevirtual, ae_irem, ae_ireturn, ae_istore_n, dX4_allIn_0, dX4_allIn_1, dX4_allIn_2, dX4_allIn_3, dX4_allIn_4, dX4_allIn_5, dX4_allIn_7, dX4_allIn_10, dX4_allIn_11, dX4_allIn_12, dX4_allIn_13, dX4_allIn_14, dX4_allIn_16, dX4_allIn_17, dX4_allIn_18, dX4_allIn_20, dX4_allIn_21, dX4_allIn_24, dX4_allIn_25, dX4_allIn_26, dX4_allIn_29, dX4_allIn_32, dX4_allIn_33, ca_X4_allIn_155, ab_wp0, ab_wps, ab_stp, ab_g, ab_st, ab_k2, ab_cl, ab_pop, ab_sz, ab_2, ab_ret, ab_f4, ab_tg, ab_I, ab_II, ab_A, ab_Rf, ab_VR, ab_IR, ab_VIR, ab_1, ab_LL, ab_DD, ab_ob, ab_pr, ab_qr, ab_ln, ab_so, ab_vI, ab_vA, ab_vD, ab_vL, ab_v2, ab_c, ab_fit, ab_rv, ab_tsw, ab_lsw, ab_up_eq, Fin.isValue, ab_f0, ab_f1, ab_f2, ab_f3, List.getElem?_cons_zero, List.getElem?_cons_succ, List.set_cons_zero, List.set_cons_succ, List.length_cons, List.length_nil, List.size_toArray, List.head?_cons, List.tail_cons, Option.map_some, cond_true, cond_false, true_and, and_true, false_and, and_false, not_true_eq_false, not_false_eq_true, true_imp_iff, false_imp_iff, if_true, if_false, ite_true, ite_false, ↓reduceIte, Nat.reduceAdd, Nat.reduceEqDiff, Nat.reduceLeDiff, Nat.reduceLT, Nat.reduceBEq, Nat.reduceBNe, Int.reduceAdd, Int.reduceNeg, Int.reduceSub, Int.reduceLE, Int.reduceLT, Int.reduceToNat, Int.reduceEq, Int.reduceMul, Int.cast_ofNat_Int, Nat.zero_add, Nat.add_zero, Nat.le_refl, eq_self, ne_eq, reduceCtorEq, or_true, true_or, or_false, false_or, Bool.or_true, Bool.or_false, Bool.true_or, Bool.false_or, Nat.zero_le, Int.le_refl, Int.ofNat_zero, Int.ofNat_one, Bool.false_eq_true]
        simp only [ab_in]
        (repeat' (first | intro _ | refine And.intro ?_ ?_)) <;> (first | exact hK | contradiction | omega | (exfalso; omega))
      | succ n ih =>
        intro k s e1 e2 e3 hK
        have t1 : Int.tmod k 12 = k % 12 := Int.tmod_eq_emod_of_nonneg e2
        have t2 : Int.tdiv k 12 = k / 12 := Int.tdiv_eq_ediv_of_nonneg e2
        have hr := cF_r hs (8 - k / 12).toNat 0 (by omega)
        have ih' := ih (k + 1) (s + cF rain (8 - k / 12).toNat 0) (by omega) (by omega) (by omega) (by rw [Int.add_assoc]; exact hK)
        have l10 : V 10 [some (.inr (.inl (some a))), some (.inl rain), some (.inl s), some (.inl k)] [] h 0 0 := by
          refine hV (fun p => p == 4) 80 _ _ _ _ _ _ ?_
          simp only [c, hP, hb, t1, t2, bI_in, bI_0, bI_1, bI_t, bI_f, bI_01, Tr_X4_comesIn, ae_aload_n, ae_bipush, ae_goto, ae_iadd, ae_idiv, ae_iinc, ae_iload_n, ae_invokevirtual, ae_irem, ae_istore_n, dX4_allIn_10, dX4_allIn_11, dX4_allIn_12, dX4_allIn_13, dX4_allIn_14, dX4_allIn_16, dX4_allIn_17, dX4_allIn_18, dX4_allIn_20, dX4_allIn_21, dX4_allIn_24, dX4_allIn_25, dX4_allIn_26, dX4_allIn_29, ca_X4_allIn_155, ab_wp0, ab_wps, ab_stp, ab_g, ab_st, ab_k2, ab_cl, ab_pop, ab_sz, ab_2, ab_ret, ab_f4, ab_tg, ab_I, ab_II, ab_A, ab_Rf, ab_VR, ab_IR, ab_VIR, ab_1, ab_LL, ab_DD, ab_ob, ab_pr, ab_qr, ab_ln, ab_so, ab_vI, ab_vA, ab_vD, ab_vL, ab_v2, ab_c, ab_fit, ab_rv, ab_tsw, ab_lsw, ab_up_eq, Fin.isValue, ab_f0, ab_f1, ab_f2, ab_f3, List.getElem?_cons_zero, List.getElem?_cons_succ, List.set_cons_zero, List.set_cons_succ, List.length_cons, List.length_nil, List.size_toArray, List.head?_cons, List.tail_cons, Option.map_some, cond_true, cond_false, true_and, and_true, false_and, and_false, not_true_eq_false, not_false_eq_true, true_imp_iff, false_imp_iff, if_true, if_false, ite_true, ite_false, ↓reduceIte, Nat.reduceAdd, Nat.reduceEqDiff, Nat.reduceLeDiff, Nat.reduceLT, Nat.reduceBEq, Nat.reduceBNe, Int.reduceAdd, Int.reduceNeg, Int.reduceSub, Int.reduceLE, Int.reduceLT, Int.reduceToNat, Int.reduceEq, Int.reduceMul, Int.cast_ofNat_Int, Nat.zero_add, Nat.add_zero, Nat.le_refl, eq_self, ne_eq, reduceCtorEq, or_true, true_or, or_false, false_or, Bool.or_true, Bool.or_false, Bool.true_or, Bool.false_or, Nat.zero_le, Int.le_refl, Int.ofNat_zero, Int.ofNat_one, Bool.false_eq_true]
          simp only [ab_in]
          (repeat' (first | intro _ | refine And.intro ?_ ?_)) <;> (first | exact ih' | contradiction | omega | (exfalso; omega))
        refine hV (fun p => p == 10) 80 _ _ _ _ _ _ ?_
        simp only [ae_bipush, ae_if_icmp, ae_iload_n, dX4_allIn_4, dX4_allIn_5, dX4_allIn_7, ca_X4_allIn_155, ab_wp0, ab_wps, ab_stp, ab_g, ab_st, ab_k2, ab_cl, ab_pop, ab_sz, ab_2, ab_ret, ab_f4, ab_tg, ab_I, ab_II, ab_A, ab_Rf, ab_VR, ab_IR, ab_VIR, ab_1, ab_LL, ab_DD, ab_ob, ab_pr, ab_qr, ab_ln, ab_so, ab_vI, ab_vA, ab_vD, ab_vL, ab_v2, ab_c, ab_fit, ab_rv, ab_tsw, ab_lsw, ab_up_eq, Fin.isValue, ab_f0, ab_f1, ab_f2, ab_f3, List.getElem?_cons_zero, List.getElem?_cons_succ, List.set_cons_zero, List.set_cons_succ, List.length_cons, List.length_nil, List.size_toArray, List.head?_cons, List.tail_cons, Option.map_some, cond_true, cond_false, true_and, and_true, false_and, and_false, not_true_eq_false, not_false_eq_true, true_imp_iff, false_imp_iff, if_true, if_false, ite_true, ite_false, ↓reduceIte, Nat.reduceAdd, Nat.reduceEqDiff, Nat.reduceLeDiff, Nat.reduceLT, Nat.reduceBEq, Nat.reduceBNe, Int.reduceAdd, Int.reduceNeg, Int.reduceSub, Int.reduceLE, Int.reduceLT, Int.reduceToNat, Int.reduceEq, Int.reduceMul, Int.cast_ofNat_Int, Nat.zero_add, Nat.add_zero, Nat.le_refl, eq_self, ne_eq, reduceCtorEq, or_true, true_or, or_false, false_or, Bool.or_true, Bool.or_false, Bool.true_or, Bool.false_or, Nat.zero_le, Int.le_refl, Int.ofNat_zero, Int.ofNat_one, Bool.false_eq_true]
        simp only [ab_in]
        (repeat' (first | intro _ | refine And.intro ?_ ?_)) <;> (first | exact l10 | contradiction | omega | (exfalso; omega))
    have l0 := loop 96 0 0 (by omega) (by omega) (by omega) (by rw [Int.zero_add]; exact hK)
    refine hV (fun p => p == 4) 80 _ _ _ _ _ _ ?_
    simp only [bI_in, bI_0, bI_1, bI_t, bI_f, bI_01, ae_iconst, ae_istore_n, dX4_allIn_0, dX4_allIn_1, dX4_allIn_2, dX4_allIn_3, ca_X4_allIn_155, ab_wp0, ab_wps, ab_stp, ab_g, ab_st, ab_k2, ab_cl, ab_pop, ab_sz, ab_2, ab_ret, ab_f4, ab_tg, ab_I, ab_II, ab_A, ab_Rf, ab_VR, ab_IR, ab_VIR, ab_1, ab_LL, ab_DD, ab_ob, ab_pr, ab_qr, ab_ln, ab_so, ab_vI, ab_vA, ab_vD, ab_vL, ab_v2, ab_c, ab_fit, ab_rv, ab_tsw, ab_lsw, ab_up_eq, Fin.isValue, ab_f0, ab_f1, ab_f2, ab_f3, List.getElem?_cons_zero, List.getElem?_cons_succ, List.set_cons_zero, List.set_cons_succ, List.length_cons, List.length_nil, List.size_toArray, List.head?_cons, List.tail_cons, Option.map_some, cond_true, cond_false, true_and, and_true, false_and, and_false, not_true_eq_false, not_false_eq_true, true_imp_iff, false_imp_iff, if_true, if_false, ite_true, ite_false, ↓reduceIte, Nat.reduceAdd, Nat.reduceEqDiff, Nat.reduceLeDiff, Nat.reduceLT, Nat.reduceBEq, Nat.reduceBNe, Int.reduceAdd, Int.reduceNeg, Int.reduceSub, Int.reduceLE, Int.reduceLT, Int.reduceToNat, Int.reduceEq, Int.reduceMul, Int.cast_ofNat_Int, Nat.zero_add, Nat.add_zero, Nat.le_refl, eq_self, ne_eq, reduceCtorEq, or_true, true_or, or_false, false_or, Bool.or_true, Bool.or_false, Bool.true_or, Bool.false_or, Nat.zero_le, Int.le_refl, Int.ofNat_zero, Int.ofNat_one, Bool.false_eq_true]
    try simp only [ab_in] at hs ⊢
    (repeat' (first | intro _ | refine And.intro ?_ ?_)) <;> (first | exact l0 | contradiction | omega | (exfalso; omega))
  · exact hT.elim
set_option maxRecDepth 100000 in
theorem con_X4_allIn (l : Launch) (D : va_G) (ty : Nat → ClassId) (base : Nat) : ab_Con l D vwCl ty lw_ts base lw_wd yX4_allIn cX4_allIn 4 (some .int) 6 134 0 0 Tr_X4_allIn :=
  ab_con_of (own := RX4) (rt := 1) (tb := tbX4) (ini := false) (ca := ca_X4_allIn) (by decide +kernel) rfl (fun h => by cases h) rfl lw_wd_ok wtbX4 lw_ar cm_X4_allIn
    (fun p e R s m args below meth c K hcx => by
      obtain ⟨hx, hb, hml, hown, hF, rfl⟩ := hcx
      exact ab_lk_all (ab_all_c (ab_tc_V hx hb hml hown lw_wd_ok hF ⟨rfl, rfl⟩ (con_X4_comesIn l D ty base) rfl (lw_wi (by decide +kernel) (by decide +kernel)) (lw_wi (by decide +kernel) (by decide +kernel)) (lw_wi (by decide +kernel) (by decide +kernel)) (lw_wi (by decide +kernel) (by decide +kernel)) (lw_wi (by decide +kernel) (by decide +kernel)) (by decide +kernel) ⟨by decide, by decide⟩) (ab_all_n)))
    (by intro as h K ht; unfold Tr_X4_allIn at ht; split at ht <;> first | exact ht.elim | exact Nat.le_of_ble_eq_true rfl) (sem_X4_allIn base)
noncomputable def Tr_X4_hail : ATr := fun as h K => match as with
  | [.inr (.inl (some a)), .inl size] => ab_so (ab_md h a) fun P => (bareV P.2 ∧ (ab_in size)) ∧ K (none) h
  | _ => False
theorem mo_X4_hail : ab_mo Tr_X4_hail := by
  intro as h K K' hk ht
  unfold Tr_X4_hail at ht ⊢
  split at ht
  · exact ab_so_mo (fun P q => ⟨q.1, hk _ _ q.2⟩) ht
  · exact ht.elim
def ca_X4_hail : Nat → Option ACS := ab_lk [(48, (0, 4, 3, 0, 0, Tr_X4_slateAt))]
theorem ca_X4_hail_48 : ca_X4_hail 48 = some (0, 4, 3, 0, 0, Tr_X4_slateAt) := rfl
theorem cm_X4_hail : ∀ i q, ca_X4_hail i = some q → ab_moq i q := ab_lk_all (ab_all_c mo_X4_slateAt (ab_all_n))
set_option maxRecDepth 100000 in
set_option maxHeartbeats 4000000 in
theorem sem_X4_hail (base : Nat) : ab_Sem tbX4 lw_ts base cX4_hail ca_X4_hail 0 5 0 0 (fun as => ab_en as 5) Tr_X4_hail := by
  intro as h K hT V hV
  unfold Tr_X4_hail at hT
  split at hT
  · rename_i a size
    obtain ⟨⟨⟨b0, b1, b2, b3, b4, b5⟩, th, sl, f0, f1, f2, f3, f4, f5⟩, hP, ⟨hb, hs⟩, hK⟩ := ab_so_el hT
    obtain ⟨g0, g1, g2, g3, g4, g5⟩ := id hb
    dsimp only [MV.thr, MV.sl, MV.fst9, MV.fat, MV.frt, MV.ftb, MV.fnm, MV.fmk] at g0 g1 g2 g3 g4 g5 hK hs
    subst g0
    have hm := md_el hP
    obtain ⟨c, c0, c1, c2, c3, c4, c5, -⟩ := id hm
    dsimp only [mdC, MV.thr, MV.sl, MV.fst9, MV.fat, MV.frt, MV.ftb, MV.fnm, MV.fmk] at c c0 c1 c2 c3 c4 c5
    show V 0 [some (.inr (.inl (some a))), some (.inl size), none, none, none] [] h 0 0
    refine hV (fun p => p == 10) 80 _ _ _ _ _ _ ?_
    simp only [c, bI_in, bI_0, bI_1, bI_t, bI_f, bI_01, ae_aload_n, ae_getfield, ae_goto, ae_iadd, ae_iconst, ae_ifCond, ae_if_icmp, ae_iinc, ae_iload, ae_iload_n, ae_invokevirtual, ae_ior, ae_istore, ae_istore_n, ae_return_, dX4_hail_0, dX4_hail_1, dX4_hail_2, dX4_hail_3, dX4_hail_4, dX4_hail_7, dX4_hail_10, dX4_hail_11, dX4_hail_12, dX4_hail_15, dX4_hail_18, dX4_hail_19, dX4_hail_20, dX4_hail_21, dX4_hail_24, dX4_hail_25, dX4_hail_28, dX4_hail_29, dX4_hail_30, dX4_hail_31, dX4_hail_32, dX4_hail_35, dX4_hail_36, dX4_hail_37, dX4_hail_40, dX4_hail_43, dX4_hail_44, dX4_hail_45, dX4_hail_46, dX4_hail_47, dX4_hail_48, dX4_hail_51, dX4_hail_53, dX4_hail_55, dX4_hail_56, dX4_hail_57, dX4_hail_58, dX4_hail_61, dX4_hail_62, dX4_hail_63, dX4_hail_64, dX4_hail_67, dX4_hail_68, dX4_hail_71, dX4_hail_72, dX4_hail_73, dX4_hail_75, dX4_hail_76, dX4_hail_77, dX4_hail_78, dX4_hail_81, dX4_hail_82, dX4_hail_83, dX4_hail_86, dX4_hail_87, dX4_hail_90, dX4_hail_91, dX4_hail_94, dX4_hail_95, dX4_hail_96, dX4_hail_97, dX4_hail_100, dX4_hail_103, dX4_hail_104, dX4_hail_107, dX4_hail_108, dX4_hail_109, dX4_hail_110, dX4_hail_111, dX4_hail_114, dX4_hail_117, dX4_hail_120, tbX4_g33, ca_X4_hail_48, ab_wp0, ab_wps, ab_stp, ab_g, ab_st, ab_k2, ab_cl, ab_pop, ab_sz, ab_2, ab_ret, ab_f4, ab_tg, ab_I, ab_II, ab_A, ab_Rf, ab_VR, ab_IR, ab_VIR, ab_1, ab_LL, ab_DD, ab_ob, ab_pr, ab_qr, ab_ln, ab_so, ab_vI, ab_vA, ab_vD, ab_vL, ab_v2, ab_c, ab_fit, ab_rv, ab_tsw, ab_lsw, ab_up_eq, Fin.isValue, ab_f0, ab_f1, ab_f2, ab_f3, List.getElem?_cons_zero, List.getElem?_cons_succ, List.set_cons_zero, List.set_cons_succ, List.length_cons, List.length_nil, List.size_toArray, List.head?_cons, List.tail_cons, Option.map_some, cond_true, cond_false, true_and, and_true, false_and, and_false, not_true_eq_false, not_false_eq_true, true_imp_iff, false_imp_iff, if_true, if_false, ite_true, ite_false, ↓reduceIte, Nat.reduceAdd, Nat.reduceEqDiff, Nat.reduceLeDiff, Nat.reduceLT, Nat.reduceBEq, Nat.reduceBNe, Int.reduceAdd, Int.reduceNeg, Int.reduceSub, Int.reduceLE, Int.reduceLT, Int.reduceToNat, Int.reduceEq, Int.reduceMul, Int.cast_ofNat_Int, Nat.zero_add, Nat.add_zero, Nat.le_refl, eq_self, ne_eq, reduceCtorEq, or_true, true_or, or_false, false_or, Bool.or_true, Bool.or_false, Bool.true_or, Bool.false_or, Nat.zero_le, Int.le_refl, Int.ofNat_zero, Int.ofNat_one, Bool.false_eq_true]
    try simp only [ab_in] at hs ⊢
    (repeat' (first | intro _ | refine And.intro ?_ ?_)) <;> (first | exact hK | contradiction | omega | (exfalso; omega))
  · exact hT.elim
set_option maxRecDepth 100000 in
theorem con_X4_hail (l : Launch) (D : va_G) (ty : Nat → ClassId) (base : Nat) : ab_Con l D vwCl ty lw_ts base lw_wd yX4_hail cX4_hail 5 none 3 65 0 0 Tr_X4_hail :=
  ab_con_of (own := RX4) (rt := 0) (tb := tbX4) (ini := false) (ca := ca_X4_hail) (by decide +kernel) rfl (fun h => by cases h) rfl lw_wd_ok wtbX4 lw_ar cm_X4_hail
    (fun p e R s m args below meth c K hcx => by
      obtain ⟨hx, hb, hml, hown, hF, rfl⟩ := hcx
      exact ab_lk_all (ab_all_c (ab_tc_V hx hb hml hown lw_wd_ok hF ⟨rfl, rfl⟩ (con_X4_slateAt l D ty base) rfl (lw_wi (by decide +kernel) (by decide +kernel)) (lw_wi (by decide +kernel) (by decide +kernel)) (lw_wi (by decide +kernel) (by decide +kernel)) (lw_wi (by decide +kernel) (by decide +kernel)) (lw_wi (by decide +kernel) (by decide +kernel)) (by decide +kernel) ⟨by decide, by decide⟩) (ab_all_n)))
    (by intro as h K ht; unfold Tr_X4_hail at ht; split at ht <;> first | exact ht.elim | exact Nat.le_of_ble_eq_true rfl) (sem_X4_hail base)
noncomputable def Tr_X4_wet : ATr := fun as h K => match as with
  | [.inr (.inl (some a)), .inl rain] => ab_so (ab_md h a) fun P => (bareV P.2 ∧ (rain = 0)) ∧ K (none) h
  | _ => False
theorem mo_X4_wet : ab_mo Tr_X4_wet := by
  intro as h K K' hk ht
  unfold Tr_X4_wet at ht ⊢
  split at ht
  · exact ab_so_mo (fun P q => ⟨q.1, hk _ _ q.2⟩) ht
  · exact ht.elim
def ca_X4_wet : Nat → Option ACS := ab_lk [(155, (0, 4, 4, 0, 0, Tr_X4_comesIn)), (164, (2, 0, 2, 0, 0, Tr_J9_min_7cf53))]
theorem ca_X4_wet_155 : ca_X4_wet 155 = some (0, 4, 4, 0, 0, Tr_X4_comesIn) := rfl
theorem ca_X4_wet_164 : ca_X4_wet 164 = some (2, 0, 2, 0, 0, Tr_J9_min_7cf53) := rfl
theorem cm_X4_wet : ∀ i q, ca_X4_wet i = some q → ab_moq i q := ab_lk_all (ab_all_c mo_X4_comesIn (ab_all_c mo_J9_min_7cf53 (ab_all_n)))
set_option maxRecDepth 100000 in
set_option maxHeartbeats 4000000 in
theorem sem_X4_wet (base : Nat) : ab_Sem tbX4 lw_ts base cX4_wet ca_X4_wet 0 3 0 0 (fun as => ab_en as 3) Tr_X4_wet := by
  intro as h K hT V hV
  unfold Tr_X4_wet at hT
  split at hT
  · rename_i a rain
    obtain ⟨⟨⟨b0, b1, b2, b3, b4, b5⟩, th, sl, f0, f1, f2, f3, f4, f5⟩, hP, ⟨hb, hs⟩, hK⟩ := ab_so_el hT
    obtain ⟨g0, g1, g2, g3, g4, g5⟩ := id hb
    dsimp only [MV.thr, MV.sl, MV.fst9, MV.fat, MV.frt, MV.ftb, MV.fnm, MV.fmk] at g0 g1 g2 g3 g4 g5 hK hs
    subst g0
    have hm := md_el hP
    obtain ⟨c, c0, c1, c2, c3, c4, c5, -⟩ := id hm
    dsimp only [mdC, MV.thr, MV.sl, MV.fst9, MV.fat, MV.frt, MV.ftb, MV.fnm, MV.fmk] at c c0 c1 c2 c3 c4 c5
    show V 0 [some (.inr (.inl (some a))), some (.inl rain), none] [] h 0 0
    subst hs
    have loop : ∀ (n : Nat) (k : Int), k + n = 96 → 0 ≤ k → V 2 [some (.inr (.inl (some a))), some (.inl 0), some (.inl k)] [] h 0 0 := by
      intro n
      induction n with
      | zero =>
        intro k e1 e2
        refine hV (fun _ => false) 80 _ _ _ _ _ _ ?_
        simp only [ae_aload_n, ae_bipush, ae_getfield, ae_goto, ae_iadd, ae_iaload, ae_iastore, ae_iconst, ae_idiv, ae_if_icmp, ae_iinc, ae_iload_n, ae_invokestatic, ae_invokevirtual, ae_irem, ae_istore_n, ae_return_, dX4_wet_0, dX4_wet_1, dX4_wet_2, dX4_wet_3, dX4_wet_5, dX4_wet_8, dX4_wet_9, dX4_wet_10, dX4_wet_11, dX4_wet_13, dX4_wet_14, dX4_wet_15, dX4_wet_17, dX4_wet_18, dX4_wet_21, dX4_wet_23, dX4_wet_26, dX4_wet_27, dX4_wet_30, dX4_wet_31, dX4_wet_33, dX4_wet_34, dX4_wet_37, dX4_wet_38, dX4_wet_39, dX4_wet_40, dX4_wet_41, dX4_wet_44, dX4_wet_45, dX4_wet_48, dX4_wet_51, tbX4_g16, ca_X4_wet_155, ca_X4_wet_164, ab_wp0, ab_wps, ab_stp, ab_g, ab_st, ab_k2, ab_cl, ab_pop, ab_sz, ab_2, ab_ret, ab_f4, ab_tg, ab_I, ab_II, ab_A, ab_Rf, ab_VR, ab_IR, ab_VIR, ab_1, ab_LL, ab_DD, ab_ob, ab_pr, ab_qr, ab_ln, ab_so, ab_vI, ab_vA, ab_vD, ab_vL, ab_v2, ab_c, ab_fit, ab_rv, ab_tsw, ab_lsw, ab_up_eq, Fin.isValue, ab_f0, ab_f1, ab_f2, ab_f3, List.getElem?_cons_zero, List.getElem?_cons_succ, List.set_cons_zero, List.set_cons_succ, List.length_cons, List.length_nil, List.size_toArray, List.head?_cons, List.tail_cons, Option.map_some, cond_true, cond_false, true_and, and_true, false_and, and_false, not_true_eq_false, not_false_eq_true, true_imp_iff, false_imp_iff, if_true, if_false, ite_true, ite_false, ↓reduceIte, Nat.reduceAdd, Nat.reduceEqDiff, Nat.reduceLeDiff, Nat.reduceLT, Nat.reduceBEq, Nat.reduceBNe, Int.reduceAdd, Int.reduceNeg, Int.reduceSub, Int.reduceLE, Int.reduceLT, Int.reduceToNat, Int.reduceEq, Int.reduceMul, Int.cast_ofNat_Int, Nat.zero_add, Nat.add_zero, Nat.le_refl, eq_self, ne_eq, reduceCtorEq, or_true, true_or, or_false, false_or, Bool.or_true, Bool.or_false, Bool.true_or, Bool.false_or, Nat.zero_le, Int.le_refl, Int.ofNat_zero, Int.ofNat_one, Bool.false_eq_true]
        simp only [ab_in]
        (repeat' (first | intro _ | refine And.intro ?_ ?_)) <;> (first | exact hK | contradiction | omega | (exfalso; omega))
      | succ n ih =>
        intro k e1 e2
        have ih' := ih (k + 1) (by omega) (by omega)
        have t1 : Int.tmod k 12 = k % 12 := Int.tmod_eq_emod_of_nonneg e2
        have t2 : Int.tdiv k 12 = k / 12 := Int.tdiv_eq_ediv_of_nonneg e2
        have l8 : V 8 [some (.inr (.inl (some a))), some (.inl 0), some (.inl k)] [] h 0 0 := by
          refine hV (fun p => bif p == 2 then true else p == 26) 80 _ _ _ _ _ _ ?_
          simp only [c, hP, hb, t1, t2, cF_0, bI_in, bI_0, bI_1, bI_t, bI_f, bI_01, Tr_X4_comesIn, ae_aload_n, ae_bipush, ae_idiv, ae_if_icmp, ae_iload_n, ae_invokevirtual, ae_irem, dX4_wet_8, dX4_wet_9, dX4_wet_10, dX4_wet_11, dX4_wet_13, dX4_wet_14, dX4_wet_15, dX4_wet_17, dX4_wet_18, dX4_wet_21, dX4_wet_23, ca_X4_wet_155, ca_X4_wet_164, ab_wp0, ab_wps, ab_stp, ab_g, ab_st, ab_k2, ab_cl, ab_pop, ab_sz, ab_2, ab_ret, ab_f4, ab_tg, ab_I, ab_II, ab_A, ab_Rf, ab_VR, ab_IR, ab_VIR, ab_1, ab_LL, ab_DD, ab_ob, ab_pr, ab_qr, ab_ln, ab_so, ab_vI, ab_vA, ab_vD, ab_vL, ab_v2, ab_c, ab_fit, ab_rv, ab_tsw, ab_lsw, ab_up_eq, Fin.isValue, ab_f0, ab_f1, ab_f2, ab_f3, List.getElem?_cons_zero, List.getElem?_cons_succ, List.set_cons_zero, List.set_cons_succ, List.length_cons, List.length_nil, List.size_toArray, List.head?_cons, List.tail_cons, Option.map_some, cond_true, cond_false, true_and, and_true, false_and, and_false, not_true_eq_false, not_false_eq_true, true_imp_iff, false_imp_iff, if_true, if_false, ite_true, ite_false, ↓reduceIte, Nat.reduceAdd, Nat.reduceEqDiff, Nat.reduceLeDiff, Nat.reduceLT, Nat.reduceBEq, Nat.reduceBNe, Int.reduceAdd, Int.reduceNeg, Int.reduceSub, Int.reduceLE, Int.reduceLT, Int.reduceToNat, Int.reduceEq, Int.reduceMul, Int.cast_ofNat_Int, Nat.zero_add, Nat.add_zero, Nat.le_refl, eq_self, ne_eq, reduceCtorEq, or_true, true_or, or_false, false_or, Bool.or_true, Bool.or_false, Bool.true_or, Bool.false_or, Nat.zero_le, Int.le_refl, Int.ofNat_zero, Int.ofNat_one, Bool.false_eq_true, ae_goto, ae_iinc, dX4_wet_45, dX4_wet_48, ca_X4_wet_155, ca_X4_wet_164, ab_wp0, ab_wps, ab_stp, ab_g, ab_st, ab_k2, ab_cl, ab_pop, ab_sz, ab_2, ab_ret, ab_f4, ab_tg, ab_I, ab_II, ab_A, ab_Rf, ab_VR, ab_IR, ab_VIR, ab_1, ab_LL, ab_DD, ab_ob, ab_pr, ab_qr, ab_ln, ab_so, ab_vI, ab_vA, ab_vD, ab_vL, ab_v2, ab_c, ab_fit, ab_rv, ab_tsw, ab_lsw, ab_up_eq, Fin.isValue, ab_f0, ab_f1, ab_f2, ab_f3, List.getElem?_cons_zero, List.getElem?_cons_succ, List.set_cons_zero, List.set_cons_succ, List.length_cons, List.length_nil, List.size_toArray, List.head?_cons, List.tail_cons, Option.map_some, cond_true, cond_false, true_and, and_true, false_and, and_false, not_true_eq_false, not_false_eq_true, true_imp_iff, false_imp_iff, if_true, if_false, ite_true, ite_false, ↓reduceIte, Nat.reduceAdd, Nat.reduceEqDiff, Nat.reduceLeDiff, Nat.reduceLT, Nat.reduceBEq, Nat.reduceBNe, Int.reduceAdd, Int.reduceNeg, Int.reduceSub, Int.reduceLE, Int.reduceLT, Int.reduceToNat, Int.reduceEq, Int.reduceMul, Int.cast_ofNat_Int, Nat.zero_add, Nat.add_zero, Nat.le_refl, eq_self, ne_eq, reduceCtorEq, or_true, true_or, or_false, false_or, Bool.or_true, Bool.or_false, Bool.true_or, Bool.false_or, Nat.zero_le, Int.le_refl, Int.ofNat_zero, Int.ofNat_one, Bool.false_eq_true]
          simp only [ab_in]
          (repeat' (first | intro _ | refine And.intro ?_ ?_)) <;> (first | exact ih' | contradiction | omega | (exfalso; omega))
        refine hV (fun p => p == 8) 80 _ _ _ _ _ _ ?_
        simp only [ae_bipush, ae_if_icmp, ae_iload_n, dX4_wet_2, dX4_wet_3, dX4_wet_5, ca_X4_wet_155, ca_X4_wet_164, ab_wp0, ab_wps, ab_stp, ab_g, ab_st, ab_k2, ab_cl, ab_pop, ab_sz, ab_2, ab_ret, ab_f4, ab_tg, ab_I, ab_II, ab_A, ab_Rf, ab_VR, ab_IR, ab_VIR, ab_1, ab_LL, ab_DD, ab_ob, ab_pr, ab_qr, ab_ln, ab_so, ab_vI, ab_vA, ab_vD, ab_vL, ab_v2, ab_c, ab_fit, ab_rv, ab_tsw, ab_lsw, ab_up_eq, Fin.isValue, ab_f0, ab_f1, ab_f2, ab_f3, List.getElem?_cons_zero, List.getElem?_cons_succ, List.set_cons_zero, List.set_cons_succ, List.length_cons, List.length_nil, List.size_toArray, List.head?_cons, List.tail_cons, Option.map_some, cond_true, cond_false, true_and, and_true, false_and, and_false, not_true_eq_false, not_false_eq_true, true_imp_iff, false_imp_iff, if_true, if_false, ite_true, ite_false, ↓reduceIte, Nat.reduceAdd, Nat.reduceEqDiff, Nat.reduceLeDiff, Nat.reduceLT, Nat.reduceBEq, Nat.reduceBNe, Int.reduceAdd, Int.reduceNeg, Int.reduceSub, Int.reduceLE, Int.reduceLT, Int.reduceToNat, Int.reduceEq, Int.reduceMul, Int.cast_ofNat_Int, Nat.zero_add, Nat.add_zero, Nat.le_refl, eq_self, ne_eq, reduceCtorEq, or_true, true_or, or_false, false_or, Bool.or_true, Bool.or_false, Bool.true_or, Bool.false_or, Nat.zero_le, Int.le_refl, Int.ofNat_zero, Int.ofNat_one, Bool.false_eq_true]
        simp only [ab_in]
        (repeat' (first | intro _ | refine And.intro ?_ ?_)) <;> (first | exact l8 | contradiction | omega | (exfalso; omega))
    have l0 := loop 96 0 (by omega) (by omega)
    refine hV (fun p => p == 2) 80 _ _ _ _ _ _ ?_
    simp only [bI_in, bI_0, bI_1, bI_t, bI_f, bI_01, ae_iconst, ae_istore_n, dX4_wet_0, dX4_wet_1, ca_X4_wet_155, ca_X4_wet_164, ab_wp0, ab_wps, ab_stp, ab_g, ab_st, ab_k2, ab_cl, ab_pop, ab_sz, ab_2, ab_ret, ab_f4, ab_tg, ab_I, ab_II, ab_A, ab_Rf, ab_VR, ab_IR, ab_VIR, ab_1, ab_LL, ab_DD, ab_ob, ab_pr, ab_qr, ab_ln, ab_so, ab_vI, ab_vA, ab_vD, ab_vL, ab_v2, ab_c, ab_fit, ab_rv, ab_tsw, ab_lsw, ab_up_eq, Fin.isValue, ab_f0, ab_f1, ab_f2, ab_f3, List.getElem?_cons_zero, List.getElem?_cons_succ, List.set_cons_zero, List.set_cons_succ, List.length_cons, List.length_nil, List.size_toArray, List.head?_cons, List.tail_cons, Option.map_some, cond_true, cond_false, true_and, and_true, false_and, and_false, not_true_eq_false, not_false_eq_true, true_imp_iff, false_imp_iff, if_true, if_false, ite_true, ite_false, ↓reduceIte, Nat.reduceAdd, Nat.reduceEqDiff, Nat.reduceLeDiff, Nat.reduceLT, Nat.reduceBEq, Nat.reduceBNe, Int.reduceAdd, Int.reduceNeg, Int.reduceSub, Int.reduceLE, Int.reduceLT, Int.reduceToNat, Int.reduceEq, Int.reduceMul, Int.cast_ofNat_Int, Nat.zero_add, Nat.add_zero, Nat.le_refl, eq_self, ne_eq, reduceCtorEq, or_true, true_or, or_false, false_or, Bool.or_true, Bool.or_false, Bool.true_or, Bool.false_or, Nat.zero_le, Int.le_refl, Int.ofNat_zero, Int.ofNat_one, Bool.false_eq_true]
    try simp only [ab_in] at ⊢
    (repeat' (first | intro _ | refine And.intro ?_ ?_)) <;> (first | exact l0 | contradiction | omega | (exfalso; omega))
  · exact hT.elim
set_option maxRecDepth 100000 in
theorem con_X4_wet (l : Launch) (D : va_G) (ty : Nat → ClassId) (base : Nat) : ab_Con l D vwCl ty lw_ts base lw_wd yX4_wet cX4_wet 3 none 6 134 0 0 Tr_X4_wet :=
  ab_con_of (own := RX4) (rt := 0) (tb := tbX4) (ini := false) (ca := ca_X4_wet) (by decide +kernel) rfl (fun h => by cases h) rfl lw_wd_ok wtbX4 lw_ar cm_X4_wet
    (fun p e R s m args below meth c K hcx => by
      obtain ⟨hx, hb, hml, hown, hF, rfl⟩ := hcx
      exact ab_lk_all (ab_all_c (ab_tc_V hx hb hml hown lw_wd_ok hF ⟨rfl, rfl⟩ (con_X4_comesIn l D ty base) rfl (lw_wi (by decide +kernel) (by decide +kernel)) (lw_wi (by decide +kernel) (by decide +kernel)) (lw_wi (by decide +kernel) (by decide +kernel)) (lw_wi (by decide +kernel) (by decide +kernel)) (lw_wi (by decide +kernel) (by decide +kernel)) (by decide +kernel) ⟨by decide, by decide⟩) (ab_all_c (ab_tc_S hx hb hml hown lw_wd_ok hF ⟨rfl, rfl⟩ (con_J9_min_7cf53 l D ty base) (lw_wi (by decide +kernel) (by decide +kernel)) (lw_wi (by decide +kernel) (by decide +kernel)) (lw_wi (by decide +kernel) (by decide +kernel)) (lw_wi (by decide +kernel) (by decide +kernel)) (by decide +kernel) ⟨by decide, by decide⟩) (ab_all_n))))
    (by intro as h K ht; unfold Tr_X4_wet at ht; split at ht <;> first | exact ht.elim | exact Nat.le_of_ble_eq_true rfl) (sem_X4_wet base)
