/-! ===== small tests of numbers ===== -/
def isPlaceF (x y : Int) : Bool := decide (0 ≤ x ∧ x < 12 ∧ 0 ≤ y ∧ y < 8)
def isUpToF (x y : Int) : Bool := decide (0 ≤ x ∧ x ≤ y)
def fitsF (row from9 wide : Int) : Bool := decide ((0 ≤ from9 ∧ from9 < 12 ∧ 0 ≤ row ∧ row < 8) ∧ 1 ≤ wide ∧ wide ≤ 4 ∧ wide ≤ 12 - from9)
def Tr_X3_isPlace : ATr := fun _as h K => match _as with
  | [.inl x, .inl y] => (ab_in x ∧ ab_in y) ∧ K (some (.inl (bI (isPlaceF x y)))) h
  | _ => False
theorem mo_X3_isPlace : ab_mo Tr_X3_isPlace := by
  intro as h K K' hk ht
  unfold Tr_X3_isPlace at ht ⊢
  split at ht
  · exact ⟨ht.1, hk _ _ ht.2⟩
  · exact ht.elim
def ca_X3_isPlace : Nat → Option ACS := ab_lk []
theorem cm_X3_isPlace : ∀ i q, ca_X3_isPlace i = some q → ab_moq i q := ab_lk_all (ab_all_n)
set_option maxRecDepth 100000 in
set_option maxHeartbeats 1000000 in
theorem sem_X3_isPlace (base : Nat) : ab_Sem tbX3 lw_ts base cX3_isPlace ca_X3_isPlace 2 2 0 0 (fun as => ab_en as 2) Tr_X3_isPlace := by
  intro as h K hT V hV
  unfold Tr_X3_isPlace at hT
  split at hT
  · rename_i x y
    obtain ⟨hs, hK⟩ := hT
    show V 0 [some (.inl x), some (.inl y)] [] h 0 0
    refine hV (fun _ => false) 80 _ _ _ _ _ _ ?_
    simp only [ae_bipush, ae_goto, ae_iconst, ae_ifCond, ae_if_icmp, ae_iload_n, ae_ireturn, dX3_isPlace_0, dX3_isPlace_1, dX3_isPlace_4, dX3_isPlace_5, dX3_isPlace_7, dX3_isPlace_10, dX3_isPlace_11, dX3_isPlace_14, dX3_isPlace_15, dX3_isPlace_17, dX3_isPlace_20, dX3_isPlace_21, dX3_isPlace_24, dX3_isPlace_25, ab_wp0, ab_wps, ab_stp, ab_g, ab_st, ab_k2, ab_cl, ab_pop, ab_sz, ab_2, ab_ret, ab_f4, ab_tg, ab_I, ab_II, ab_A, ab_Rf, ab_VR, ab_IR, ab_VIR, ab_1, ab_LL, ab_DD, ab_ob, ab_pr, ab_qr, ab_ln, ab_so, ab_vI, ab_vA, ab_vD, ab_vL, ab_v2, ab_c, ab_fit, ab_rv, ab_tsw, ab_lsw, ab_up_eq, Fin.isValue, ab_f0, ab_f1, ab_f2, ab_f3, List.getElem?_cons_zero, List.getElem?_cons_succ, List.set_cons_zero, List.set_cons_succ, List.length_cons, List.length_nil, List.size_toArray, List.head?_cons, List.tail_cons, Option.map_some, cond_true, cond_false, true_and, and_true, false_and, and_false, not_true_eq_false, not_false_eq_true, true_imp_iff, false_imp_iff, if_true, if_false, ite_true, ite_false, ↓reduceIte, Nat.reduceAdd, Nat.reduceEqDiff, Nat.reduceLeDiff, Nat.reduceLT, Nat.reduceBEq, Nat.reduceBNe, Int.reduceAdd, Int.reduceNeg, Int.reduceSub, Int.reduceLE, Int.reduceLT, Int.reduceToNat, Int.reduceEq, Int.reduceMul, Int.cast_ofNat_Int, Nat.zero_add, Nat.add_zero, Nat.le_refl, eq_self, ne_eq, reduceCtorEq, or_true, true_or, or_false, false_or, Bool.or_true, Bool.or_false, Bool.true_or, Bool.false_or, Nat.zero_le, Int.le_refl, Int.ofNat_zero, Int.ofNat_one, Bool.false_eq_true]
    simp only [ab_in] at hs ⊢
    by_cases hc : 0 ≤ x ∧ x < 12 ∧ 0 ≤ y ∧ y < 8
    · simp only [isPlaceF, hc, decide_true, bI_t, and_self, true_and, and_true] at hK
      (repeat' (first | intro _ | refine And.intro ?_ ?_)) <;> (first | exact hK | contradiction | omega | (exfalso; omega))
    · simp only [isPlaceF, hc, decide_false, bI_f] at hK
      (repeat' (first | intro _ | refine And.intro ?_ ?_)) <;> (first | exact hK | contradiction | omega | (exfalso; omega))
  · exact hT.elim
set_option maxRecDepth 100000 in
theorem con_X3_isPlace (l : Launch) (D : va_G) (ty : Nat → ClassId) (base : Nat) : ab_Con l D vwCl ty lw_ts base lw_wd yX3_isPlace cX3_isPlace 2 (some .boolean) 0 0 0 0 Tr_X3_isPlace :=
  ab_con_of (own := RX3) (rt := 2) (tb := tbX3) (ini := false) (ca := ca_X3_isPlace) (by decide +kernel) rfl (fun h => by cases h) rfl lw_wd_ok wtbX3 lw_ar cm_X3_isPlace
    (fun p e R s m args below meth c K hcx => by
      obtain ⟨hx, hb, hml, hown, hF, rfl⟩ := hcx
      exact ab_lk_all (ab_all_n))
    (by intro as h K ht; unfold Tr_X3_isPlace at ht; split at ht <;> first | exact ht.elim | exact Nat.le_of_ble_eq_true rfl) (sem_X3_isPlace base)
def Tr_X3_isUpTo : ATr := fun _as h K => match _as with
  | [.inl x, .inl y] => (ab_in x ∧ ab_in y) ∧ K (some (.inl (bI (isUpToF x y)))) h
  | _ => False
theorem mo_X3_isUpTo : ab_mo Tr_X3_isUpTo := by
  intro as h K K' hk ht
  unfold Tr_X3_isUpTo at ht ⊢
  split at ht
  · exact ⟨ht.1, hk _ _ ht.2⟩
  · exact ht.elim
def ca_X3_isUpTo : Nat → Option ACS := ab_lk []
theorem cm_X3_isUpTo : ∀ i q, ca_X3_isUpTo i = some q → ab_moq i q := ab_lk_all (ab_all_n)
set_option maxRecDepth 100000 in
set_option maxHeartbeats 1000000 in
theorem sem_X3_isUpTo (base : Nat) : ab_Sem tbX3 lw_ts base cX3_isUpTo ca_X3_isUpTo 2 2 0 0 (fun as => ab_en as 2) Tr_X3_isUpTo := by
  intro as h K hT V hV
  unfold Tr_X3_isUpTo at hT
  split at hT
  · rename_i x y
    obtain ⟨hs, hK⟩ := hT
    show V 0 [some (.inl x), some (.inl y)] [] h 0 0
    refine hV (fun _ => false) 80 _ _ _ _ _ _ ?_
    simp only [ae_goto, ae_iconst, ae_ifCond, ae_if_icmp, ae_iload_n, ae_ireturn, dX3_isUpTo_0, dX3_isUpTo_1, dX3_isUpTo_4, dX3_isUpTo_5, dX3_isUpTo_6, dX3_isUpTo_9, dX3_isUpTo_10, dX3_isUpTo_13, dX3_isUpTo_14, ab_wp0, ab_wps, ab_stp, ab_g, ab_st, ab_k2, ab_cl, ab_pop, ab_sz, ab_2, ab_ret, ab_f4, ab_tg, ab_I, ab_II, ab_A, ab_Rf, ab_VR, ab_IR, ab_VIR, ab_1, ab_LL, ab_DD, ab_ob, ab_pr, ab_qr, ab_ln, ab_so, ab_vI, ab_vA, ab_vD, ab_vL, ab_v2, ab_c, ab_fit, ab_rv, ab_tsw, ab_lsw, ab_up_eq, Fin.isValue, ab_f0, ab_f1, ab_f2, ab_f3, List.getElem?_cons_zero, List.getElem?_cons_succ, List.set_cons_zero, List.set_cons_succ, List.length_cons, List.length_nil, List.size_toArray, List.head?_cons, List.tail_cons, Option.map_some, cond_true, cond_false, true_and, and_true, false_and, and_false, not_true_eq_false, not_false_eq_true, true_imp_iff, false_imp_iff, if_true, if_false, ite_true, ite_false, ↓reduceIte, Nat.reduceAdd, Nat.reduceEqDiff, Nat.reduceLeDiff, Nat.reduceLT, Nat.reduceBEq, Nat.reduceBNe, Int.reduceAdd, Int.reduceNeg, Int.reduceSub, Int.reduceLE, Int.reduceLT, Int.reduceToNat, Int.reduceEq, Int.reduceMul, Int.cast_ofNat_Int, Nat.zero_add, Nat.add_zero, Nat.le_refl, eq_self, ne_eq, reduceCtorEq, or_true, true_or, or_false, false_or, Bool.or_true, Bool.or_false, Bool.true_or, Bool.false_or, Nat.zero_le, Int.le_refl, Int.ofNat_zero, Int.ofNat_one, Bool.false_eq_true]
    simp only [ab_in] at hs ⊢
    by_cases hc : 0 ≤ x ∧ x ≤ y
    · simp only [isUpToF, hc, decide_true, bI_t, and_self, true_and, and_true] at hK
      (repeat' (first | intro _ | refine And.intro ?_ ?_)) <;> (first | exact hK | contradiction | omega | (exfalso; omega))
    · simp only [isUpToF, hc, decide_false, bI_f] at hK
      (repeat' (first | intro _ | refine And.intro ?_ ?_)) <;> (first | exact hK | contradiction | omega | (exfalso; omega))
  · exact hT.elim
set_option maxRecDepth 100000 in
theorem con_X3_isUpTo (l : Launch) (D : va_G) (ty : Nat → ClassId) (base : Nat) : ab_Con l D vwCl ty lw_ts base lw_wd yX3_isUpTo cX3_isUpTo 2 (some .boolean) 0 0 0 0 Tr_X3_isUpTo :=
  ab_con_of (own := RX3) (rt := 2) (tb := tbX3) (ini := false) (ca := ca_X3_isUpTo) (by decide +kernel) rfl (fun h => by cases h) rfl lw_wd_ok wtbX3 lw_ar cm_X3_isUpTo
    (fun p e R s m args below meth c K hcx => by
      obtain ⟨hx, hb, hml, hown, hF, rfl⟩ := hcx
      exact ab_lk_all (ab_all_n))
    (by intro as h K ht; unfold Tr_X3_isUpTo at ht; split at ht <;> first | exact ht.elim | exact Nat.le_of_ble_eq_true rfl) (sem_X3_isUpTo base)
def Tr_X3_isNails : ATr := fun _as h K => match _as with
  | [.inl x] => (ab_in x) ∧ K (some (.inl (bI (decide (1 ≤ x ∧ x ≤ 3))))) h
  | _ => False
theorem mo_X3_isNails : ab_mo Tr_X3_isNails := by
  intro as h K K' hk ht
  unfold Tr_X3_isNails at ht ⊢
  split at ht
  · exact ⟨ht.1, hk _ _ ht.2⟩
  · exact ht.elim
def ca_X3_isNails : Nat → Option ACS := ab_lk []
theorem cm_X3_isNails : ∀ i q, ca_X3_isNails i = some q → ab_moq i q := ab_lk_all (ab_all_n)
set_option maxRecDepth 100000 in
set_option maxHeartbeats 1000000 in
theorem sem_X3_isNails (base : Nat) : ab_Sem tbX3 lw_ts base cX3_isNails ca_X3_isNails 2 1 0 0 (fun as => ab_en as 1) Tr_X3_isNails := by
  intro as h K hT V hV
  unfold Tr_X3_isNails at hT
  split at hT
  · rename_i x
    obtain ⟨hs, hK⟩ := hT
    show V 0 [some (.inl x)] [] h 0 0
    refine hV (fun _ => false) 80 _ _ _ _ _ _ ?_
    simp only [ae_goto, ae_iconst, ae_if_icmp, ae_iload_n, ae_ireturn, dX3_isNails_0, dX3_isNails_1, dX3_isNails_2, dX3_isNails_5, dX3_isNails_6, dX3_isNails_7, dX3_isNails_10, dX3_isNails_11, dX3_isNails_14, dX3_isNails_15, ab_wp0, ab_wps, ab_stp, ab_g, ab_st, ab_k2, ab_cl, ab_pop, ab_sz, ab_2, ab_ret, ab_f4, ab_tg, ab_I, ab_II, ab_A, ab_Rf, ab_VR, ab_IR, ab_VIR, ab_1, ab_LL, ab_DD, ab_ob, ab_pr, ab_qr, ab_ln, ab_so, ab_vI, ab_vA, ab_vD, ab_vL, ab_v2, ab_c, ab_fit, ab_rv, ab_tsw, ab_lsw, ab_up_eq, Fin.isValue, ab_f0, ab_f1, ab_f2, ab_f3, List.getElem?_cons_zero, List.getElem?_cons_succ, List.set_cons_zero, List.set_cons_succ, List.length_cons, List.length_nil, List.size_toArray, List.head?_cons, List.tail_cons, Option.map_some, cond_true, cond_false, true_and, and_true, false_and, and_false, not_true_eq_false, not_false_eq_true, true_imp_iff, false_imp_iff, if_true, if_false, ite_true, ite_false, ↓reduceIte, Nat.reduceAdd, Nat.reduceEqDiff, Nat.reduceLeDiff, Nat.reduceLT, Nat.reduceBEq, Nat.reduceBNe, Int.reduceAdd, Int.reduceNeg, Int.reduceSub, Int.reduceLE, Int.reduceLT, Int.reduceToNat, Int.reduceEq, Int.reduceMul, Int.cast_ofNat_Int, Nat.zero_add, Nat.add_zero, Nat.le_refl, eq_self, ne_eq, reduceCtorEq, or_true, true_or, or_false, false_or, Bool.or_true, Bool.or_false, Bool.true_or, Bool.false_or, Nat.zero_le, Int.le_refl, Int.ofNat_zero, Int.ofNat_one, Bool.false_eq_true]
    simp only [ab_in] at hs ⊢
    by_cases hc : 1 ≤ x ∧ x ≤ 3
    · simp only [isUpToF, hc, decide_true, bI_t, and_self, true_and, and_true] at hK
      (repeat' (first | intro _ | refine And.intro ?_ ?_)) <;> (first | exact hK | contradiction | omega | (exfalso; omega))
    · simp only [isUpToF, hc, decide_false, bI_f] at hK
      (repeat' (first | intro _ | refine And.intro ?_ ?_)) <;> (first | exact hK | contradiction | omega | (exfalso; omega))
  · exact hT.elim
set_option maxRecDepth 100000 in
theorem con_X3_isNails (l : Launch) (D : va_G) (ty : Nat → ClassId) (base : Nat) : ab_Con l D vwCl ty lw_ts base lw_wd yX3_isNails cX3_isNails 1 (some .boolean) 0 0 0 0 Tr_X3_isNails :=
  ab_con_of (own := RX3) (rt := 2) (tb := tbX3) (ini := false) (ca := ca_X3_isNails) (by decide +kernel) rfl (fun h => by cases h) rfl lw_wd_ok wtbX3 lw_ar cm_X3_isNails
    (fun p e R s m args below meth c K hcx => by
      obtain ⟨hx, hb, hml, hown, hF, rfl⟩ := hcx
      exact ab_lk_all (ab_all_n))
    (by intro as h K ht; unfold Tr_X3_isNails at ht; split at ht <;> first | exact ht.elim | exact Nat.le_of_ble_eq_true rfl) (sem_X3_isNails base)
def Tr_X3_isDays : ATr := fun _as h K => match _as with
  | [.inl x] => (ab_in x) ∧ K (some (.inl (bI (decide (1 ≤ x ∧ x ≤ 60))))) h
  | _ => False
theorem mo_X3_isDays : ab_mo Tr_X3_isDays := by
  intro as h K K' hk ht
  unfold Tr_X3_isDays at ht ⊢
  split at ht
  · exact ⟨ht.1, hk _ _ ht.2⟩
  · exact ht.elim
def ca_X3_isDays : Nat → Option ACS := ab_lk []
theorem cm_X3_isDays : ∀ i q, ca_X3_isDays i = some q → ab_moq i q := ab_lk_all (ab_all_n)
set_option maxRecDepth 100000 in
set_option maxHeartbeats 1000000 in
theorem sem_X3_isDays (base : Nat) : ab_Sem tbX3 lw_ts base cX3_isDays ca_X3_isDays 2 1 0 0 (fun as => ab_en as 1) Tr_X3_isDays := by
  intro as h K hT V hV
  unfold Tr_X3_isDays at hT
  split at hT
  · rename_i x
    obtain ⟨hs, hK⟩ := hT
    show V 0 [some (.inl x)] [] h 0 0
    refine hV (fun _ => false) 80 _ _ _ _ _ _ ?_
    simp only [ae_bipush, ae_goto, ae_iconst, ae_if_icmp, ae_iload_n, ae_ireturn, dX3_isDays_0, dX3_isDays_1, dX3_isDays_2, dX3_isDays_5, dX3_isDays_6, dX3_isDays_8, dX3_isDays_11, dX3_isDays_12, dX3_isDays_15, dX3_isDays_16, ab_wp0, ab_wps, ab_stp, ab_g, ab_st, ab_k2, ab_cl, ab_pop, ab_sz, ab_2, ab_ret, ab_f4, ab_tg, ab_I, ab_II, ab_A, ab_Rf, ab_VR, ab_IR, ab_VIR, ab_1, ab_LL, ab_DD, ab_ob, ab_pr, ab_qr, ab_ln, ab_so, ab_vI, ab_vA, ab_vD, ab_vL, ab_v2, ab_c, ab_fit, ab_rv, ab_tsw, ab_lsw, ab_up_eq, Fin.isValue, ab_f0, ab_f1, ab_f2, ab_f3, List.getElem?_cons_zero, List.getElem?_cons_succ, List.set_cons_zero, List.set_cons_succ, List.length_cons, List.length_nil, List.size_toArray, List.head?_cons, List.tail_cons, Option.map_some, cond_true, cond_false, true_and, and_true, false_and, and_false, not_true_eq_false, not_false_eq_true, true_imp_iff, false_imp_iff, if_true, if_false, ite_true, ite_false, ↓reduceIte, Nat.reduceAdd, Nat.reduceEqDiff, Nat.reduceLeDiff, Nat.reduceLT, Nat.reduceBEq, Nat.reduceBNe, Int.reduceAdd, Int.reduceNeg, Int.reduceSub, Int.reduceLE, Int.reduceLT, Int.reduceToNat, Int.reduceEq, Int.reduceMul, Int.cast_ofNat_Int, Nat.zero_add, Nat.add_zero, Nat.le_refl, eq_self, ne_eq, reduceCtorEq, or_true, true_or, or_false, false_or, Bool.or_true, Bool.or_false, Bool.true_or, Bool.false_or, Nat.zero_le, Int.le_refl, Int.ofNat_zero, Int.ofNat_one, Bool.false_eq_true]
    simp only [ab_in] at hs ⊢
    by_cases hc : 1 ≤ x ∧ x ≤ 60
    · simp only [isUpToF, hc, decide_true, bI_t, and_self, true_and, and_true] at hK
      (repeat' (first | intro _ | refine And.intro ?_ ?_)) <;> (first | exact hK | contradiction | omega | (exfalso; omega))
    · simp only [isUpToF, hc, decide_false, bI_f] at hK
      (repeat' (first | intro _ | refine And.intro ?_ ?_)) <;> (first | exact hK | contradiction | omega | (exfalso; omega))
  · exact hT.elim
set_option maxRecDepth 100000 in
theorem con_X3_isDays (l : Launch) (D : va_G) (ty : Nat → ClassId) (base : Nat) : ab_Con l D vwCl ty lw_ts base lw_wd yX3_isDays cX3_isDays 1 (some .boolean) 0 0 0 0 Tr_X3_isDays :=
  ab_con_of (own := RX3) (rt := 2) (tb := tbX3) (ini := false) (ca := ca_X3_isDays) (by decide +kernel) rfl (fun h => by cases h) rfl lw_wd_ok wtbX3 lw_ar cm_X3_isDays
    (fun p e R s m args below meth c K hcx => by
      obtain ⟨hx, hb, hml, hown, hF, rfl⟩ := hcx
      exact ab_lk_all (ab_all_n))
    (by intro as h K ht; unfold Tr_X3_isDays at ht; split at ht <;> first | exact ht.elim | exact Nat.le_of_ble_eq_true rfl) (sem_X3_isDays base)
def Tr_X3_fits : ATr := fun _as h K => match _as with
  | [.inl row, .inl from9, .inl wide] => (ab_in row ∧ ab_in from9 ∧ ab_in wide) ∧ K (some (.inl (bI (fitsF row from9 wide)))) h
  | _ => False
theorem mo_X3_fits : ab_mo Tr_X3_fits := by
  intro as h K K' hk ht
  unfold Tr_X3_fits at ht ⊢
  split at ht
  · exact ⟨ht.1, hk _ _ ht.2⟩
  · exact ht.elim
def ca_X3_fits : Nat → Option ACS := ab_lk [(94, (2, 0, 2, 0, 0, Tr_X3_isPlace))]
theorem ca_X3_fits_94 : ca_X3_fits 94 = some (2, 0, 2, 0, 0, Tr_X3_isPlace) := rfl
theorem cm_X3_fits : ∀ i q, ca_X3_fits i = some q → ab_moq i q := ab_lk_all (ab_all_c mo_X3_isPlace (ab_all_n))
set_option maxRecDepth 100000 in
set_option maxHeartbeats 1000000 in
theorem sem_X3_fits (base : Nat) : ab_Sem tbX3 lw_ts base cX3_fits ca_X3_fits 2 3 0 0 (fun as => ab_en as 3) Tr_X3_fits := by
  intro as h K hT V hV
  unfold Tr_X3_fits at hT
  split at hT
  · rename_i row from9 wide
    obtain ⟨hs, hK⟩ := hT
    show V 0 [some (.inl row), some (.inl from9), some (.inl wide)] [] h 0 0
    refine hV (fun _ => false) 80 _ _ _ _ _ _ ?_
    simp only [bI_in, bI_0, bI_1, bI_t, bI_f, bI_01, Tr_X3_isPlace, ae_bipush, ae_goto, ae_iconst, ae_ifCond, ae_if_icmp, ae_iload_n, ae_invokestatic, ae_ireturn, ae_isub, dX3_fits_0, dX3_fits_1, dX3_fits_2, dX3_fits_5, dX3_fits_8, dX3_fits_9, dX3_fits_10, dX3_fits_13, dX3_fits_14, dX3_fits_15, dX3_fits_18, dX3_fits_19, dX3_fits_21, dX3_fits_22, dX3_fits_23, dX3_fits_26, dX3_fits_27, dX3_fits_30, dX3_fits_31, ca_X3_fits_94, ab_wp0, ab_wps, ab_stp, ab_g, ab_st, ab_k2, ab_cl, ab_pop, ab_sz, ab_2, ab_ret, ab_f4, ab_tg, ab_I, ab_II, ab_A, ab_Rf, ab_VR, ab_IR, ab_VIR, ab_1, ab_LL, ab_DD, ab_ob, ab_pr, ab_qr, ab_ln, ab_so, ab_vI, ab_vA, ab_vD, ab_vL, ab_v2, ab_c, ab_fit, ab_rv, ab_tsw, ab_lsw, ab_up_eq, Fin.isValue, ab_f0, ab_f1, ab_f2, ab_f3, List.getElem?_cons_zero, List.getElem?_cons_succ, List.set_cons_zero, List.set_cons_succ, List.length_cons, List.length_nil, List.size_toArray, List.head?_cons, List.tail_cons, Option.map_some, cond_true, cond_false, true_and, and_true, false_and, and_false, not_true_eq_false, not_false_eq_true, true_imp_iff, false_imp_iff, if_true, if_false, ite_true, ite_false, ↓reduceIte, Nat.reduceAdd, Nat.reduceEqDiff, Nat.reduceLeDiff, Nat.reduceLT, Nat.reduceBEq, Nat.reduceBNe, Int.reduceAdd, Int.reduceNeg, Int.reduceSub, Int.reduceLE, Int.reduceLT, Int.reduceToNat, Int.reduceEq, Int.reduceMul, Int.cast_ofNat_Int, Nat.zero_add, Nat.add_zero, Nat.le_refl, eq_self, ne_eq, reduceCtorEq, or_true, true_or, or_false, false_or, Bool.or_true, Bool.or_false, Bool.true_or, Bool.false_or, Nat.zero_le, Int.le_refl, Int.ofNat_zero, Int.ofNat_one, Bool.false_eq_true]
    simp only [ab_in] at hs ⊢
    by_cases h1 : 0 ≤ from9 ∧ from9 < 12 ∧ 0 ≤ row ∧ row < 8
    · by_cases hc : 1 ≤ wide ∧ wide ≤ 4 ∧ wide ≤ 12 - from9
      · simp only [fitsF, h1, hc, decide_true, bI_t, and_self, true_and, and_true] at hK
        simp only [isPlaceF, h1, decide_true, and_self, not_false_eq_true, not_true_eq_false, true_imp_iff, false_imp_iff, true_and, and_true, if_true, if_false, eq_self, Bool.true_eq_false]
        (repeat' (first | intro _ | refine And.intro ?_ ?_)) <;> (first | exact hK | contradiction | omega | (exfalso; omega))
      · simp only [fitsF, h1, hc, decide_false, bI_f, and_false] at hK
        simp only [isPlaceF, h1, decide_true, and_self, not_false_eq_true, not_true_eq_false, true_imp_iff, false_imp_iff, true_and, and_true, if_true, if_false, eq_self, Bool.true_eq_false]
        (repeat' (first | intro _ | refine And.intro ?_ ?_)) <;> (first | exact hK | contradiction | omega | (exfalso; omega))
    · simp only [fitsF, h1, decide_false, bI_f, false_and] at hK
      simp only [isPlaceF, h1, decide_false, not_false_eq_true, not_true_eq_false, true_imp_iff, false_imp_iff, true_and, and_true, if_true, if_false, eq_self, Bool.true_eq_false]
      (repeat' (first | intro _ | refine And.intro ?_ ?_)) <;> (first | exact hK | contradiction | omega | (exfalso; omega))
  · exact hT.elim
set_option maxRecDepth 100000 in
theorem con_X3_fits (l : Launch) (D : va_G) (ty : Nat → ClassId) (base : Nat) : ab_Con l D vwCl ty lw_ts base lw_wd yX3_fits cX3_fits 3 (some .boolean) 1 21 0 0 Tr_X3_fits :=
  ab_con_of (own := RX3) (rt := 2) (tb := tbX3) (ini := false) (ca := ca_X3_fits) (by decide +kernel) rfl (fun h => by cases h) rfl lw_wd_ok wtbX3 lw_ar cm_X3_fits
    (fun p e R s m args below meth c K hcx => by
      obtain ⟨hx, hb, hml, hown, hF, rfl⟩ := hcx
      exact ab_lk_all (ab_all_c (ab_tc_S hx hb hml hown lw_wd_ok hF ⟨rfl, rfl⟩ (con_X3_isPlace l D ty base) (lw_wi (by decide +kernel) (by decide +kernel)) (lw_wi (by decide +kernel) (by decide +kernel)) (lw_wi (by decide +kernel) (by decide +kernel)) (lw_wi (by decide +kernel) (by decide +kernel)) (by decide +kernel) ⟨by decide, by decide⟩) (ab_all_n)))
    (by intro as h K ht; unfold Tr_X3_fits at ht; split at ht <;> first | exact ht.elim | exact Nat.le_of_ble_eq_true rfl) (sem_X3_fits base)
/-! ===== Roof: what writes ===== -/
def setNumL (row v : Int) : Nat → Int → (Int → Int) → (Int → Int)
  | 0, _, f => f
  | n + 1, x, f => setNumL row v n (x + 1) (bif isPlaceF x row then ab_uf f (12 * row + x) v else f)
def setNumF (S : RS) (row from9 wide v : Int) : RS := S.s_num (setNumL row v wide.toNat from9 S.num)
def setRotF (S : RS) (x y v : Int) : RS := bif isPlaceF x y then S.s_rot (ab_uf S.rot (12 * y + x) v) else S
def setNailsF (S : RS) (s v : Int) : RS := bif isKnownF S s then S.s_nai (ab_uf S.nai s v) else S
def addA (S : RS) (row from9 wide v : Int) : RS := (S.1, S.2.1, ab_uf S.row S.laid row, ab_uf S.frm S.laid from9, ab_uf S.wid S.laid wide, ab_uf S.nai S.laid v, ab_uf S.crk S.laid 0, ab_uf S.onr S.laid 1, S.goe, S.day, S.laid, S.there, S.blown)
def addF (S : RS) (row from9 wide v : Int) : RS := ((setNumF (addA S row from9 wide v) row from9 wide S.laid).s_laid (S.laid + 1)).s_there (S.there + 1)
def removeF (S : RS) (s : Int) : RS := bif isThereF S s then (setNumF (S.s_onr (ab_uf S.onr s 0)) (S.row s) (S.frm s) (S.wid s) (-1)).s_there (S.there - 1) else S
theorem setNumL_r {row v : Int} (hv : -1 ≤ v ∧ v < 200) : ∀ (n : Nat) (x : Int) (f : Int → Int), (∀ i, -1 ≤ f i ∧ f i < 200) → ∀ i, -1 ≤ setNumL row v n x f i ∧ setNumL row v n x f i < 200 := by
  intro n
  induction n with
  | zero => intro x f hf; exact hf
  | succ n ih =>
    intro x f hf
    simp only [setNumL]
    refine ih (x + 1) _ ?_
    cases isPlaceF x row
    · exact hf
    · exact uf_all (P := fun q => -1 ≤ q ∧ q < 200) hf hv
noncomputable def Tr_X1_setNumbers : ATr := fun as h K => match as with
  | [.inr (.inl (some a)), .inl row, .inl from9, .inl wide, .inl v] => ab_so (ab_roof h a) fun P => ((0 ≤ row ∧ row ≤ 7) ∧ (0 ≤ from9 ∧ from9 ≤ 12) ∧ (0 ≤ wide ∧ wide ≤ 4) ∧ (-1 ≤ v ∧ v < 200) ∧ (from9 + wide ≤ 12)) ∧ ∀ h', ab_roof h' a = some (P.1, setNumF P.2 row from9 wide v) → ab_fr h h' (a :: P.1) → K (none) h'
  | _ => False
theorem mo_X1_setNumbers : ab_mo Tr_X1_setNumbers := by
  intro as h K K' hk ht
  unfold Tr_X1_setNumbers at ht ⊢
  split at ht
  · exact ab_so_mo (fun P q => ⟨q.1, fun h' e1 e2 => hk _ _ (q.2 h' e1 e2)⟩) ht
  · exact ht.elim
def ca_X1_setNumbers : Nat → Option ACS := ab_lk [(61, (2, 0, 2, 0, 0, Tr_X3_isPlace))]
theorem ca_X1_setNumbers_61 : ca_X1_setNumbers 61 = some (2, 0, 2, 0, 0, Tr_X3_isPlace) := rfl
theorem cm_X1_setNumbers : ∀ i q, ca_X1_setNumbers i = some q → ab_moq i q := ab_lk_all (ab_all_c mo_X3_isPlace (ab_all_n))
set_option maxRecDepth 100000 in
set_option maxHeartbeats 2000000 in
theorem sem_X1_setNumbers (base : Nat) : ab_Sem tbX1 lw_ts base cX1_setNumbers ca_X1_setNumbers 0 6 0 0 (fun as => ab_en as 6) Tr_X1_setNumbers := by
  intro as h K hT V hV
  unfold Tr_X1_setNumbers at hT
  split at hT
  · rename_i a row from9 wide v
    obtain ⟨⟨ns, S⟩, hP, hs, hK⟩ := ab_so_el hT
    obtain ⟨hB, hC⟩ := roof_el hP
    obtain ⟨n0, n1, n2, n3, n4, n5, n6, n7, n8, rfl, nd, c, c0, c1, c2, c3, c4, c5, c6, c7, c8⟩ := id hC

    dsimp only at hK hs
    show V 0 [some (.inr (.inl (some a))), some (.inl row), some (.inl from9), some (.inl wide), some (.inl v), none] [] h 0 0
    have loop : ∀ (n : Nat) (x : Int) (h1 : AH) (f : Int → Int), x + n = from9 + wide → 0 ≤ x → roofCells h1 a [n0, n1, n2, n3, n4, n5, n6, n7, n8] (S.s_num f) → ab_fr h h1 [a, n0, n1, n2, n3, n4, n5, n6, n7, n8] → (∀ i, -1 ≤ f i ∧ f i < 200) → setNumL row v n x f = setNumL row v wide.toNat from9 S.num → V 3 [some (.inr (.inl (some a))), some (.inl row), some (.inl from9), some (.inl wide), some (.inl v), some (.inl x)] [] h1 0 0 := by
      intro n
      induction n with
      | zero =>
        intro x h1 f hx h0 hc1 hfr hf he1
        refine hV (fun p => p == 3) 80 _ _ _ _ _ _ ?_
        have he : from9 + wide ≤ x := by omega
        have hk2 := hK h1 (roof_of ⟨hB.s_num (by rw [← he1]; exact hf), by rw [setNumF, ← he1]; exact hc1⟩) hfr
        simp only [he, bI_in, bI_0, bI_1, bI_t, bI_f, bI_01, ae_aload_n, ae_bipush, ae_getfield, ae_goto, ae_iadd, ae_iastore, ae_ifCond, ae_if_icmp, ae_iinc, ae_iload, ae_iload_n, ae_imul, ae_invokestatic, ae_istore, ae_return_, dX1_setNumbers_0, dX1_setNumbers_1, dX1_setNumbers_3, dX1_setNumbers_5, dX1_setNumbers_6, dX1_setNumbers_7, dX1_setNumbers_8, dX1_setNumbers_11, dX1_setNumbers_13, dX1_setNumbers_14, dX1_setNumbers_17, dX1_setNumbers_20, dX1_setNumbers_21, dX1_setNumbers_24, dX1_setNumbers_26, dX1_setNumbers_27, dX1_setNumbers_28, dX1_setNumbers_30, dX1_setNumbers_31, dX1_setNumbers_33, dX1_setNumbers_34, dX1_setNumbers_37, dX1_setNumbers_40, tbX1_g9, ca_X1_setNumbers_61, ab_wp0, ab_wps, ab_stp, ab_g, ab_st, ab_k2, ab_cl, ab_pop, ab_sz, ab_2, ab_ret, ab_f4, ab_tg, ab_I, ab_II, ab_A, ab_Rf, ab_VR, ab_IR, ab_VIR, ab_1, ab_LL, ab_DD, ab_ob, ab_pr, ab_qr, ab_ln, ab_so, ab_vI, ab_vA, ab_vD, ab_vL, ab_v2, ab_c, ab_fit, ab_rv, ab_tsw, ab_lsw, ab_up_eq, Fin.isValue, ab_f0, ab_f1, ab_f2, ab_f3, List.getElem?_cons_zero, List.getElem?_cons_succ, List.set_cons_zero, List.set_cons_succ, List.length_cons, List.length_nil, List.size_toArray, List.head?_cons, List.tail_cons, Option.map_some, cond_true, cond_false, true_and, and_true, false_and, and_false, not_true_eq_false, not_false_eq_true, true_imp_iff, false_imp_iff, if_true, if_false, ite_true, ite_false, ↓reduceIte, Nat.reduceAdd, Nat.reduceEqDiff, Nat.reduceLeDiff, Nat.reduceLT, Nat.reduceBEq, Nat.reduceBNe, Int.reduceAdd, Int.reduceNeg, Int.reduceSub, Int.reduceLE, Int.reduceLT, Int.reduceToNat, Int.reduceEq, Int.reduceMul, Int.cast_ofNat_Int, Nat.zero_add, Nat.add_zero, Nat.le_refl, eq_self, ne_eq, reduceCtorEq, or_true, true_or, or_false, false_or, Bool.or_true, Bool.or_false, Bool.true_or, Bool.false_or, Nat.zero_le, Int.le_refl, Int.ofNat_zero, Int.ofNat_one, Bool.false_eq_true]
        simp only [ab_in]
        (repeat' (first | intro _ | refine And.intro ?_ ?_)) <;> (first | exact hk2 | contradiction | omega | (exfalso; omega))
      | succ n ih =>
        intro x h1 f hx h0 hc1 hfr hf he1
        refine hV (fun p => p == 3) 80 _ _ _ _ _ _ ?_
        have he : ¬ from9 + wide ≤ x := by omega
        obtain ⟨m0, m1, m2, m3, m4, m5, m6, m7, m8, e, -, d, d0, -⟩ := id hc1
        simp only [List.cons.injEq, and_true] at e
        obtain ⟨rfl, rfl, rfl, rfl, rfl, rfl, rfl, rfl, rfl⟩ := e
        have hpl : isPlaceF x row = true := decide_eq_true (by omega)
        have i1 := ih (x + 1) _ _ (by omega) (by omega) (rc_num hc1 (ab_uf f (12 * row + x) v)) (hfr.up (by simp)) (uf_all (P := fun q => -1 ≤ q ∧ q < 200) hf hs.2.2.2.1) (by rw [← he1]; simp only [setNumL, hpl, cond_true])
        simp only [d, d0, he, hpl, bI_in, bI_0, bI_1, bI_t, bI_f, bI_01, Tr_X3_isPlace, ae_aload_n, ae_bipush, ae_getfield, ae_goto, ae_iadd, ae_iastore, ae_ifCond, ae_if_icmp, ae_iinc, ae_iload, ae_iload_n, ae_imul, ae_invokestatic, ae_istore, ae_return_, dX1_setNumbers_0, dX1_setNumbers_1, dX1_setNumbers_3, dX1_setNumbers_5, dX1_setNumbers_6, dX1_setNumbers_7, dX1_setNumbers_8, dX1_setNumbers_11, dX1_setNumbers_13, dX1_setNumbers_14, dX1_setNumbers_17, dX1_setNumbers_20, dX1_setNumbers_21, dX1_setNumbers_24, dX1_setNumbers_26, dX1_setNumbers_27, dX1_setNumbers_28, dX1_setNumbers_30, dX1_setNumbers_31, dX1_setNumbers_33, dX1_setNumbers_34, dX1_setNumbers_37, dX1_setNumbers_40, tbX1_g9, ca_X1_setNumbers_61, ab_wp0, ab_wps, ab_stp, ab_g, ab_st, ab_k2, ab_cl, ab_pop, ab_sz, ab_2, ab_ret, ab_f4, ab_tg, ab_I, ab_II, ab_A, ab_Rf, ab_VR, ab_IR, ab_VIR, ab_1, ab_LL, ab_DD, ab_ob, ab_pr, ab_qr, ab_ln, ab_so, ab_vI, ab_vA, ab_vD, ab_vL, ab_v2, ab_c, ab_fit, ab_rv, ab_tsw, ab_lsw, ab_up_eq, Fin.isValue, ab_f0, ab_f1, ab_f2, ab_f3, List.getElem?_cons_zero, List.getElem?_cons_succ, List.set_cons_zero, List.set_cons_succ, List.length_cons, List.length_nil, List.size_toArray, List.head?_cons, List.tail_cons, Option.map_some, cond_true, cond_false, true_and, and_true, false_and, and_false, not_true_eq_false, not_false_eq_true, true_imp_iff, false_imp_iff, if_true, if_false, ite_true, ite_false, ↓reduceIte, Nat.reduceAdd, Nat.reduceEqDiff, Nat.reduceLeDiff, Nat.reduceLT, Nat.reduceBEq, Nat.reduceBNe, Int.reduceAdd, Int.reduceNeg, Int.reduceSub, Int.reduceLE, Int.reduceLT, Int.reduceToNat, Int.reduceEq, Int.reduceMul, Int.cast_ofNat_Int, Nat.zero_add, Nat.add_zero, Nat.le_refl, eq_self, ne_eq, reduceCtorEq, or_true, true_or, or_false, false_or, Bool.or_true, Bool.or_false, Bool.true_or, Bool.false_or, Nat.zero_le, Int.le_refl, Int.ofNat_zero, Int.ofNat_one, Bool.false_eq_true]
        simp only [ab_in]
        (repeat' (first | intro _ | refine And.intro ?_ ?_)) <;> (first | exact i1 | contradiction | omega | (exfalso; omega))
    refine hV (fun p => p == 3) 80 _ _ _ _ _ _ ?_
    have l0 := loop wide.toNat from9 h S.num (by omega) (by omega) hC ab_fr.rf hB.num_r rfl
    simp only [bI_in, bI_0, bI_1, bI_t, bI_f, bI_01, ae_aload_n, ae_bipush, ae_getfield, ae_goto, ae_iadd, ae_iastore, ae_ifCond, ae_if_icmp, ae_iinc, ae_iload, ae_iload_n, ae_imul, ae_invokestatic, ae_istore, ae_return_, dX1_setNumbers_0, dX1_setNumbers_1, dX1_setNumbers_3, dX1_setNumbers_5, dX1_setNumbers_6, dX1_setNumbers_7, dX1_setNumbers_8, dX1_setNumbers_11, dX1_setNumbers_13, dX1_setNumbers_14, dX1_setNumbers_17, dX1_setNumbers_20, dX1_setNumbers_21, dX1_setNumbers_24, dX1_setNumbers_26, dX1_setNumbers_27, dX1_setNumbers_28, dX1_setNumbers_30, dX1_setNumbers_31, dX1_setNumbers_33, dX1_setNumbers_34, dX1_setNumbers_37, dX1_setNumbers_40, tbX1_g9, ca_X1_setNumbers_61, ab_wp0, ab_wps, ab_stp, ab_g, ab_st, ab_k2, ab_cl, ab_pop, ab_sz, ab_2, ab_ret, ab_f4, ab_tg, ab_I, ab_II, ab_A, ab_Rf, ab_VR, ab_IR, ab_VIR, ab_1, ab_LL, ab_DD, ab_ob, ab_pr, ab_qr, ab_ln, ab_so, ab_vI, ab_vA, ab_vD, ab_vL, ab_v2, ab_c, ab_fit, ab_rv, ab_tsw, ab_lsw, ab_up_eq, Fin.isValue, ab_f0, ab_f1, ab_f2, ab_f3, List.getElem?_cons_zero, List.getElem?_cons_succ, List.set_cons_zero, List.set_cons_succ, List.length_cons, List.length_nil, List.size_toArray, List.head?_cons, List.tail_cons, Option.map_some, cond_true, cond_false, true_and, and_true, false_and, and_false, not_true_eq_false, not_false_eq_true, true_imp_iff, false_imp_iff, if_true, if_false, ite_true, ite_false, ↓reduceIte, Nat.reduceAdd, Nat.reduceEqDiff, Nat.reduceLeDiff, Nat.reduceLT, Nat.reduceBEq, Nat.reduceBNe, Int.reduceAdd, Int.reduceNeg, Int.reduceSub, Int.reduceLE, Int.reduceLT, Int.reduceToNat, Int.reduceEq, Int.reduceMul, Int.cast_ofNat_Int, Nat.zero_add, Nat.add_zero, Nat.le_refl, eq_self, ne_eq, reduceCtorEq, or_true, true_or, or_false, false_or, Bool.or_true, Bool.or_false, Bool.true_or, Bool.false_or, Nat.zero_le, Int.le_refl, Int.ofNat_zero, Int.ofNat_one, Bool.false_eq_true]
    exact l0
  · exact hT.elim
set_option maxRecDepth 100000 in
theorem con_X1_setNumbers (l : Launch) (D : va_G) (ty : Nat → ClassId) (base : Nat) : ab_Con l D vwCl ty lw_ts base lw_wd yX1_setNumbers cX1_setNumbers 6 none 1 21 0 0 Tr_X1_setNumbers :=
  ab_con_of (own := RX1) (rt := 0) (tb := tbX1) (ini := false) (ca := ca_X1_setNumbers) (by decide +kernel) rfl (fun h => by cases h) rfl lw_wd_ok wtbX1 lw_ar cm_X1_setNumbers
    (fun p e R s m args below meth c K hcx => by
      obtain ⟨hx, hb, hml, hown, hF, rfl⟩ := hcx
      exact ab_lk_all (ab_all_c (ab_tc_SN (host := "SlateRoofs") hx hb hml hown lw_wd_ok hF ⟨rfl, rfl⟩ (con_X3_isPlace l D ty base) (lw_wi (by decide +kernel) (by decide +kernel)) (lw_wi (by decide +kernel) (by decide +kernel)) (lw_wi (by decide +kernel) (by decide +kernel)) (lw_wi (by decide +kernel) (by decide +kernel)) (by decide +kernel) ⟨by decide, by decide⟩) (ab_all_n)))
    (by intro as h K ht; unfold Tr_X1_setNumbers at ht; split at ht <;> first | exact ht.elim | exact Nat.le_of_ble_eq_true rfl) (sem_X1_setNumbers base)
noncomputable def Tr_X1_setRot : ATr := fun as h K => match as with
  | [.inr (.inl (some a)), .inl x, .inl y, .inl v] => ab_so (ab_roof h a) fun P => ((ab_in x ∧ ab_in y) ∧ (0 ≤ v ∧ v ≤ 9)) ∧ ∀ h', ab_roof h' a = some (P.1, setRotF P.2 x y v) → ab_fr h h' (a :: P.1) → K (none) h'
  | _ => False
theorem mo_X1_setRot : ab_mo Tr_X1_setRot := by
  intro as h K K' hk ht
  unfold Tr_X1_setRot at ht ⊢
  split at ht
  · exact ab_so_mo (fun P q => ⟨q.1, fun h' e1 e2 => hk _ _ (q.2 h' e1 e2)⟩) ht
  · exact ht.elim
def ca_X1_setRot : Nat → Option ACS := ab_lk [(61, (2, 0, 2, 0, 0, Tr_X3_isPlace))]
theorem ca_X1_setRot_61 : ca_X1_setRot 61 = some (2, 0, 2, 0, 0, Tr_X3_isPlace) := rfl
theorem cm_X1_setRot : ∀ i q, ca_X1_setRot i = some q → ab_moq i q := ab_lk_all (ab_all_c mo_X3_isPlace (ab_all_n))
set_option maxRecDepth 100000 in
set_option maxHeartbeats 2000000 in
theorem sem_X1_setRot (base : Nat) : ab_Sem tbX1 lw_ts base cX1_setRot ca_X1_setRot 0 4 0 0 (fun as => ab_en as 4) Tr_X1_setRot := by
  intro as h K hT V hV
  unfold Tr_X1_setRot at hT
  split at hT
  · rename_i a x y v
    obtain ⟨⟨ns, S⟩, hP, hs, hK⟩ := ab_so_el hT
    obtain ⟨hB, hC⟩ := roof_el hP
    obtain ⟨n0, n1, n2, n3, n4, n5, n6, n7, n8, rfl, nd, c, c0, c1, c2, c3, c4, c5, c6, c7, c8⟩ := id hC

    dsimp only at hK hs
    show V 0 [some (.inr (.inl (some a))), some (.inl x), some (.inl y), some (.inl v)] [] h 0 0
    refine hV (fun _ => false) 80 _ _ _ _ _ _ ?_
    by_cases h1 : isPlaceF x y = true
    · have h2 : 0 ≤ x ∧ x < 12 ∧ 0 ≤ y ∧ y < 8 := of_decide_eq_true h1
      simp only [setRotF, h1, cond_true] at hK
      have hk2 := hK _ (roof_of ⟨hB.s_rot (uf_all (P := fun q => 0 ≤ q ∧ q ≤ 9) hB.rot_r hs.2), rc_rot hC (ab_uf S.rot (12 * y + x) v)⟩) (ab_fr.rf.up (by simp))
      simp only [c, c1, h1, bI_in, bI_0, bI_1, bI_t, bI_f, bI_01, Tr_X3_isPlace, ae_aload_n, ae_bipush, ae_getfield, ae_iadd, ae_iastore, ae_ifCond, ae_iload_n, ae_imul, ae_invokestatic, ae_return_, dX1_setRot_0, dX1_setRot_1, dX1_setRot_2, dX1_setRot_5, dX1_setRot_8, dX1_setRot_9, dX1_setRot_12, dX1_setRot_14, dX1_setRot_15, dX1_setRot_16, dX1_setRot_17, dX1_setRot_18, dX1_setRot_19, dX1_setRot_20, tbX1_g15, ca_X1_setRot_61, ab_wp0, ab_wps, ab_stp, ab_g, ab_st, ab_k2, ab_cl, ab_pop, ab_sz, ab_2, ab_ret, ab_f4, ab_tg, ab_I, ab_II, ab_A, ab_Rf, ab_VR, ab_IR, ab_VIR, ab_1, ab_LL, ab_DD, ab_ob, ab_pr, ab_qr, ab_ln, ab_so, ab_vI, ab_vA, ab_vD, ab_vL, ab_v2, ab_c, ab_fit, ab_rv, ab_tsw, ab_lsw, ab_up_eq, Fin.isValue, ab_f0, ab_f1, ab_f2, ab_f3, List.getElem?_cons_zero, List.getElem?_cons_succ, List.set_cons_zero, List.set_cons_succ, List.length_cons, List.length_nil, List.size_toArray, List.head?_cons, List.tail_cons, Option.map_some, cond_true, cond_false, true_and, and_true, false_and, and_false, not_true_eq_false, not_false_eq_true, true_imp_iff, false_imp_iff, if_true, if_false, ite_true, ite_false, ↓reduceIte, Nat.reduceAdd, Nat.reduceEqDiff, Nat.reduceLeDiff, Nat.reduceLT, Nat.reduceBEq, Nat.reduceBNe, Int.reduceAdd, Int.reduceNeg, Int.reduceSub, Int.reduceLE, Int.reduceLT, Int.reduceToNat, Int.reduceEq, Int.reduceMul, Int.cast_ofNat_Int, Nat.zero_add, Nat.add_zero, Nat.le_refl, eq_self, ne_eq, reduceCtorEq, or_true, true_or, or_false, false_or, Bool.or_true, Bool.or_false, Bool.true_or, Bool.false_or, Nat.zero_le, Int.le_refl, Int.ofNat_zero, Int.ofNat_one, Bool.false_eq_true]
      simp only [ab_in] at hs ⊢
      (repeat' (first | intro _ | refine And.intro ?_ ?_)) <;> (first | exact hk2 | contradiction | omega | (exfalso; omega))
    · simp only [setRotF, h1, cond_false] at hK
      have hk2 := hK h hP ab_fr.rf
      simp only [c, h1, bI_in, bI_0, bI_1, bI_t, bI_f, bI_01, Tr_X3_isPlace, ae_aload_n, ae_bipush, ae_getfield, ae_iadd, ae_iastore, ae_ifCond, ae_iload_n, ae_imul, ae_invokestatic, ae_return_, dX1_setRot_0, dX1_setRot_1, dX1_setRot_2, dX1_setRot_5, dX1_setRot_8, dX1_setRot_9, dX1_setRot_12, dX1_setRot_14, dX1_setRot_15, dX1_setRot_16, dX1_setRot_17, dX1_setRot_18, dX1_setRot_19, dX1_setRot_20, tbX1_g15, ca_X1_setRot_61, ab_wp0, ab_wps, ab_stp, ab_g, ab_st, ab_k2, ab_cl, ab_pop, ab_sz, ab_2, ab_ret, ab_f4, ab_tg, ab_I, ab_II, ab_A, ab_Rf, ab_VR, ab_IR, ab_VIR, ab_1, ab_LL, ab_DD, ab_ob, ab_pr, ab_qr, ab_ln, ab_so, ab_vI, ab_vA, ab_vD, ab_vL, ab_v2, ab_c, ab_fit, ab_rv, ab_tsw, ab_lsw, ab_up_eq, Fin.isValue, ab_f0, ab_f1, ab_f2, ab_f3, List.getElem?_cons_zero, List.getElem?_cons_succ, List.set_cons_zero, List.set_cons_succ, List.length_cons, List.length_nil, List.size_toArray, List.head?_cons, List.tail_cons, Option.map_some, cond_true, cond_false, true_and, and_true, false_and, and_false, not_true_eq_false, not_false_eq_true, true_imp_iff, false_imp_iff, if_true, if_false, ite_true, ite_false, ↓reduceIte, Nat.reduceAdd, Nat.reduceEqDiff, Nat.reduceLeDiff, Nat.reduceLT, Nat.reduceBEq, Nat.reduceBNe, Int.reduceAdd, Int.reduceNeg, Int.reduceSub, Int.reduceLE, Int.reduceLT, Int.reduceToNat, Int.reduceEq, Int.reduceMul, Int.cast_ofNat_Int, Nat.zero_add, Nat.add_zero, Nat.le_refl, eq_self, ne_eq, reduceCtorEq, or_true, true_or, or_false, false_or, Bool.or_true, Bool.or_false, Bool.true_or, Bool.false_or, Nat.zero_le, Int.le_refl, Int.ofNat_zero, Int.ofNat_one, Bool.false_eq_true]
      simp only [ab_in] at hs ⊢
      (repeat' (first | intro _ | refine And.intro ?_ ?_)) <;> (first | exact hk2 | contradiction | omega | (exfalso; omega))
  · exact hT.elim
set_option maxRecDepth 100000 in
theorem con_X1_setRot (l : Launch) (D : va_G) (ty : Nat → ClassId) (base : Nat) : ab_Con l D vwCl ty lw_ts base lw_wd yX1_setRot cX1_setRot 4 none 1 21 0 0 Tr_X1_setRot :=
  ab_con_of (own := RX1) (rt := 0) (tb := tbX1) (ini := false) (ca := ca_X1_setRot) (by decide +kernel) rfl (fun h => by cases h) rfl lw_wd_ok wtbX1 lw_ar cm_X1_setRot
    (fun p e R s m args below meth c K hcx => by
      obtain ⟨hx, hb, hml, hown, hF, rfl⟩ := hcx
      exact ab_lk_all (ab_all_c (ab_tc_SN (host := "SlateRoofs") hx hb hml hown lw_wd_ok hF ⟨rfl, rfl⟩ (con_X3_isPlace l D ty base) (lw_wi (by decide +kernel) (by decide +kernel)) (lw_wi (by decide +kernel) (by decide +kernel)) (lw_wi (by decide +kernel) (by decide +kernel)) (lw_wi (by decide +kernel) (by decide +kernel)) (by decide +kernel) ⟨by decide, by decide⟩) (ab_all_n)))
    (by intro as h K ht; unfold Tr_X1_setRot at ht; split at ht <;> first | exact ht.elim | exact Nat.le_of_ble_eq_true rfl) (sem_X1_setRot base)
noncomputable def Tr_X1_setNails : ATr := fun as h K => match as with
  | [.inr (.inl (some a)), .inl s, .inl v] => ab_so (ab_roof h a) fun P => (ab_in s ∧ (0 ≤ v ∧ v ≤ 3)) ∧ ∀ h', ab_roof h' a = some (P.1, setNailsF P.2 s v) → ab_fr h h' (a :: P.1) → K (none) h'
  | _ => False
theorem mo_X1_setNails : ab_mo Tr_X1_setNails := by
  intro as h K K' hk ht
  unfold Tr_X1_setNails at ht ⊢
  split at ht
  · exact ab_so_mo (fun P q => ⟨q.1, fun h' e1 e2 => hk _ _ (q.2 h' e1 e2)⟩) ht
  · exact ht.elim
def ca_X1_setNails : Nat → Option ACS := ab_lk [(65, (0, 1, 2, 0, 0, Tr_X1_isKnown))]
theorem ca_X1_setNails_65 : ca_X1_setNails 65 = some (0, 1, 2, 0, 0, Tr_X1_isKnown) := rfl
theorem cm_X1_setNails : ∀ i q, ca_X1_setNails i = some q → ab_moq i q := ab_lk_all (ab_all_c mo_X1_isKnown (ab_all_n))
set_option maxRecDepth 100000 in
set_option maxHeartbeats 2000000 in
theorem sem_X1_setNails (base : Nat) : ab_Sem tbX1 lw_ts base cX1_setNails ca_X1_setNails 0 3 0 0 (fun as => ab_en as 3) Tr_X1_setNails := by
  intro as h K hT V hV
  unfold Tr_X1_setNails at hT
  split at hT
  · rename_i a s v
    obtain ⟨⟨ns, S⟩, hP, hs, hK⟩ := ab_so_el hT
    obtain ⟨hB, hC⟩ := roof_el hP
    obtain ⟨n0, n1, n2, n3, n4, n5, n6, n7, n8, rfl, nd, c, c0, c1, c2, c3, c4, c5, c6, c7, c8⟩ := id hC

    dsimp only at hK hs
    show V 0 [some (.inr (.inl (some a))), some (.inl s), some (.inl v)] [] h 0 0
    have hl := hB.laid_r
    refine hV (fun _ => false) 80 _ _ _ _ _ _ ?_
    by_cases h1 : isKnownF S s = true
    · have h2 := isKnownF_t h1
      simp only [setNailsF, h1, cond_true] at hK
      have hk2 := hK _ (roof_of ⟨hB.s_nai (uf_all (P := fun q => 0 ≤ q ∧ q ≤ 3) hB.nai_r hs.2), rc_nai hC (ab_uf S.nai s v)⟩) (ab_fr.rf.up (by simp))
      simp only [c, c5, hP, h1, bI_in, bI_0, bI_1, bI_t, bI_f, bI_01, Tr_X1_isKnown, ae_aload_n, ae_getfield, ae_iastore, ae_ifCond, ae_iload_n, ae_invokevirtual, ae_return_, dX1_setNails_0, dX1_setNails_1, dX1_setNails_2, dX1_setNails_5, dX1_setNails_8, dX1_setNails_9, dX1_setNails_12, dX1_setNails_13, dX1_setNails_14, dX1_setNails_15, tbX1_g27, ca_X1_setNails_65, ab_wp0, ab_wps, ab_stp, ab_g, ab_st, ab_k2, ab_cl, ab_pop, ab_sz, ab_2, ab_ret, ab_f4, ab_tg, ab_I, ab_II, ab_A, ab_Rf, ab_VR, ab_IR, ab_VIR, ab_1, ab_LL, ab_DD, ab_ob, ab_pr, ab_qr, ab_ln, ab_so, ab_vI, ab_vA, ab_vD, ab_vL, ab_v2, ab_c, ab_fit, ab_rv, ab_tsw, ab_lsw, ab_up_eq, Fin.isValue, ab_f0, ab_f1, ab_f2, ab_f3, List.getElem?_cons_zero, List.getElem?_cons_succ, List.set_cons_zero, List.set_cons_succ, List.length_cons, List.length_nil, List.size_toArray, List.head?_cons, List.tail_cons, Option.map_some, cond_true, cond_false, true_and, and_true, false_and, and_false, not_true_eq_false, not_false_eq_true, true_imp_iff, false_imp_iff, if_true, if_false, ite_true, ite_false, ↓reduceIte, Nat.reduceAdd, Nat.reduceEqDiff, Nat.reduceLeDiff, Nat.reduceLT, Nat.reduceBEq, Nat.reduceBNe, Int.reduceAdd, Int.reduceNeg, Int.reduceSub, Int.reduceLE, Int.reduceLT, Int.reduceToNat, Int.reduceEq, Int.reduceMul, Int.cast_ofNat_Int, Nat.zero_add, Nat.add_zero, Nat.le_refl, eq_self, ne_eq, reduceCtorEq, or_true, true_or, or_false, false_or, Bool.or_true, Bool.or_false, Bool.true_or, Bool.false_or, Nat.zero_le, Int.le_refl, Int.ofNat_zero, Int.ofNat_one, Bool.false_eq_true]
      simp only [ab_in] at hs ⊢
      (repeat' (first | intro _ | refine And.intro ?_ ?_)) <;> (first | exact hk2 | contradiction | omega | (exfalso; omega))
    · simp only [setNailsF, h1, cond_false] at hK
      have hk2 := hK h hP ab_fr.rf
      simp only [c, hP, h1, bI_in, bI_0, bI_1, bI_t, bI_f, bI_01, Tr_X1_isKnown, ae_aload_n, ae_getfield, ae_iastore, ae_ifCond, ae_iload_n, ae_invokevirtual, ae_return_, dX1_setNails_0, dX1_setNails_1, dX1_setNails_2, dX1_setNails_5, dX1_setNails_8, dX1_setNails_9, dX1_setNails_12, dX1_setNails_13, dX1_setNails_14, dX1_setNails_15, tbX1_g27, ca_X1_setNails_65, ab_wp0, ab_wps, ab_stp, ab_g, ab_st, ab_k2, ab_cl, ab_pop, ab_sz, ab_2, ab_ret, ab_f4, ab_tg, ab_I, ab_II, ab_A, ab_Rf, ab_VR, ab_IR, ab_VIR, ab_1, ab_LL, ab_DD, ab_ob, ab_pr, ab_qr, ab_ln, ab_so, ab_vI, ab_vA, ab_vD, ab_vL, ab_v2, ab_c, ab_fit, ab_rv, ab_tsw, ab_lsw, ab_up_eq, Fin.isValue, ab_f0, ab_f1, ab_f2, ab_f3, List.getElem?_cons_zero, List.getElem?_cons_succ, List.set_cons_zero, List.set_cons_succ, List.length_cons, List.length_nil, List.size_toArray, List.head?_cons, List.tail_cons, Option.map_some, cond_true, cond_false, true_and, and_true, false_and, and_false, not_true_eq_false, not_false_eq_true, true_imp_iff, false_imp_iff, if_true, if_false, ite_true, ite_false, ↓reduceIte, Nat.reduceAdd, Nat.reduceEqDiff, Nat.reduceLeDiff, Nat.reduceLT, Nat.reduceBEq, Nat.reduceBNe, Int.reduceAdd, Int.reduceNeg, Int.reduceSub, Int.reduceLE, Int.reduceLT, Int.reduceToNat, Int.reduceEq, Int.reduceMul, Int.cast_ofNat_Int, Nat.zero_add, Nat.add_zero, Nat.le_refl, eq_self, ne_eq, reduceCtorEq, or_true, true_or, or_false, false_or, Bool.or_true, Bool.or_false, Bool.true_or, Bool.false_or, Nat.zero_le, Int.le_refl, Int.ofNat_zero, Int.ofNat_one, Bool.false_eq_true]
      simp only [ab_in] at hs ⊢
      (repeat' (first | intro _ | refine And.intro ?_ ?_)) <;> (first | exact hk2 | contradiction | omega | (exfalso; omega))
  · exact hT.elim
set_option maxRecDepth 100000 in
theorem con_X1_setNails (l : Launch) (D : va_G) (ty : Nat → ClassId) (base : Nat) : ab_Con l D vwCl ty lw_ts base lw_wd yX1_setNails cX1_setNails 3 none 1 21 0 0 Tr_X1_setNails :=
  ab_con_of (own := RX1) (rt := 0) (tb := tbX1) (ini := false) (ca := ca_X1_setNails) (by decide +kernel) rfl (fun h => by cases h) rfl lw_wd_ok wtbX1 lw_ar cm_X1_setNails
    (fun p e R s m args below meth c K hcx => by
      obtain ⟨hx, hb, hml, hown, hF, rfl⟩ := hcx
      exact ab_lk_all (ab_all_c (ab_tc_V hx hb hml hown lw_wd_ok hF ⟨rfl, rfl⟩ (con_X1_isKnown l D ty base) rfl (lw_wi (by decide +kernel) (by decide +kernel)) (lw_wi (by decide +kernel) (by decide +kernel)) (lw_wi (by decide +kernel) (by decide +kernel)) (lw_wi (by decide +kernel) (by decide +kernel)) (lw_wi (by decide +kernel) (by decide +kernel)) (by decide +kernel) ⟨by decide, by decide⟩) (ab_all_n)))
    (by intro as h K ht; unfold Tr_X1_setNails at ht; split at ht <;> first | exact ht.elim | exact Nat.le_of_ble_eq_true rfl) (sem_X1_setNails base)
