/-! ===== SlateRoofs: the public methods, on a fresh object ===== -/
noncomputable def TrX_X3_lay : ATr := fun as h K => match as with
  | [.inr (.inl (some a)), .inl row, .inl from9, .inl wide, .inl nails] => ab_so (ab_sr h a) fun P => (P.2 = sv0 ∧ ab_in row ∧ ab_in from9 ∧ ab_in wide ∧ ab_in nails) ∧ (fitsF row from9 wide = true ∧ decide (1 ≤ nails ∧ nails ≤ 3) = true → ∀ h', ab_fr h h' (a :: srL P.1) → K (some (.inl (0))) h') ∧ (fitsF row from9 wide = false ∨ decide (1 ≤ nails ∧ nails ≤ 3) = false → K (some (.inr (.inr (.inl (1 : Int))))) h)
  | _ => False
def ca_X3_lay : Nat → Option ACS := ab_lk [(33, (2, 0, 3, 0, 0, Tr_X3_fits)), (37, (2, 0, 1, 0, 0, Tr_X3_isNails)), (55, (0, 1, 4, 0, 0, Tr_X1_isFree)), (63, (0, 1, 5, 0, 0, Tr_X1_add))]
theorem ca_X3_lay_33 : ca_X3_lay 33 = some (2, 0, 3, 0, 0, Tr_X3_fits) := rfl
theorem ca_X3_lay_37 : ca_X3_lay 37 = some (2, 0, 1, 0, 0, Tr_X3_isNails) := rfl
theorem ca_X3_lay_55 : ca_X3_lay 55 = some (0, 1, 4, 0, 0, Tr_X1_isFree) := rfl
theorem ca_X3_lay_63 : ca_X3_lay 63 = some (0, 1, 5, 0, 0, Tr_X1_add) := rfl
theorem cm_X3_lay : ∀ i q, ca_X3_lay i = some q → ab_moq i q := ab_lk_all (ab_all_c mo_X3_fits (ab_all_c mo_X3_isNails (ab_all_c mo_X1_isFree (ab_all_c mo_X1_add (ab_all_n)))))
set_option maxRecDepth 100000 in
set_option maxHeartbeats 4000000 in
theorem semx_X3_lay (base : Nat) : ab_SemX tbX3 lw_ts base cX3_lay ca_X3_lay 1 5 1 6 (fun as => ab_en as 5) TrX_X3_lay [(17, 1), (65, 2)] := by
  intro as h K hT V hV hX
  unfold TrX_X3_lay at hT
  split at hT
  · rename_i a row from9 wide nails
    obtain ⟨⟨⟨⟨r, ns⟩, ⟨t, ms⟩, ⟨c, n⟩, b, q0, q1, q2, q3⟩, v9⟩, hP, ⟨hv9, hs⟩, hK⟩ := ab_so_el hT
    dsimp only at hv9
    subst hv9
    have hA := sr_el hP
    obtain ⟨D, D0, D1, D2, D3, D4⟩ := id hA
    dsimp only [sv0] at D D0 D1 D2 D3
    dsimp only at D4
    try dsimp only at hK hs
    obtain ⟨-, m0, m1, m2, m3, m4, m5, m6, m7, m8, hm9, -, e9, -⟩ := roof_el D0
    rw [r0_laid, r0_there, r0_day, r0_blown] at e9
    show V 0 [some (.inr (.inl (some a))), some (.inl row), some (.inl from9), some (.inl wide), some (.inl nails)] [] h 0 0
    obtain ⟨hK0, hK1⟩ := hK
    have x17 : ∀ ls st, ab_sz st ≤ 8 → K (some (.inr (.inr (.inl (1 : Int))))) h → V 17 ls st h 0 0 := fun ls st w1 w2 => hX (17, 1) (by simp) ls st h 0 0 w1 (by decide) (by decide) w2
    have x65 : ∀ ls st, ab_sz st ≤ 8 → K (some (.inr (.inr (.inl (2 : Int))))) h → V 65 ls st h 0 0 := fun ls st w1 w2 => hX (65, 2) (by simp) ls st h 0 0 w1 (by decide) (by decide) w2
    cases hf : fitsF row from9 wide
    · refine hV (fun p => p == 17) 80 _ _ _ _ _ _ ?_
      simp only [D, hf, bI_in, bI_0, bI_1, bI_t, bI_f, bI_01, r0_laid, r0_there, r0_day, r0_blown, br_known bareR0, br_there bareR0, br_num bareR0, br_rot bareR0, br_cov bareR0, br_free bareR0, br_covPl bareR0, br_crkTh bareR0, br_allRot bareR0, Tr_X3_fits, ae_ifCond, ae_iload, ae_iload_n, ae_invokestatic, dX3_lay_0, dX3_lay_1, dX3_lay_2, dX3_lay_3, dX3_lay_6, dX3_lay_9, dX3_lay_11, dX3_lay_14, ca_X3_lay_33, ca_X3_lay_37, ca_X3_lay_55, ca_X3_lay_63, ab_wp0, ab_wps, ab_stp, ab_g, ab_st, ab_k2, ab_cl, ab_pop, ab_sz, ab_2, ab_ret, ab_f4, ab_tg, ab_I, ab_II, ab_A, ab_Rf, ab_VR, ab_IR, ab_VIR, ab_1, ab_LL, ab_DD, ab_ob, ab_pr, ab_qr, ab_ln, ab_so, ab_vI, ab_vA, ab_vD, ab_vL, ab_v2, ab_c, ab_fit, ab_rv, ab_tsw, ab_lsw, ab_up_eq, Fin.isValue, ab_f0, ab_f1, ab_f2, ab_f3, List.getElem?_cons_zero, List.getElem?_cons_succ, List.set_cons_zero, List.set_cons_succ, List.length_cons, List.length_nil, List.size_toArray, List.head?_cons, List.tail_cons, Option.map_some, cond_true, cond_false, true_and, and_true, false_and, and_false, not_true_eq_false, not_false_eq_true, true_imp_iff, false_imp_iff, if_true, if_false, ite_true, ite_false, ↓reduceIte, Nat.reduceAdd, Nat.reduceEqDiff, Nat.reduceLeDiff, Nat.reduceLT, Nat.reduceBEq, Nat.reduceBNe, Int.reduceAdd, Int.reduceNeg, Int.reduceSub, Int.reduceLE, Int.reduceLT, Int.reduceToNat, Int.reduceEq, Int.reduceMul, Int.cast_ofNat_Int, Nat.zero_add, Nat.add_zero, Nat.le_refl, eq_self, ne_eq, reduceCtorEq, or_true, true_or, or_false, false_or, Bool.or_true, Bool.or_false, Bool.true_or, Bool.false_or, Nat.zero_le, Int.le_refl, Int.ofNat_zero, Int.ofNat_one, Bool.false_eq_true]
      try simp only [ab_in] at hs ⊢
      (repeat' (first | intro _ | refine And.intro ?_ ?_)) <;> (first | exact x17 _ _ (by decide) (hK1 (Or.inl hf)) | contradiction | omega | (exfalso; omega))
    · cases hn : decide (1 ≤ nails ∧ nails ≤ 3)
      · refine hV (fun p => p == 17 || p == 27) 80 _ _ _ _ _ _ ?_
        simp only [D, hf, hn, bI_in, bI_0, bI_1, bI_t, bI_f, bI_01, r0_laid, r0_there, r0_day, r0_blown, br_known bareR0, br_there bareR0, br_num bareR0, br_rot bareR0, br_cov bareR0, br_free bareR0, br_covPl bareR0, br_crkTh bareR0, br_allRot bareR0, Tr_X3_fits, Tr_X3_isNails, ae_ifCond, ae_iload, ae_iload_n, ae_invokestatic, dX3_lay_0, dX3_lay_1, dX3_lay_2, dX3_lay_3, dX3_lay_6, dX3_lay_9, dX3_lay_11, dX3_lay_14, ca_X3_lay_33, ca_X3_lay_37, ca_X3_lay_55, ca_X3_lay_63, ab_wp0, ab_wps, ab_stp, ab_g, ab_st, ab_k2, ab_cl, ab_pop, ab_sz, ab_2, ab_ret, ab_f4, ab_tg, ab_I, ab_II, ab_A, ab_Rf, ab_VR, ab_IR, ab_VIR, ab_1, ab_LL, ab_DD, ab_ob, ab_pr, ab_qr, ab_ln, ab_so, ab_vI, ab_vA, ab_vD, ab_vL, ab_v2, ab_c, ab_fit, ab_rv, ab_tsw, ab_lsw, ab_up_eq, Fin.isValue, ab_f0, ab_f1, ab_f2, ab_f3, List.getElem?_cons_zero, List.getElem?_cons_succ, List.set_cons_zero, List.set_cons_succ, List.length_cons, List.length_nil, List.size_toArray, List.head?_cons, List.tail_cons, Option.map_some, cond_true, cond_false, true_and, and_true, false_and, and_false, not_true_eq_false, not_false_eq_true, true_imp_iff, false_imp_iff, if_true, if_false, ite_true, ite_false, ↓reduceIte, Nat.reduceAdd, Nat.reduceEqDiff, Nat.reduceLeDiff, Nat.reduceLT, Nat.reduceBEq, Nat.reduceBNe, Int.reduceAdd, Int.reduceNeg, Int.reduceSub, Int.reduceLE, Int.reduceLT, Int.reduceToNat, Int.reduceEq, Int.reduceMul, Int.cast_ofNat_Int, Nat.zero_add, Nat.add_zero, Nat.le_refl, eq_self, ne_eq, reduceCtorEq, or_true, true_or, or_false, false_or, Bool.or_true, Bool.or_false, Bool.true_or, Bool.false_or, Nat.zero_le, Int.le_refl, Int.ofNat_zero, Int.ofNat_one, Bool.false_eq_true]
        try simp only [ab_in] at hs ⊢
        (repeat' (first | intro _ | refine And.intro ?_ ?_)) <;> (first | exact x17 _ _ (by decide) (hK1 (Or.inr hn)) | contradiction | omega | (exfalso; omega))
      · have hf2 : (0 ≤ from9 ∧ from9 < 12 ∧ 0 ≤ row ∧ row < 8) ∧ 1 ≤ wide ∧ wide ≤ 4 ∧ wide ≤ 12 - from9 := of_decide_eq_true hf
        have hn2 := of_decide_eq_true hn
        have hk : ∀ h', ab_fr h h' (r :: ns) → K (some (.inl 0)) h' := fun h' w => hK0 ⟨hf, hn⟩ h' (w.sub (by intro q hq; simp only [srL]; exact List.mem_cons_of_mem _ (List.mem_append.mpr (Or.inl hq))))
        refine hV (fun _ => false) 80 _ _ _ _ _ _ ?_
        simp only [D, D0, e9, hf, hn, bI_in, bI_0, bI_1, bI_t, bI_f, bI_01, r0_laid, r0_there, r0_day, r0_blown, br_known bareR0, br_there bareR0, br_num bareR0, br_rot bareR0, br_cov bareR0, br_free bareR0, br_covPl bareR0, br_crkTh bareR0, br_allRot bareR0, Tr_X3_fits, Tr_X3_isNails, Tr_X1_isFree, Tr_X1_add, ae_aload_n, ae_bipush, ae_dup, ae_getfield, ae_ifCond, ae_if_icmp, ae_iload, ae_iload_n, ae_invokespecial, ae_invokestatic, ae_invokevirtual, ae_ireturn, ae_ldc, ae_new, ae_sipush, dX3_lay_0, dX3_lay_1, dX3_lay_2, dX3_lay_3, dX3_lay_6, dX3_lay_9, dX3_lay_11, dX3_lay_14, dX3_lay_17, dX3_lay_20, dX3_lay_21, dX3_lay_23, dX3_lay_26, dX3_lay_27, dX3_lay_28, dX3_lay_31, dX3_lay_34, dX3_lay_36, dX3_lay_39, dX3_lay_40, dX3_lay_43, dX3_lay_46, dX3_lay_49, dX3_lay_52, dX3_lay_53, dX3_lay_56, dX3_lay_57, dX3_lay_58, dX3_lay_59, dX3_lay_62, dX3_lay_65, dX3_lay_68, dX3_lay_69, dX3_lay_71, dX3_lay_74, dX3_lay_75, dX3_lay_76, dX3_lay_79, dX3_lay_80, dX3_lay_81, dX3_lay_82, dX3_lay_84, dX3_lay_87, tbX3_g12, tbX3_g48, tbX3_g52, ca_X3_lay_33, ca_X3_lay_37, ca_X3_lay_55, ca_X3_lay_63, ab_wp0, ab_wps, ab_stp, ab_g, ab_st, ab_k2, ab_cl, ab_pop, ab_sz, ab_2, ab_ret, ab_f4, ab_tg, ab_I, ab_II, ab_A, ab_Rf, ab_VR, ab_IR, ab_VIR, ab_1, ab_LL, ab_DD, ab_ob, ab_pr, ab_qr, ab_ln, ab_so, ab_vI, ab_vA, ab_vD, ab_vL, ab_v2, ab_c, ab_fit, ab_rv, ab_tsw, ab_lsw, ab_up_eq, Fin.isValue, ab_f0, ab_f1, ab_f2, ab_f3, List.getElem?_cons_zero, List.getElem?_cons_succ, List.set_cons_zero, List.set_cons_succ, List.length_cons, List.length_nil, List.size_toArray, List.head?_cons, List.tail_cons, Option.map_some, cond_true, cond_false, true_and, and_true, false_and, and_false, not_true_eq_false, not_false_eq_true, true_imp_iff, false_imp_iff, if_true, if_false, ite_true, ite_false, ↓reduceIte, Nat.reduceAdd, Nat.reduceEqDiff, Nat.reduceLeDiff, Nat.reduceLT, Nat.reduceBEq, Nat.reduceBNe, Int.reduceAdd, Int.reduceNeg, Int.reduceSub, Int.reduceLE, Int.reduceLT, Int.reduceToNat, Int.reduceEq, Int.reduceMul, Int.cast_ofNat_Int, Nat.zero_add, Nat.add_zero, Nat.le_refl, eq_self, ne_eq, reduceCtorEq, or_true, true_or, or_false, false_or, Bool.or_true, Bool.or_false, Bool.true_or, Bool.false_or, Nat.zero_le, Int.le_refl, Int.ofNat_zero, Int.ofNat_one, Bool.false_eq_true]
        try simp only [ab_in] at hs ⊢
        (repeat' (first | intro _ | refine And.intro ?_ ?_)) <;> (first | exact hk _ (by assumption) | contradiction | omega | (exfalso; omega))
  · exact hT.elim
set_option maxRecDepth 100000 in
theorem conx_X3_lay (l : Launch) (hl : l.stackTraces = false) (D : va_G) (ty : Nat → ClassId) (base : Nat) : ab_ConX l D vwCl ty lw_ts base lw_wd yX3_lay cX3_lay 5 (some .int) 6 90 1 6 TrX_X3_lay :=
  ab_conX_of hl (own := RX3) (rt := 1) (tb := tbX3) (ini := false) (ca := ca_X3_lay) (xs := [(17, 1), (65, 2)]) (by decide +kernel) rfl (fun h => by cases h) rfl lw_wd_ok wtbX3 lw_ar cm_X3_lay
    (fun p e R s m args below meth c K hcx => by
      obtain ⟨hx, hb, hml, hown, hF, rfl⟩ := hcx
      exact ab_lk_all (ab_all_c (ab_tc_S hx hb hml hown lw_wd_ok hF ⟨rfl, rfl⟩ (con_X3_fits l D ty base) (lw_wi (by decide +kernel) (by decide +kernel)) (lw_wi (by decide +kernel) (by decide +kernel)) (lw_wi (by decide +kernel) (by decide +kernel)) (lw_wi (by decide +kernel) (by decide +kernel)) (by decide +kernel) ⟨by decide, by decide⟩) (ab_all_c (ab_tc_S hx hb hml hown lw_wd_ok hF ⟨rfl, rfl⟩ (con_X3_isNails l D ty base) (lw_wi (by decide +kernel) (by decide +kernel)) (lw_wi (by decide +kernel) (by decide +kernel)) (lw_wi (by decide +kernel) (by decide +kernel)) (lw_wi (by decide +kernel) (by decide +kernel)) (by decide +kernel) ⟨by decide, by decide⟩) (ab_all_c (ab_tc_V hx hb hml hown lw_wd_ok hF ⟨rfl, rfl⟩ (con_X1_isFree l D ty base) rfl (lw_wi (by decide +kernel) (by decide +kernel)) (lw_wi (by decide +kernel) (by decide +kernel)) (lw_wi (by decide +kernel) (by decide +kernel)) (lw_wi (by decide +kernel) (by decide +kernel)) (lw_wi (by decide +kernel) (by decide +kernel)) (by decide +kernel) ⟨by decide, by decide⟩) (ab_all_c (ab_tc_V hx hb hml hown lw_wd_ok hF ⟨rfl, rfl⟩ (con_X1_add l D ty base) rfl (lw_wi (by decide +kernel) (by decide +kernel)) (lw_wi (by decide +kernel) (by decide +kernel)) (lw_wi (by decide +kernel) (by decide +kernel)) (lw_wi (by decide +kernel) (by decide +kernel)) (lw_wi (by decide +kernel) (by decide +kernel)) (by decide +kernel) ⟨by decide, by decide⟩) (ab_all_n))))))
    (by intro as h K ht; unfold TrX_X3_lay at ht; split at ht <;> first | exact ht.elim | exact Nat.le_of_ble_eq_true rfl)
    (List.forall_mem_cons.mpr ⟨⟨Or.inl rfl, 41, 43, 45, "no such row, place, width or nails", dX3_lay_17, dX3_lay_20, dX3_lay_21, dX3_lay_23, dX3_lay_26, (lw_wi (by decide +kernel) (by decide +kernel)), (lw_wi (by decide +kernel) (by decide +kernel)), (lw_wi (by decide +kernel) (by decide +kernel)), lw_wa (by decide +kernel) (by decide +kernel), by decide +kernel⟩, List.forall_mem_cons.mpr ⟨⟨Or.inr (Or.inl rfl), 58, 60, 62, "too many slates, or one is in the way", dX3_lay_65, dX3_lay_68, dX3_lay_69, dX3_lay_71, dX3_lay_74, (lw_wi (by decide +kernel) (by decide +kernel)), (lw_wi (by decide +kernel) (by decide +kernel)), (lw_wi (by decide +kernel) (by decide +kernel)), lw_wa (by decide +kernel) (by decide +kernel), by decide +kernel⟩, fun _ h => absurd h List.not_mem_nil⟩⟩) ⟨by decide, by decide⟩ (by decide) (semx_X3_lay base)
noncomputable def TrX_X3_take : ATr := fun as h K => match as with
  | [.inr (.inl (some a)), .inl s] => ab_so (ab_sr h a) fun P => (P.2 = sv0 ∧ ab_in s) ∧ (True → K (some (.inr (.inr (.inl (3 : Int))))) h)
  | _ => False
def ca_X3_take : Nat → Option ACS := ab_lk [(67, (0, 1, 2, 0, 0, Tr_X1_isKnown)), (75, (0, 1, 2, 0, 0, Tr_X1_isOpen)), (80, (0, 1, 2, 0, 0, Tr_X1_remove)), (84, (0, 1, 2, 0, 0, Tr_X1_nailsOf))]
theorem ca_X3_take_67 : ca_X3_take 67 = some (0, 1, 2, 0, 0, Tr_X1_isKnown) := rfl
theorem ca_X3_take_75 : ca_X3_take 75 = some (0, 1, 2, 0, 0, Tr_X1_isOpen) := rfl
theorem ca_X3_take_80 : ca_X3_take 80 = some (0, 1, 2, 0, 0, Tr_X1_remove) := rfl
theorem ca_X3_take_84 : ca_X3_take 84 = some (0, 1, 2, 0, 0, Tr_X1_nailsOf) := rfl
theorem cm_X3_take : ∀ i q, ca_X3_take i = some q → ab_moq i q := ab_lk_all (ab_all_c mo_X1_isKnown (ab_all_c mo_X1_isOpen (ab_all_c mo_X1_remove (ab_all_c mo_X1_nailsOf (ab_all_n)))))
set_option maxRecDepth 100000 in
set_option maxHeartbeats 4000000 in
theorem semx_X3_take (base : Nat) : ab_SemX tbX3 lw_ts base cX3_take ca_X3_take 1 2 1 6 (fun as => ab_en as 2) TrX_X3_take [(11, 3), (32, 2)] := by
  intro as h K hT V hV hX
  unfold TrX_X3_take at hT
  split at hT
  · rename_i a s
    obtain ⟨⟨⟨⟨r, ns⟩, ⟨t, ms⟩, ⟨c, n⟩, b, q0, q1, q2, q3⟩, v9⟩, hP, ⟨hv9, hs⟩, hK⟩ := ab_so_el hT
    dsimp only at hv9
    subst hv9
    have hA := sr_el hP
    obtain ⟨D, D0, D1, D2, D3, D4⟩ := id hA
    dsimp only [sv0] at D D0 D1 D2 D3
    dsimp only at D4
    try dsimp only at hK hs
    obtain ⟨-, m0, m1, m2, m3, m4, m5, m6, m7, m8, hm9, -, e9, -⟩ := roof_el D0
    rw [r0_laid, r0_there, r0_day, r0_blown] at e9
    show V 0 [some (.inr (.inl (some a))), some (.inl s)] [] h 0 0
    have hK0 := hK
    have x11 : ∀ ls st, ab_sz st ≤ 8 → K (some (.inr (.inr (.inl (3 : Int))))) h → V 11 ls st h 0 0 := fun ls st w1 w2 => hX (11, 3) (by simp) ls st h 0 0 w1 (by decide) (by decide) w2
    have x32 : ∀ ls st, ab_sz st ≤ 8 → K (some (.inr (.inr (.inl (2 : Int))))) h → V 32 ls st h 0 0 := fun ls st w1 w2 => hX (32, 2) (by simp) ls st h 0 0 w1 (by decide) (by decide) w2
    refine hV (fun p => p == 11 || p == 21) 80 _ _ _ _ _ _ ?_
    simp only [D, D0, e9, bI_in, bI_0, bI_1, bI_t, bI_f, bI_01, r0_laid, r0_there, r0_day, r0_blown, br_known bareR0, br_there bareR0, br_num bareR0, br_rot bareR0, br_cov bareR0, br_free bareR0, br_covPl bareR0, br_crkTh bareR0, br_allRot bareR0, Tr_X1_isKnown, ae_aload_n, ae_getfield, ae_ifCond, ae_iload_n, ae_invokevirtual, dX3_take_0, dX3_take_1, dX3_take_4, dX3_take_5, dX3_take_8, tbX3_g12, ca_X3_take_67, ca_X3_take_75, ca_X3_take_80, ca_X3_take_84, ab_wp0, ab_wps, ab_stp, ab_g, ab_st, ab_k2, ab_cl, ab_pop, ab_sz, ab_2, ab_ret, ab_f4, ab_tg, ab_I, ab_II, ab_A, ab_Rf, ab_VR, ab_IR, ab_VIR, ab_1, ab_LL, ab_DD, ab_ob, ab_pr, ab_qr, ab_ln, ab_so, ab_vI, ab_vA, ab_vD, ab_vL, ab_v2, ab_c, ab_fit, ab_rv, ab_tsw, ab_lsw, ab_up_eq, Fin.isValue, ab_f0, ab_f1, ab_f2, ab_f3, List.getElem?_cons_zero, List.getElem?_cons_succ, List.set_cons_zero, List.set_cons_succ, List.length_cons, List.length_nil, List.size_toArray, List.head?_cons, List.tail_cons, Option.map_some, cond_true, cond_false, true_and, and_true, false_and, and_false, not_true_eq_false, not_false_eq_true, true_imp_iff, false_imp_iff, if_true, if_false, ite_true, ite_false, ↓reduceIte, Nat.reduceAdd, Nat.reduceEqDiff, Nat.reduceLeDiff, Nat.reduceLT, Nat.reduceBEq, Nat.reduceBNe, Int.reduceAdd, Int.reduceNeg, Int.reduceSub, Int.reduceLE, Int.reduceLT, Int.reduceToNat, Int.reduceEq, Int.reduceMul, Int.cast_ofNat_Int, Nat.zero_add, Nat.add_zero, Nat.le_refl, eq_self, ne_eq, reduceCtorEq, or_true, true_or, or_false, false_or, Bool.or_true, Bool.or_false, Bool.true_or, Bool.false_or, Nat.zero_le, Int.le_refl, Int.ofNat_zero, Int.ofNat_one, Bool.false_eq_true]
    try simp only [ab_in] at hs ⊢
    (repeat' (first | intro _ | refine And.intro ?_ ?_)) <;> (first | exact x11 _ _ (by decide) (hK0 trivial) | contradiction | omega | (exfalso; omega))
  · exact hT.elim
set_option maxRecDepth 100000 in
theorem conx_X3_take (l : Launch) (hl : l.stackTraces = false) (D : va_G) (ty : Nat → ClassId) (base : Nat) : ab_ConX l D vwCl ty lw_ts base lw_wd yX3_take cX3_take 2 (some .int) 6 90 1 6 TrX_X3_take :=
  ab_conX_of hl (own := RX3) (rt := 1) (tb := tbX3) (ini := false) (ca := ca_X3_take) (xs := [(11, 3), (32, 2)]) (by decide +kernel) rfl (fun h => by cases h) rfl lw_wd_ok wtbX3 lw_ar cm_X3_take
    (fun p e R s m args below meth c K hcx => by
      obtain ⟨hx, hb, hml, hown, hF, rfl⟩ := hcx
      exact ab_lk_all (ab_all_c (ab_tc_V hx hb hml hown lw_wd_ok hF ⟨rfl, rfl⟩ (con_X1_isKnown l D ty base) rfl (lw_wi (by decide +kernel) (by decide +kernel)) (lw_wi (by decide +kernel) (by decide +kernel)) (lw_wi (by decide +kernel) (by decide +kernel)) (lw_wi (by decide +kernel) (by decide +kernel)) (lw_wi (by decide +kernel) (by decide +kernel)) (by decide +kernel) ⟨by decide, by decide⟩) (ab_all_c (ab_tc_V hx hb hml hown lw_wd_ok hF ⟨rfl, rfl⟩ (con_X1_isOpen l D ty base) rfl (lw_wi (by decide +kernel) (by decide +kernel)) (lw_wi (by decide +kernel) (by decide +kernel)) (lw_wi (by decide +kernel) (by decide +kernel)) (lw_wi (by decide +kernel) (by decide +kernel)) (lw_wi (by decide +kernel) (by decide +kernel)) (by decide +kernel) ⟨by decide, by decide⟩) (ab_all_c (ab_tc_V hx hb hml hown lw_wd_ok hF ⟨rfl, rfl⟩ (con_X1_remove l D ty base) rfl (lw_wi (by decide +kernel) (by decide +kernel)) (lw_wi (by decide +kernel) (by decide +kernel)) (lw_wi (by decide +kernel) (by decide +kernel)) (lw_wi (by decide +kernel) (by decide +kernel)) (lw_wi (by decide +kernel) (by decide +kernel)) (by decide +kernel) ⟨by decide, by decide⟩) (ab_all_c (ab_tc_V hx hb hml hown lw_wd_ok hF ⟨rfl, rfl⟩ (con_X1_nailsOf l D ty base) rfl (lw_wi (by decide +kernel) (by decide +kernel)) (lw_wi (by decide +kernel) (by decide +kernel)) (lw_wi (by decide +kernel) (by decide +kernel)) (lw_wi (by decide +kernel) (by decide +kernel)) (lw_wi (by decide +kernel) (by decide +kernel)) (by decide +kernel) ⟨by decide, by decide⟩) (ab_all_n))))))
    (by intro as h K ht; unfold TrX_X3_take at ht; split at ht <;> first | exact ht.elim | exact Nat.le_of_ble_eq_true rfl)
    (List.forall_mem_cons.mpr ⟨⟨Or.inr (Or.inr rfl), 70, 72, 74, "no such slate", dX3_take_11, dX3_take_14, dX3_take_15, dX3_take_17, dX3_take_20, (lw_wi (by decide +kernel) (by decide +kernel)), (lw_wi (by decide +kernel) (by decide +kernel)), (lw_wi (by decide +kernel) (by decide +kernel)), lw_wa (by decide +kernel) (by decide +kernel), by decide +kernel⟩, List.forall_mem_cons.mpr ⟨⟨Or.inr (Or.inl rfl), 58, 78, 62, "the slate is off the roof, or one lies upon it", dX3_take_32, dX3_take_35, dX3_take_36, dX3_take_38, dX3_take_41, (lw_wi (by decide +kernel) (by decide +kernel)), (lw_wi (by decide +kernel) (by decide +kernel)), (lw_wi (by decide +kernel) (by decide +kernel)), lw_wa (by decide +kernel) (by decide +kernel), by decide +kernel⟩, fun _ h => absurd h List.not_mem_nil⟩⟩) ⟨by decide, by decide⟩ (by decide) (semx_X3_take base)
noncomputable def TrX_X3_nail : ATr := fun as h K => match as with
  | [.inr (.inl (some a)), .inl s, .inl nails] => ab_so (ab_sr h a) fun P => (P.2 = sv0 ∧ ab_in s ∧ ab_in nails) ∧ (True → K (some (.inr (.inr (.inl (3 : Int))))) h)
  | _ => False
def ca_X3_nail : Nat → Option ACS := ab_lk [(67, (0, 1, 2, 0, 0, Tr_X1_isKnown)), (37, (2, 0, 1, 0, 0, Tr_X3_isNails)), (75, (0, 1, 2, 0, 0, Tr_X1_isOpen)), (84, (0, 1, 2, 0, 0, Tr_X1_nailsOf)), (90, (0, 1, 3, 0, 0, Tr_X1_setNails))]
theorem ca_X3_nail_67 : ca_X3_nail 67 = some (0, 1, 2, 0, 0, Tr_X1_isKnown) := rfl
theorem ca_X3_nail_37 : ca_X3_nail 37 = some (2, 0, 1, 0, 0, Tr_X3_isNails) := rfl
theorem ca_X3_nail_75 : ca_X3_nail 75 = some (0, 1, 2, 0, 0, Tr_X1_isOpen) := rfl
theorem ca_X3_nail_84 : ca_X3_nail 84 = some (0, 1, 2, 0, 0, Tr_X1_nailsOf) := rfl
theorem ca_X3_nail_90 : ca_X3_nail 90 = some (0, 1, 3, 0, 0, Tr_X1_setNails) := rfl
theorem cm_X3_nail : ∀ i q, ca_X3_nail i = some q → ab_moq i q := ab_lk_all (ab_all_c mo_X1_isKnown (ab_all_c mo_X3_isNails (ab_all_c mo_X1_isOpen (ab_all_c mo_X1_nailsOf (ab_all_c mo_X1_setNails (ab_all_n))))))
set_option maxRecDepth 100000 in
set_option maxHeartbeats 4000000 in
theorem semx_X3_nail (base : Nat) : ab_SemX tbX3 lw_ts base cX3_nail ca_X3_nail 1 4 1 6 (fun as => ab_en as 4) TrX_X3_nail [(11, 3), (28, 1), (49, 2)] := by
  intro as h K hT V hV hX
  unfold TrX_X3_nail at hT
  split at hT
  · rename_i a s nails
    obtain ⟨⟨⟨⟨r, ns⟩, ⟨t, ms⟩, ⟨c, n⟩, b, q0, q1, q2, q3⟩, v9⟩, hP, ⟨hv9, hs⟩, hK⟩ := ab_so_el hT
    dsimp only at hv9
    subst hv9
    have hA := sr_el hP
    obtain ⟨D, D0, D1, D2, D3, D4⟩ := id hA
    dsimp only [sv0] at D D0 D1 D2 D3
    dsimp only at D4
    try dsimp only at hK hs
    obtain ⟨-, m0, m1, m2, m3, m4, m5, m6, m7, m8, hm9, -, e9, -⟩ := roof_el D0
    rw [r0_laid, r0_there, r0_day, r0_blown] at e9
    show V 0 [some (.inr (.inl (some a))), some (.inl s), some (.inl nails), none] [] h 0 0
    have hK0 := hK
    have x11 : ∀ ls st, ab_sz st ≤ 8 → K (some (.inr (.inr (.inl (3 : Int))))) h → V 11 ls st h 0 0 := fun ls st w1 w2 => hX (11, 3) (by simp) ls st h 0 0 w1 (by decide) (by decide) w2
    have x28 : ∀ ls st, ab_sz st ≤ 8 → K (some (.inr (.inr (.inl (1 : Int))))) h → V 28 ls st h 0 0 := fun ls st w1 w2 => hX (28, 1) (by simp) ls st h 0 0 w1 (by decide) (by decide) w2
    have x49 : ∀ ls st, ab_sz st ≤ 8 → K (some (.inr (.inr (.inl (2 : Int))))) h → V 49 ls st h 0 0 := fun ls st w1 w2 => hX (49, 2) (by simp) ls st h 0 0 w1 (by decide) (by decide) w2
    refine hV (fun p => p == 11 || p == 21) 80 _ _ _ _ _ _ ?_
    simp only [D, D0, e9, bI_in, bI_0, bI_1, bI_t, bI_f, bI_01, r0_laid, r0_there, r0_day, r0_blown, br_known bareR0, br_there bareR0, br_num bareR0, br_rot bareR0, br_cov bareR0, br_free bareR0, br_covPl bareR0, br_crkTh bareR0, br_allRot bareR0, Tr_X1_isKnown, ae_aload_n, ae_getfield, ae_ifCond, ae_iload_n, ae_invokevirtual, dX3_nail_0, dX3_nail_1, dX3_nail_4, dX3_nail_5, dX3_nail_8, tbX3_g12, ca_X3_nail_67, ca_X3_nail_37, ca_X3_nail_75, ca_X3_nail_84, ca_X3_nail_90, ab_wp0, ab_wps, ab_stp, ab_g, ab_st, ab_k2, ab_cl, ab_pop, ab_sz, ab_2, ab_ret, ab_f4, ab_tg, ab_I, ab_II, ab_A, ab_Rf, ab_VR, ab_IR, ab_VIR, ab_1, ab_LL, ab_DD, ab_ob, ab_pr, ab_qr, ab_ln, ab_so, ab_vI, ab_vA, ab_vD, ab_vL, ab_v2, ab_c, ab_fit, ab_rv, ab_tsw, ab_lsw, ab_up_eq, Fin.isValue, ab_f0, ab_f1, ab_f2, ab_f3, List.getElem?_cons_zero, List.getElem?_cons_succ, List.set_cons_zero, List.set_cons_succ, List.length_cons, List.length_nil, List.size_toArray, List.head?_cons, List.tail_cons, Option.map_some, cond_true, cond_false, true_and, and_true, false_and, and_false, not_true_eq_false, not_false_eq_true, true_imp_iff, false_imp_iff, if_true, if_false, ite_true, ite_false, ↓reduceIte, Nat.reduceAdd, Nat.reduceEqDiff, Nat.reduceLeDiff, Nat.reduceLT, Nat.reduceBEq, Nat.reduceBNe, Int.reduceAdd, Int.reduceNeg, Int.reduceSub, Int.reduceLE, Int.reduceLT, Int.reduceToNat, Int.reduceEq, Int.reduceMul, Int.cast_ofNat_Int, Nat.zero_add, Nat.add_zero, Nat.le_refl, eq_self, ne_eq, reduceCtorEq, or_true, true_or, or_false, false_or, Bool.or_true, Bool.or_false, Bool.true_or, Bool.false_or, Nat.zero_le, Int.le_refl, Int.ofNat_zero, Int.ofNat_one, Bool.false_eq_true]
    try simp only [ab_in] at hs ⊢
    (repeat' (first | intro _ | refine And.intro ?_ ?_)) <;> (first | exact x11 _ _ (by decide) (hK0 trivial) | contradiction | omega | (exfalso; omega))
  · exact hT.elim
set_option maxRecDepth 100000 in
theorem conx_X3_nail (l : Launch) (hl : l.stackTraces = false) (D : va_G) (ty : Nat → ClassId) (base : Nat) : ab_ConX l D vwCl ty lw_ts base lw_wd yX3_nail cX3_nail 4 (some .int) 6 90 1 6 TrX_X3_nail :=
  ab_conX_of hl (own := RX3) (rt := 1) (tb := tbX3) (ini := false) (ca := ca_X3_nail) (xs := [(11, 3), (28, 1), (49, 2)]) (by decide +kernel) rfl (fun h => by cases h) rfl lw_wd_ok wtbX3 lw_ar cm_X3_nail
    (fun p e R s m args below meth c K hcx => by
      obtain ⟨hx, hb, hml, hown, hF, rfl⟩ := hcx
      exact ab_lk_all (ab_all_c (ab_tc_V hx hb hml hown lw_wd_ok hF ⟨rfl, rfl⟩ (con_X1_isKnown l D ty base) rfl (lw_wi (by decide +kernel) (by decide +kernel)) (lw_wi (by decide +kernel) (by decide +kernel)) (lw_wi (by decide +kernel) (by decide +kernel)) (lw_wi (by decide +kernel) (by decide +kernel)) (lw_wi (by decide +kernel) (by decide +kernel)) (by decide +kernel) ⟨by decide, by decide⟩) (ab_all_c (ab_tc_S hx hb hml hown lw_wd_ok hF ⟨rfl, rfl⟩ (con_X3_isNails l D ty base) (lw_wi (by decide +kernel) (by decide +kernel)) (lw_wi (by decide +kernel) (by decide +kernel)) (lw_wi (by decide +kernel) (by decide +kernel)) (lw_wi (by decide +kernel) (by decide +kernel)) (by decide +kernel) ⟨by decide, by decide⟩) (ab_all_c (ab_tc_V hx hb hml hown lw_wd_ok hF ⟨rfl, rfl⟩ (con_X1_isOpen l D ty base) rfl (lw_wi (by decide +kernel) (by decide +kernel)) (lw_wi (by decide +kernel) (by decide +kernel)) (lw_wi (by decide +kernel) (by decide +kernel)) (lw_wi (by decide +kernel) (by decide +kernel)) (lw_wi (by decide +kernel) (by decide +kernel)) (by decide +kernel) ⟨by decide, by decide⟩) (ab_all_c (ab_tc_V hx hb hml hown lw_wd_ok hF ⟨rfl, rfl⟩ (con_X1_nailsOf l D ty base) rfl (lw_wi (by decide +kernel) (by decide +kernel)) (lw_wi (by decide +kernel) (by decide +kernel)) (lw_wi (by decide +kernel) (by decide +kernel)) (lw_wi (by decide +kernel) (by decide +kernel)) (lw_wi (by decide +kernel) (by decide +kernel)) (by decide +kernel) ⟨by decide, by decide⟩) (ab_all_c (ab_tc_V hx hb hml hown lw_wd_ok hF ⟨rfl, rfl⟩ (con_X1_setNails l D ty base) rfl (lw_wi (by decide +kernel) (by decide +kernel)) (lw_wi (by decide +kernel) (by decide +kernel)) (lw_wi (by decide +kernel) (by decide +kernel)) (lw_wi (by decide +kernel) (by decide +kernel)) (lw_wi (by decide +kernel) (by decide +kernel)) (by decide +kernel) ⟨by decide, by decide⟩) (ab_all_n)))))))
    (by intro as h K ht; unfold TrX_X3_nail at ht; split at ht <;> first | exact ht.elim | exact Nat.le_of_ble_eq_true rfl)
    (List.forall_mem_cons.mpr ⟨⟨Or.inr (Or.inr rfl), 70, 72, 74, "no such slate", dX3_nail_11, dX3_nail_14, dX3_nail_15, dX3_nail_17, dX3_nail_20, (lw_wi (by decide +kernel) (by decide +kernel)), (lw_wi (by decide +kernel) (by decide +kernel)), (lw_wi (by decide +kernel) (by decide +kernel)), lw_wa (by decide +kernel) (by decide +kernel), by decide +kernel⟩, List.forall_mem_cons.mpr ⟨⟨Or.inl rfl, 41, 88, 45, "nails are 1 to 3", dX3_nail_28, dX3_nail_31, dX3_nail_32, dX3_nail_34, dX3_nail_37, (lw_wi (by decide +kernel) (by decide +kernel)), (lw_wi (by decide +kernel) (by decide +kernel)), (lw_wi (by decide +kernel) (by decide +kernel)), lw_wa (by decide +kernel) (by decide +kernel), by decide +kernel⟩, List.forall_mem_cons.mpr ⟨⟨Or.inr (Or.inl rfl), 58, 78, 62, "the slate is off the roof, or one lies upon it", dX3_nail_49, dX3_nail_52, dX3_nail_53, dX3_nail_55, dX3_nail_58, (lw_wi (by decide +kernel) (by decide +kernel)), (lw_wi (by decide +kernel) (by decide +kernel)), (lw_wi (by decide +kernel) (by decide +kernel)), lw_wa (by decide +kernel) (by decide +kernel), by decide +kernel⟩, fun _ h => absurd h List.not_mem_nil⟩⟩⟩) ⟨by decide, by decide⟩ (by decide) (semx_X3_nail base)
noncomputable def TrX_X3_board : ATr := fun as h K => match as with
  | [.inr (.inl (some a)), .inl x, .inl y] => ab_so (ab_sr h a) fun P => (P.2 = sv0 ∧ ab_in x ∧ ab_in y) ∧ (isPlaceF x y = true → ∀ h', ab_fr h h' (a :: srL P.1) → K (some (.inl (0))) h') ∧ (isPlaceF x y = false → K (some (.inr (.inr (.inl (3 : Int))))) h)
  | _ => False
def ca_X3_board : Nat → Option ACS := ab_lk [(94, (2, 0, 2, 0, 0, Tr_X3_isPlace)), (100, (0, 1, 3, 0, 0, Tr_X1_numberAt)), (106, (0, 1, 3, 0, 0, Tr_X1_rotAt)), (109, (0, 1, 4, 0, 0, Tr_X1_setRot))]
theorem ca_X3_board_94 : ca_X3_board 94 = some (2, 0, 2, 0, 0, Tr_X3_isPlace) := rfl
theorem ca_X3_board_100 : ca_X3_board 100 = some (0, 1, 3, 0, 0, Tr_X1_numberAt) := rfl
theorem ca_X3_board_106 : ca_X3_board 106 = some (0, 1, 3, 0, 0, Tr_X1_rotAt) := rfl
theorem ca_X3_board_109 : ca_X3_board 109 = some (0, 1, 4, 0, 0, Tr_X1_setRot) := rfl
theorem cm_X3_board : ∀ i q, ca_X3_board i = some q → ab_moq i q := ab_lk_all (ab_all_c mo_X3_isPlace (ab_all_c mo_X1_numberAt (ab_all_c mo_X1_rotAt (ab_all_c mo_X1_setRot (ab_all_n)))))
set_option maxRecDepth 100000 in
set_option maxHeartbeats 4000000 in
theorem semx_X3_board (base : Nat) : ab_SemX tbX3 lw_ts base cX3_board ca_X3_board 1 4 1 6 (fun as => ab_en as 4) TrX_X3_board [(8, 3), (31, 2)] := by
  intro as h K hT V hV hX
  unfold TrX_X3_board at hT
  split at hT
  · rename_i a x y
    obtain ⟨⟨⟨⟨r, ns⟩, ⟨t, ms⟩, ⟨c, n⟩, b, q0, q1, q2, q3⟩, v9⟩, hP, ⟨hv9, hs⟩, hK⟩ := ab_so_el hT
    dsimp only at hv9
    subst hv9
    have hA := sr_el hP
    obtain ⟨D, D0, D1, D2, D3, D4⟩ := id hA
    dsimp only [sv0] at D D0 D1 D2 D3
    dsimp only at D4
    try dsimp only at hK hs
    obtain ⟨-, m0, m1, m2, m3, m4, m5, m6, m7, m8, hm9, -, e9, -⟩ := roof_el D0
    rw [r0_laid, r0_there, r0_day, r0_blown] at e9
    show V 0 [some (.inr (.inl (some a))), some (.inl x), some (.inl y), none] [] h 0 0
    obtain ⟨hK0, hK1⟩ := hK
    have x8 : ∀ ls st, ab_sz st ≤ 8 → K (some (.inr (.inr (.inl (3 : Int))))) h → V 8 ls st h 0 0 := fun ls st w1 w2 => hX (8, 3) (by simp) ls st h 0 0 w1 (by decide) (by decide) w2
    have x31 : ∀ ls st, ab_sz st ≤ 8 → K (some (.inr (.inr (.inl (2 : Int))))) h → V 31 ls st h 0 0 := fun ls st w1 w2 => hX (31, 2) (by simp) ls st h 0 0 w1 (by decide) (by decide) w2
    cases hp : isPlaceF x y
    · refine hV (fun p => p == 8 || p == 18) 80 _ _ _ _ _ _ ?_
      simp only [D, hp, bI_in, bI_0, bI_1, bI_t, bI_f, bI_01, r0_laid, r0_there, r0_day, r0_blown, br_known bareR0, br_there bareR0, br_num bareR0, br_rot bareR0, br_cov bareR0, br_free bareR0, br_covPl bareR0, br_crkTh bareR0, br_allRot bareR0, Tr_X3_isPlace, ae_ifCond, ae_iload_n, ae_invokestatic, dX3_board_0, dX3_board_1, dX3_board_2, dX3_board_5, ca_X3_board_94, ca_X3_board_100, ca_X3_board_106, ca_X3_board_109, ab_wp0, ab_wps, ab_stp, ab_g, ab_st, ab_k2, ab_cl, ab_pop, ab_sz, ab_2, ab_ret, ab_f4, ab_tg, ab_I, ab_II, ab_A, ab_Rf, ab_VR, ab_IR, ab_VIR, ab_1, ab_LL, ab_DD, ab_ob, ab_pr, ab_qr, ab_ln, ab_so, ab_vI, ab_vA, ab_vD, ab_vL, ab_v2, ab_c, ab_fit, ab_rv, ab_tsw, ab_lsw, ab_up_eq, Fin.isValue, ab_f0, ab_f1, ab_f2, ab_f3, List.getElem?_cons_zero, List.getElem?_cons_succ, List.set_cons_zero, List.set_cons_succ, List.length_cons, List.length_nil, List.size_toArray, List.head?_cons, List.tail_cons, Option.map_some, cond_true, cond_false, true_and, and_true, false_and, and_false, not_true_eq_false, not_false_eq_true, true_imp_iff, false_imp_iff, if_true, if_false, ite_true, ite_false, ↓reduceIte, Nat.reduceAdd, Nat.reduceEqDiff, Nat.reduceLeDiff, Nat.reduceLT, Nat.reduceBEq, Nat.reduceBNe, Int.reduceAdd, Int.reduceNeg, Int.reduceSub, Int.reduceLE, Int.reduceLT, Int.reduceToNat, Int.reduceEq, Int.reduceMul, Int.cast_ofNat_Int, Nat.zero_add, Nat.add_zero, Nat.le_refl, eq_self, ne_eq, reduceCtorEq, or_true, true_or, or_false, false_or, Bool.or_true, Bool.or_false, Bool.true_or, Bool.false_or, Nat.zero_le, Int.le_refl, Int.ofNat_zero, Int.ofNat_one, Bool.false_eq_true]
      try simp only [ab_in] at hs ⊢
      (repeat' (first | intro _ | refine And.intro ?_ ?_)) <;> (first | exact x8 _ _ (by decide) (hK1 hp) | contradiction | omega | (exfalso; omega))
    · have hp2 : 0 ≤ x ∧ x < 12 ∧ 0 ≤ y ∧ y < 8 := of_decide_eq_true hp
      have hk : ∀ h', ab_fr h h' (r :: ns) → K (some (.inl 0)) h' := fun h' w => hK0 hp h' (w.sub (by intro q hq; simp only [srL]; exact List.mem_cons_of_mem _ (List.mem_append.mpr (Or.inl hq))))
      refine hV (fun _ => false) 80 _ _ _ _ _ _ ?_
      simp only [D, D0, e9, hp, bI_in, bI_0, bI_1, bI_t, bI_f, bI_01, r0_laid, r0_there, r0_day, r0_blown, br_known bareR0, br_there bareR0, br_num bareR0, br_rot bareR0, br_cov bareR0, br_free bareR0, br_covPl bareR0, br_crkTh bareR0, br_allRot bareR0, Tr_X3_isPlace, Tr_X1_numberAt, Tr_X1_rotAt, Tr_X1_setRot, ae_aload_n, ae_dup, ae_getfield, ae_iconst, ae_ifCond, ae_if_icmp, ae_iload_n, ae_invokespecial, ae_invokestatic, ae_invokevirtual, ae_ireturn, ae_istore_n, ae_ldc, ae_new, dX3_board_0, dX3_board_1, dX3_board_2, dX3_board_5, dX3_board_8, dX3_board_11, dX3_board_12, dX3_board_14, dX3_board_17, dX3_board_18, dX3_board_19, dX3_board_22, dX3_board_23, dX3_board_24, dX3_board_27, dX3_board_28, dX3_board_31, dX3_board_34, dX3_board_35, dX3_board_37, dX3_board_40, dX3_board_41, dX3_board_42, dX3_board_45, dX3_board_46, dX3_board_47, dX3_board_50, dX3_board_51, dX3_board_52, dX3_board_55, dX3_board_56, dX3_board_57, dX3_board_58, dX3_board_61, dX3_board_62, tbX3_g12, ca_X3_board_94, ca_X3_board_100, ca_X3_board_106, ca_X3_board_109, ab_wp0, ab_wps, ab_stp, ab_g, ab_st, ab_k2, ab_cl, ab_pop, ab_sz, ab_2, ab_ret, ab_f4, ab_tg, ab_I, ab_II, ab_A, ab_Rf, ab_VR, ab_IR, ab_VIR, ab_1, ab_LL, ab_DD, ab_ob, ab_pr, ab_qr, ab_ln, ab_so, ab_vI, ab_vA, ab_vD, ab_vL, ab_v2, ab_c, ab_fit, ab_rv, ab_tsw, ab_lsw, ab_up_eq, Fin.isValue, ab_f0, ab_f1, ab_f2, ab_f3, List.getElem?_cons_zero, List.getElem?_cons_succ, List.set_cons_zero, List.set_cons_succ, List.length_cons, List.length_nil, List.size_toArray, List.head?_cons, List.tail_cons, Option.map_some, cond_true, cond_false, true_and, and_true, false_and, and_false, not_true_eq_false, not_false_eq_true, true_imp_iff, false_imp_iff, if_true, if_false, ite_true, ite_false, ↓reduceIte, Nat.reduceAdd, Nat.reduceEqDiff, Nat.reduceLeDiff, Nat.reduceLT, Nat.reduceBEq, Nat.reduceBNe, Int.reduceAdd, Int.reduceNeg, Int.reduceSub, Int.reduceLE, Int.reduceLT, Int.reduceToNat, Int.reduceEq, Int.reduceMul, Int.cast_ofNat_Int, Nat.zero_add, Nat.add_zero, Nat.le_refl, eq_self, ne_eq, reduceCtorEq, or_true, true_or, or_false, false_or, Bool.or_true, Bool.or_false, Bool.true_or, Bool.false_or, Nat.zero_le, Int.le_refl, Int.ofNat_zero, Int.ofNat_one, Bool.false_eq_true]
      try simp only [ab_in] at hs ⊢
      (repeat' (first | intro _ | refine And.intro ?_ ?_)) <;> (first | exact hk _ (by assumption) | contradiction | omega | (exfalso; omega))
  · exact hT.elim
set_option maxRecDepth 100000 in
theorem conx_X3_board (l : Launch) (hl : l.stackTraces = false) (D : va_G) (ty : Nat → ClassId) (base : Nat) : ab_ConX l D vwCl ty lw_ts base lw_wd yX3_board cX3_board 4 (some .int) 6 90 1 6 TrX_X3_board :=
  ab_conX_of hl (own := RX3) (rt := 1) (tb := tbX3) (ini := false) (ca := ca_X3_board) (xs := [(8, 3), (31, 2)]) (by decide +kernel) rfl (fun h => by cases h) rfl lw_wd_ok wtbX3 lw_ar cm_X3_board
    (fun p e R s m args below meth c K hcx => by
      obtain ⟨hx, hb, hml, hown, hF, rfl⟩ := hcx
      exact ab_lk_all (ab_all_c (ab_tc_S hx hb hml hown lw_wd_ok hF ⟨rfl, rfl⟩ (con_X3_isPlace l D ty base) (lw_wi (by decide +kernel) (by decide +kernel)) (lw_wi (by decide +kernel) (by decide +kernel)) (lw_wi (by decide +kernel) (by decide +kernel)) (lw_wi (by decide +kernel) (by decide +kernel)) (by decide +kernel) ⟨by decide, by decide⟩) (ab_all_c (ab_tc_V hx hb hml hown lw_wd_ok hF ⟨rfl, rfl⟩ (con_X1_numberAt l D ty base) rfl (lw_wi (by decide +kernel) (by decide +kernel)) (lw_wi (by decide +kernel) (by decide +kernel)) (lw_wi (by decide +kernel) (by decide +kernel)) (lw_wi (by decide +kernel) (by decide +kernel)) (lw_wi (by decide +kernel) (by decide +kernel)) (by decide +kernel) ⟨by decide, by decide⟩) (ab_all_c (ab_tc_V hx hb hml hown lw_wd_ok hF ⟨rfl, rfl⟩ (con_X1_rotAt l D ty base) rfl (lw_wi (by decide +kernel) (by decide +kernel)) (lw_wi (by decide +kernel) (by decide +kernel)) (lw_wi (by decide +kernel) (by decide +kernel)) (lw_wi (by decide +kernel) (by decide +kernel)) (lw_wi (by decide +kernel) (by decide +kernel)) (by decide +kernel) ⟨by decide, by decide⟩) (ab_all_c (ab_tc_V hx hb hml hown lw_wd_ok hF ⟨rfl, rfl⟩ (con_X1_setRot l D ty base) rfl (lw_wi (by decide +kernel) (by decide +kernel)) (lw_wi (by decide +kernel) (by decide +kernel)) (lw_wi (by decide +kernel) (by decide +kernel)) (lw_wi (by decide +kernel) (by decide +kernel)) (lw_wi (by decide +kernel) (by decide +kernel)) (by decide +kernel) ⟨by decide, by decide⟩) (ab_all_n))))))
    (by intro as h K ht; unfold TrX_X3_board at ht; split at ht <;> first | exact ht.elim | exact Nat.le_of_ble_eq_true rfl)
    (List.forall_mem_cons.mpr ⟨⟨Or.inr (Or.inr rfl), 70, 98, 74, "no such place", dX3_board_8, dX3_board_11, dX3_board_12, dX3_board_14, dX3_board_17, (lw_wi (by decide +kernel) (by decide +kernel)), (lw_wi (by decide +kernel) (by decide +kernel)), (lw_wi (by decide +kernel) (by decide +kernel)), lw_wa (by decide +kernel) (by decide +kernel), by decide +kernel⟩, List.forall_mem_cons.mpr ⟨⟨Or.inr (Or.inl rfl), 58, 104, 62, "a slate is there", dX3_board_31, dX3_board_34, dX3_board_35, dX3_board_37, dX3_board_40, (lw_wi (by decide +kernel) (by decide +kernel)), (lw_wi (by decide +kernel) (by decide +kernel)), (lw_wi (by decide +kernel) (by decide +kernel)), lw_wa (by decide +kernel) (by decide +kernel), by decide +kernel⟩, fun _ h => absurd h List.not_mem_nil⟩⟩) ⟨by decide, by decide⟩ (by decide) (semx_X3_board base)
noncomputable def TrX_X3_setDay : ATr := fun as h K => match as with
  | [.inr (.inl (some a)), .inl day, .inl force, .inl right, .inl hail, .inl rain] => ab_so (ab_sr h a) fun P => (P.2 = sv0 ∧ ab_in day ∧ ab_in force ∧ ab_in right ∧ ab_in hail ∧ ab_in rain ∧ (right = 0 ∨ right = 1)) ∧ (isUpToF day 6 = true ∧ isUpToF force 20 = true ∧ isUpToF hail 9 = true ∧ isUpToF rain 9 = true → ∀ h', ab_fr h h' (a :: srL P.1) → K (some (.inl (0))) h') ∧ (isUpToF day 6 = false → K (some (.inr (.inr (.inl (3 : Int))))) h) ∧ (isUpToF day 6 = true ∧ (isUpToF force 20 = false ∨ isUpToF hail 9 = false ∨ isUpToF rain 9 = false) → K (some (.inr (.inr (.inl (1 : Int))))) h)
  | _ => False
def ca_X3_setDay : Nat → Option ACS := ab_lk [(113, (2, 0, 2, 0, 0, Tr_X3_isUpTo)), (120, (0, 2, 2, 0, 0, Tr_X2_told)), (123, (0, 2, 6, 0, 0, Tr_X2_write))]
theorem ca_X3_setDay_113 : ca_X3_setDay 113 = some (2, 0, 2, 0, 0, Tr_X3_isUpTo) := rfl
theorem ca_X3_setDay_120 : ca_X3_setDay 120 = some (0, 2, 2, 0, 0, Tr_X2_told) := rfl
theorem ca_X3_setDay_123 : ca_X3_setDay 123 = some (0, 2, 6, 0, 0, Tr_X2_write) := rfl
theorem cm_X3_setDay : ∀ i q, ca_X3_setDay i = some q → ab_moq i q := ab_lk_all (ab_all_c mo_X3_isUpTo (ab_all_c mo_X2_told (ab_all_c mo_X2_write (ab_all_n))))
set_option maxRecDepth 100000 in
set_option maxHeartbeats 4000000 in
theorem semx_X3_setDay (base : Nat) : ab_SemX tbX3 lw_ts base cX3_setDay ca_X3_setDay 1 7 1 6 (fun as => ab_en as 7) TrX_X3_setDay [(9, 3), (48, 1)] := by
  intro as h K hT V hV hX
  unfold TrX_X3_setDay at hT
  split at hT
  · rename_i a day force right hail rain
    obtain ⟨⟨⟨⟨r, ns⟩, ⟨t, ms⟩, ⟨c, n⟩, b, q0, q1, q2, q3⟩, v9⟩, hP, ⟨hv9, hs⟩, hK⟩ := ab_so_el hT
    dsimp only at hv9
    subst hv9
    have hA := sr_el hP
    obtain ⟨D, D0, D1, D2, D3, D4⟩ := id hA
    dsimp only [sv0] at D D0 D1 D2 D3
    dsimp only at D4
    try dsimp only at hK hs
    obtain ⟨-, m0, m1, m2, m3, m4, m5, m6, m7, m8, hm9, -, e9, -⟩ := roof_el D0
    rw [r0_laid, r0_there, r0_day, r0_blown] at e9
    show V 0 [some (.inr (.inl (some a))), some (.inl day), some (.inl force), some (.inl right), some (.inl hail), some (.inl rain), none] [] h 0 0
    obtain ⟨hK0, hK1, hK2⟩ := hK
    have x9 : ∀ ls st, ab_sz st ≤ 8 → K (some (.inr (.inr (.inl (3 : Int))))) h → V 9 ls st h 0 0 := fun ls st w1 w2 => hX (9, 3) (by simp) ls st h 0 0 w1 (by decide) (by decide) w2
    have x48 : ∀ ls st, ab_sz st ≤ 8 → K (some (.inr (.inr (.inl (1 : Int))))) h → V 48 ls st h 0 0 := fun ls st w1 w2 => hX (48, 1) (by simp) ls st h 0 0 w1 (by decide) (by decide) w2
    cases h1 : isUpToF day 6
    · refine hV (fun p => p == 9 || p == 19) 80 _ _ _ _ _ _ ?_
      simp only [D, h1, bI_in, bI_0, bI_1, bI_t, bI_f, bI_01, r0_laid, r0_there, r0_day, r0_blown, br_known bareR0, br_there bareR0, br_num bareR0, br_rot bareR0, br_cov bareR0, br_free bareR0, br_covPl bareR0, br_crkTh bareR0, br_allRot bareR0, Tr_X3_isUpTo, ae_bipush, ae_ifCond, ae_iload_n, ae_invokestatic, dX3_setDay_0, dX3_setDay_1, dX3_setDay_3, dX3_setDay_6, ca_X3_setDay_113, ca_X3_setDay_120, ca_X3_setDay_123, ab_wp0, ab_wps, ab_stp, ab_g, ab_st, ab_k2, ab_cl, ab_pop, ab_sz, ab_2, ab_ret, ab_f4, ab_tg, ab_I, ab_II, ab_A, ab_Rf, ab_VR, ab_IR, ab_VIR, ab_1, ab_LL, ab_DD, ab_ob, ab_pr, ab_qr, ab_ln, ab_so, ab_vI, ab_vA, ab_vD, ab_vL, ab_v2, ab_c, ab_fit, ab_rv, ab_tsw, ab_lsw, ab_up_eq, Fin.isValue, ab_f0, ab_f1, ab_f2, ab_f3, List.getElem?_cons_zero, List.getElem?_cons_succ, List.set_cons_zero, List.set_cons_succ, List.length_cons, List.length_nil, List.size_toArray, List.head?_cons, List.tail_cons, Option.map_some, cond_true, cond_false, true_and, and_true, false_and, and_false, not_true_eq_false, not_false_eq_true, true_imp_iff, false_imp_iff, if_true, if_false, ite_true, ite_false, ↓reduceIte, Nat.reduceAdd, Nat.reduceEqDiff, Nat.reduceLeDiff, Nat.reduceLT, Nat.reduceBEq, Nat.reduceBNe, Int.reduceAdd, Int.reduceNeg, Int.reduceSub, Int.reduceLE, Int.reduceLT, Int.reduceToNat, Int.reduceEq, Int.reduceMul, Int.cast_ofNat_Int, Nat.zero_add, Nat.add_zero, Nat.le_refl, eq_self, ne_eq, reduceCtorEq, or_true, true_or, or_false, false_or, Bool.or_true, Bool.or_false, Bool.true_or, Bool.false_or, Nat.zero_le, Int.le_refl, Int.ofNat_zero, Int.ofNat_one, Bool.false_eq_true]
      try simp only [ab_in] at hs ⊢
      (repeat' (first | intro _ | refine And.intro ?_ ?_)) <;> (first | exact x9 _ _ (by decide) (hK1 h1) | contradiction | omega | (exfalso; omega))
    · cases h2 : isUpToF force 20
      · refine hV (fun p => p == 48 || p == 58) 80 _ _ _ _ _ _ ?_
        simp only [D, h1, h2, bI_in, bI_0, bI_1, bI_t, bI_f, bI_01, r0_laid, r0_there, r0_day, r0_blown, br_known bareR0, br_there bareR0, br_num bareR0, br_rot bareR0, br_cov bareR0, br_free bareR0, br_covPl bareR0, br_crkTh bareR0, br_allRot bareR0, Tr_X3_isUpTo, ae_bipush, ae_dup, ae_ifCond, ae_iload, ae_iload_n, ae_invokespecial, ae_invokestatic, ae_ldc, ae_new, dX3_setDay_0, dX3_setDay_1, dX3_setDay_3, dX3_setDay_6, dX3_setDay_9, dX3_setDay_12, dX3_setDay_13, dX3_setDay_15, dX3_setDay_18, dX3_setDay_19, dX3_setDay_20, dX3_setDay_22, dX3_setDay_25, dX3_setDay_28, dX3_setDay_30, dX3_setDay_32, dX3_setDay_35, dX3_setDay_38, dX3_setDay_40, dX3_setDay_42, dX3_setDay_45, ca_X3_setDay_113, ca_X3_setDay_120, ca_X3_setDay_123, ab_wp0, ab_wps, ab_stp, ab_g, ab_st, ab_k2, ab_cl, ab_pop, ab_sz, ab_2, ab_ret, ab_f4, ab_tg, ab_I, ab_II, ab_A, ab_Rf, ab_VR, ab_IR, ab_VIR, ab_1, ab_LL, ab_DD, ab_ob, ab_pr, ab_qr, ab_ln, ab_so, ab_vI, ab_vA, ab_vD, ab_vL, ab_v2, ab_c, ab_fit, ab_rv, ab_tsw, ab_lsw, ab_up_eq, Fin.isValue, ab_f0, ab_f1, ab_f2, ab_f3, List.getElem?_cons_zero, List.getElem?_cons_succ, List.set_cons_zero, List.set_cons_succ, List.length_cons, List.length_nil, List.size_toArray, List.head?_cons, List.tail_cons, Option.map_some, cond_true, cond_false, true_and, and_true, false_and, and_false, not_true_eq_false, not_false_eq_true, true_imp_iff, false_imp_iff, if_true, if_false, ite_true, ite_false, ↓reduceIte, Nat.reduceAdd, Nat.reduceEqDiff, Nat.reduceLeDiff, Nat.reduceLT, Nat.reduceBEq, Nat.reduceBNe, Int.reduceAdd, Int.reduceNeg, Int.reduceSub, Int.reduceLE, Int.reduceLT, Int.reduceToNat, Int.reduceEq, Int.reduceMul, Int.cast_ofNat_Int, Nat.zero_add, Nat.add_zero, Nat.le_refl, eq_self, ne_eq, reduceCtorEq, or_true, true_or, or_false, false_or, Bool.or_true, Bool.or_false, Bool.true_or, Bool.false_or, Nat.zero_le, Int.le_refl, Int.ofNat_zero, Int.ofNat_one, Bool.false_eq_true]
        try simp only [ab_in] at hs ⊢
        (repeat' (first | intro _ | refine And.intro ?_ ?_)) <;> (first | exact x48 _ _ (by decide) (hK2 ⟨h1, Or.inl h2⟩) | contradiction | omega | (exfalso; omega))
      · cases h3 : isUpToF hail 9
        · refine hV (fun p => p == 48 || p == 58) 80 _ _ _ _ _ _ ?_
          simp only [D, h1, h2, h3, bI_in, bI_0, bI_1, bI_t, bI_f, bI_01, r0_laid, r0_there, r0_day, r0_blown, br_known bareR0, br_there bareR0, br_num bareR0, br_rot bareR0, br_cov bareR0, br_free bareR0, br_covPl bareR0, br_crkTh bareR0, br_allRot bareR0, Tr_X3_isUpTo, ae_bipush, ae_dup, ae_ifCond, ae_iload, ae_iload_n, ae_invokespecial, ae_invokestatic, ae_ldc, ae_new, dX3_setDay_0, dX3_setDay_1, dX3_setDay_3, dX3_setDay_6, dX3_setDay_9, dX3_setDay_12, dX3_setDay_13, dX3_setDay_15, dX3_setDay_18, dX3_setDay_19, dX3_setDay_20, dX3_setDay_22, dX3_setDay_25, dX3_setDay_28, dX3_setDay_30, dX3_setDay_32, dX3_setDay_35, dX3_setDay_38, dX3_setDay_40, dX3_setDay_42, dX3_setDay_45, ca_X3_setDay_113, ca_X3_setDay_120, ca_X3_setDay_123, ab_wp0, ab_wps, ab_stp, ab_g, ab_st, ab_k2, ab_cl, ab_pop, ab_sz, ab_2, ab_ret, ab_f4, ab_tg, ab_I, ab_II, ab_A, ab_Rf, ab_VR, ab_IR, ab_VIR, ab_1, ab_LL, ab_DD, ab_ob, ab_pr, ab_qr, ab_ln, ab_so, ab_vI, ab_vA, ab_vD, ab_vL, ab_v2, ab_c, ab_fit, ab_rv, ab_tsw, ab_lsw, ab_up_eq, Fin.isValue, ab_f0, ab_f1, ab_f2, ab_f3, List.getElem?_cons_zero, List.getElem?_cons_succ, List.set_cons_zero, List.set_cons_succ, List.length_cons, List.length_nil, List.size_toArray, List.head?_cons, List.tail_cons, Option.map_some, cond_true, cond_false, true_and, and_true, false_and, and_false, not_true_eq_false, not_false_eq_true, true_imp_iff, false_imp_iff, if_true, if_false, ite_true, ite_false, ↓reduceIte, Nat.reduceAdd, Nat.reduceEqDiff, Nat.reduceLeDiff, Nat.reduceLT, Nat.reduceBEq, Nat.reduceBNe, Int.reduceAdd, Int.reduceNeg, Int.reduceSub, Int.reduceLE, Int.reduceLT, Int.reduceToNat, Int.reduceEq, Int.reduceMul, Int.cast_ofNat_Int, Nat.zero_add, Nat.add_zero, Nat.le_refl, eq_self, ne_eq, reduceCtorEq, or_true, true_or, or_false, false_or, Bool.or_true, Bool.or_false, Bool.true_or, Bool.false_or, Nat.zero_le, Int.le_refl, Int.ofNat_zero, Int.ofNat_one, Bool.false_eq_true]
          try simp only [ab_in] at hs ⊢
          (repeat' (first | intro _ | refine And.intro ?_ ?_)) <;> (first | exact x48 _ _ (by decide) (hK2 ⟨h1, Or.inr (Or.inl h3)⟩) | contradiction | omega | (exfalso; omega))
        · cases h4 : isUpToF rain 9
          · refine hV (fun p => p == 48 || p == 58) 80 _ _ _ _ _ _ ?_
            simp only [D, h1, h2, h3, h4, bI_in, bI_0, bI_1, bI_t, bI_f, bI_01, r0_laid, r0_there, r0_day, r0_blown, br_known bareR0, br_there bareR0, br_num bareR0, br_rot bareR0, br_cov bareR0, br_free bareR0, br_covPl bareR0, br_crkTh bareR0, br_allRot bareR0, Tr_X3_isUpTo, ae_bipush, ae_dup, ae_ifCond, ae_iload, ae_iload_n, ae_invokespecial, ae_invokestatic, ae_ldc, ae_new, dX3_setDay_0, dX3_setDay_1, dX3_setDay_3, dX3_setDay_6, dX3_setDay_9, dX3_setDay_12, dX3_setDay_13, dX3_setDay_15, dX3_setDay_18, dX3_setDay_19, dX3_setDay_20, dX3_setDay_22, dX3_setDay_25, dX3_setDay_28, dX3_setDay_30, dX3_setDay_32, dX3_setDay_35, dX3_setDay_38, dX3_setDay_40, dX3_setDay_42, dX3_setDay_45, ca_X3_setDay_113, ca_X3_setDay_120, ca_X3_setDay_123, ab_wp0, ab_wps, ab_stp, ab_g, ab_st, ab_k2, ab_cl, ab_pop, ab_sz, ab_2, ab_ret, ab_f4, ab_tg, ab_I, ab_II, ab_A, ab_Rf, ab_VR, ab_IR, ab_VIR, ab_1, ab_LL, ab_DD, ab_ob, ab_pr, ab_qr, ab_ln, ab_so, ab_vI, ab_vA, ab_vD, ab_vL, ab_v2, ab_c, ab_fit, ab_rv, ab_tsw, ab_lsw, ab_up_eq, Fin.isValue, ab_f0, ab_f1, ab_f2, ab_f3, List.getElem?_cons_zero, List.getElem?_cons_succ, List.set_cons_zero, List.set_cons_succ, List.length_cons, List.length_nil, List.size_toArray, List.head?_cons, List.tail_cons, Option.map_some, cond_true, cond_false, true_and, and_true, false_and, and_false, not_true_eq_false, not_false_eq_true, true_imp_iff, false_imp_iff, if_true, if_false, ite_true, ite_false, ↓reduceIte, Nat.reduceAdd, Nat.reduceEqDiff, Nat.reduceLeDiff, Nat.reduceLT, Nat.reduceBEq, Nat.reduceBNe, Int.reduceAdd, Int.reduceNeg, Int.reduceSub, Int.reduceLE, Int.reduceLT, Int.reduceToNat, Int.reduceEq, Int.reduceMul, Int.cast_ofNat_Int, Nat.zero_add, Nat.add_zero, Nat.le_refl, eq_self, ne_eq, reduceCtorEq, or_true, true_or, or_false, false_or, Bool.or_true, Bool.or_false, Bool.true_or, Bool.false_or, Nat.zero_le, Int.le_refl, Int.ofNat_zero, Int.ofNat_one, Bool.false_eq_true]
            try simp only [ab_in] at hs ⊢
            (repeat' (first | intro _ | refine And.intro ?_ ?_)) <;> (first | exact x48 _ _ (by decide) (hK2 ⟨h1, Or.inr (Or.inr h4)⟩) | contradiction | omega | (exfalso; omega))
          · obtain ⟨-, -, e7, -⟩ := tab_el D3
            dsimp only at e7
            have g1 : 0 ≤ day ∧ day ≤ 6 := of_decide_eq_true h1
            have g2 : 0 ≤ force ∧ force ≤ 20 := of_decide_eq_true h2
            have g3 : 0 ≤ hail ∧ hail ≤ 9 := of_decide_eq_true h3
            have g4 : 0 ≤ rain ∧ rain ≤ 9 := of_decide_eq_true h4
            have hk : ∀ h', ab_fr h h' (b :: [q0, q1, q2, q3]) → K (some (.inl 0)) h' := fun h' w => hK0 ⟨h1, h2, h3, h4⟩ h' (w.sub (by intro q hq; simp only [srL]; exact List.mem_cons_of_mem _ (List.mem_append.mpr (Or.inr (List.mem_append.mpr (Or.inr (List.mem_cons_of_mem _ (List.mem_cons_of_mem _ hq))))))))
            refine hV (fun _ => false) 80 _ _ _ _ _ _ ?_
            simp only [D, D3, e7, h1, h2, h3, h4, br_told, bI_in, bI_0, bI_1, bI_t, bI_f, bI_01, r0_laid, r0_there, r0_day, r0_blown, br_known bareR0, br_there bareR0, br_num bareR0, br_rot bareR0, br_cov bareR0, br_free bareR0, br_covPl bareR0, br_crkTh bareR0, br_allRot bareR0, Tr_X3_isUpTo, Tr_X2_told, Tr_X2_write, ae_aload_n, ae_bipush, ae_dup, ae_getfield, ae_ifCond, ae_iload, ae_iload_n, ae_invokespecial, ae_invokestatic, ae_invokevirtual, ae_ireturn, ae_istore, ae_ldc, ae_new, dX3_setDay_0, dX3_setDay_1, dX3_setDay_3, dX3_setDay_6, dX3_setDay_9, dX3_setDay_12, dX3_setDay_13, dX3_setDay_15, dX3_setDay_18, dX3_setDay_19, dX3_setDay_20, dX3_setDay_22, dX3_setDay_25, dX3_setDay_28, dX3_setDay_30, dX3_setDay_32, dX3_setDay_35, dX3_setDay_38, dX3_setDay_40, dX3_setDay_42, dX3_setDay_45, dX3_setDay_48, dX3_setDay_51, dX3_setDay_52, dX3_setDay_54, dX3_setDay_57, dX3_setDay_58, dX3_setDay_59, dX3_setDay_62, dX3_setDay_63, dX3_setDay_66, dX3_setDay_68, dX3_setDay_69, dX3_setDay_72, dX3_setDay_73, dX3_setDay_74, dX3_setDay_75, dX3_setDay_77, dX3_setDay_79, dX3_setDay_82, dX3_setDay_84, tbX3_g29, ca_X3_setDay_113, ca_X3_setDay_120, ca_X3_setDay_123, ab_wp0, ab_wps, ab_stp, ab_g, ab_st, ab_k2, ab_cl, ab_pop, ab_sz, ab_2, ab_ret, ab_f4, ab_tg, ab_I, ab_II, ab_A, ab_Rf, ab_VR, ab_IR, ab_VIR, ab_1, ab_LL, ab_DD, ab_ob, ab_pr, ab_qr, ab_ln, ab_so, ab_vI, ab_vA, ab_vD, ab_vL, ab_v2, ab_c, ab_fit, ab_rv, ab_tsw, ab_lsw, ab_up_eq, Fin.isValue, ab_f0, ab_f1, ab_f2, ab_f3, List.getElem?_cons_zero, List.getElem?_cons_succ, List.set_cons_zero, List.set_cons_succ, List.length_cons, List.length_nil, List.size_toArray, List.head?_cons, List.tail_cons, Option.map_some, cond_true, cond_false, true_and, and_true, false_and, and_false, not_true_eq_false, not_false_eq_true, true_imp_iff, false_imp_iff, if_true, if_false, ite_true, ite_false, ↓reduceIte, Nat.reduceAdd, Nat.reduceEqDiff, Nat.reduceLeDiff, Nat.reduceLT, Nat.reduceBEq, Nat.reduceBNe, Int.reduceAdd, Int.reduceNeg, Int.reduceSub, Int.reduceLE, Int.reduceLT, Int.reduceToNat, Int.reduceEq, Int.reduceMul, Int.cast_ofNat_Int, Nat.zero_add, Nat.add_zero, Nat.le_refl, eq_self, ne_eq, reduceCtorEq, or_true, true_or, or_false, false_or, Bool.or_true, Bool.or_false, Bool.true_or, Bool.false_or, Nat.zero_le, Int.le_refl, Int.ofNat_zero, Int.ofNat_one, Bool.false_eq_true]
            try simp only [ab_in] at hs ⊢
            (repeat' (first | intro _ | refine And.intro ?_ ?_)) <;> (first | exact hk _ (by assumption) | contradiction | omega | (exfalso; omega))
  · exact hT.elim
set_option maxRecDepth 100000 in
theorem conx_X3_setDay (l : Launch) (hl : l.stackTraces = false) (D : va_G) (ty : Nat → ClassId) (base : Nat) : ab_ConX l D vwCl ty lw_ts base lw_wd yX3_setDay cX3_setDay 7 (some .int) 6 90 1 6 TrX_X3_setDay :=
  ab_conX_of hl (own := RX3) (rt := 1) (tb := tbX3) (ini := false) (ca := ca_X3_setDay) (xs := [(9, 3), (48, 1)]) (by decide +kernel) rfl (fun h => by cases h) rfl lw_wd_ok wtbX3 lw_ar cm_X3_setDay
    (fun p e R s m args below meth c K hcx => by
      obtain ⟨hx, hb, hml, hown, hF, rfl⟩ := hcx
      exact ab_lk_all (ab_all_c (ab_tc_S hx hb hml hown lw_wd_ok hF ⟨rfl, rfl⟩ (con_X3_isUpTo l D ty base) (lw_wi (by decide +kernel) (by decide +kernel)) (lw_wi (by decide +kernel) (by decide +kernel)) (lw_wi (by decide +kernel) (by decide +kernel)) (lw_wi (by decide +kernel) (by decide +kernel)) (by decide +kernel) ⟨by decide, by decide⟩) (ab_all_c (ab_tc_V hx hb hml hown lw_wd_ok hF ⟨rfl, rfl⟩ (con_X2_told l D ty base) rfl (lw_wi (by decide +kernel) (by decide +kernel)) (lw_wi (by decide +kernel) (by decide +kernel)) (lw_wi (by decide +kernel) (by decide +kernel)) (lw_wi (by decide +kernel) (by decide +kernel)) (lw_wi (by decide +kernel) (by decide +kernel)) (by decide +kernel) ⟨by decide, by decide⟩) (ab_all_c (ab_tc_V hx hb hml hown lw_wd_ok hF ⟨rfl, rfl⟩ (con_X2_write l D ty base) rfl (lw_wi (by decide +kernel) (by decide +kernel)) (lw_wi (by decide +kernel) (by decide +kernel)) (lw_wi (by decide +kernel) (by decide +kernel)) (lw_wi (by decide +kernel) (by decide +kernel)) (lw_wi (by decide +kernel) (by decide +kernel)) (by decide +kernel) ⟨by decide, by decide⟩) (ab_all_n)))))
    (by intro as h K ht; unfold TrX_X3_setDay at ht; split at ht <;> first | exact ht.elim | exact Nat.le_of_ble_eq_true rfl)
    (List.forall_mem_cons.mpr ⟨⟨Or.inr (Or.inr rfl), 70, 116, 74, "no such day of the table", dX3_setDay_9, dX3_setDay_12, dX3_setDay_13, dX3_setDay_15, dX3_setDay_18, (lw_wi (by decide +kernel) (by decide +kernel)), (lw_wi (by decide +kernel) (by decide +kernel)), (lw_wi (by decide +kernel) (by decide +kernel)), lw_wa (by decide +kernel) (by decide +kernel), by decide +kernel⟩, List.forall_mem_cons.mpr ⟨⟨Or.inl rfl, 41, 118, 45, "no such force, hail or rain", dX3_setDay_48, dX3_setDay_51, dX3_setDay_52, dX3_setDay_54, dX3_setDay_57, (lw_wi (by decide +kernel) (by decide +kernel)), (lw_wi (by decide +kernel) (by decide +kernel)), (lw_wi (by decide +kernel) (by decide +kernel)), lw_wa (by decide +kernel) (by decide +kernel), by decide +kernel⟩, fun _ h => absurd h List.not_mem_nil⟩⟩) ⟨by decide, by decide⟩ (by decide) (semx_X3_setDay base)
noncomputable def TrX_X3_slate : ATr := fun as h K => match as with
  | [.inr (.inl (some a)), .inl s, .inl what] => ab_so (ab_sr h a) fun P => (P.2 = sv0 ∧ ab_in s ∧ ab_in what) ∧ (True → K (some (.inr (.inr (.inl (3 : Int))))) h)
  | _ => False
def ca_X3_slate : Nat → Option ACS := ab_lk [(67, (0, 1, 2, 0, 0, Tr_X1_isKnown)), (113, (2, 0, 2, 0, 0, Tr_X3_isUpTo)), (129, (0, 1, 3, 0, 0, Tr_X1_tellSlate))]
theorem ca_X3_slate_67 : ca_X3_slate 67 = some (0, 1, 2, 0, 0, Tr_X1_isKnown) := rfl
theorem ca_X3_slate_113 : ca_X3_slate 113 = some (2, 0, 2, 0, 0, Tr_X3_isUpTo) := rfl
theorem ca_X3_slate_129 : ca_X3_slate 129 = some (0, 1, 3, 0, 0, Tr_X1_tellSlate) := rfl
theorem cm_X3_slate : ∀ i q, ca_X3_slate i = some q → ab_moq i q := ab_lk_all (ab_all_c mo_X1_isKnown (ab_all_c mo_X3_isUpTo (ab_all_c mo_X1_tellSlate (ab_all_n))))
set_option maxRecDepth 100000 in
set_option maxHeartbeats 4000000 in
theorem semx_X3_slate (base : Nat) : ab_SemX tbX3 lw_ts base cX3_slate ca_X3_slate 1 3 1 6 (fun as => ab_en as 3) TrX_X3_slate [(20, 3)] := by
  intro as h K hT V hV hX
  unfold TrX_X3_slate at hT
  split at hT
  · rename_i a s what
    obtain ⟨⟨⟨⟨r, ns⟩, ⟨t, ms⟩, ⟨c, n⟩, b, q0, q1, q2, q3⟩, v9⟩, hP, ⟨hv9, hs⟩, hK⟩ := ab_so_el hT
    dsimp only at hv9
    subst hv9
    have hA := sr_el hP
    obtain ⟨D, D0, D1, D2, D3, D4⟩ := id hA
    dsimp only [sv0] at D D0 D1 D2 D3
    dsimp only at D4
    try dsimp only at hK hs
    obtain ⟨-, m0, m1, m2, m3, m4, m5, m6, m7, m8, hm9, -, e9, -⟩ := roof_el D0
    rw [r0_laid, r0_there, r0_day, r0_blown] at e9
    show V 0 [some (.inr (.inl (some a))), some (.inl s), some (.inl what)] [] h 0 0
    have hK0 := hK
    have x20 : ∀ ls st, ab_sz st ≤ 8 → K (some (.inr (.inr (.inl (3 : Int))))) h → V 20 ls st h 0 0 := fun ls st w1 w2 => hX (20, 3) (by simp) ls st h 0 0 w1 (by decide) (by decide) w2
    refine hV (fun p => p == 20 || p == 30) 80 _ _ _ _ _ _ ?_
    simp only [D, D0, e9, bI_in, bI_0, bI_1, bI_t, bI_f, bI_01, r0_laid, r0_there, r0_day, r0_blown, br_known bareR0, br_there bareR0, br_num bareR0, br_rot bareR0, br_cov bareR0, br_free bareR0, br_covPl bareR0, br_crkTh bareR0, br_allRot bareR0, Tr_X1_isKnown, ae_aload_n, ae_bipush, ae_getfield, ae_ifCond, ae_iload_n, ae_invokestatic, ae_invokevirtual, dX3_slate_0, dX3_slate_1, dX3_slate_4, dX3_slate_5, dX3_slate_8, dX3_slate_11, dX3_slate_12, dX3_slate_14, dX3_slate_17, tbX3_g12, ca_X3_slate_67, ca_X3_slate_113, ca_X3_slate_129, ab_wp0, ab_wps, ab_stp, ab_g, ab_st, ab_k2, ab_cl, ab_pop, ab_sz, ab_2, ab_ret, ab_f4, ab_tg, ab_I, ab_II, ab_A, ab_Rf, ab_VR, ab_IR, ab_VIR, ab_1, ab_LL, ab_DD, ab_ob, ab_pr, ab_qr, ab_ln, ab_so, ab_vI, ab_vA, ab_vD, ab_vL, ab_v2, ab_c, ab_fit, ab_rv, ab_tsw, ab_lsw, ab_up_eq, Fin.isValue, ab_f0, ab_f1, ab_f2, ab_f3, List.getElem?_cons_zero, List.getElem?_cons_succ, List.set_cons_zero, List.set_cons_succ, List.length_cons, List.length_nil, List.size_toArray, List.head?_cons, List.tail_cons, Option.map_some, cond_true, cond_false, true_and, and_true, false_and, and_false, not_true_eq_false, not_false_eq_true, true_imp_iff, false_imp_iff, if_true, if_false, ite_true, ite_false, ↓reduceIte, Nat.reduceAdd, Nat.reduceEqDiff, Nat.reduceLeDiff, Nat.reduceLT, Nat.reduceBEq, Nat.reduceBNe, Int.reduceAdd, Int.reduceNeg, Int.reduceSub, Int.reduceLE, Int.reduceLT, Int.reduceToNat, Int.reduceEq, Int.reduceMul, Int.cast_ofNat_Int, Nat.zero_add, Nat.add_zero, Nat.le_refl, eq_self, ne_eq, reduceCtorEq, or_true, true_or, or_false, false_or, Bool.or_true, Bool.or_false, Bool.true_or, Bool.false_or, Nat.zero_le, Int.le_refl, Int.ofNat_zero, Int.ofNat_one, Bool.false_eq_true]
    try simp only [ab_in] at hs ⊢
    (repeat' (first | intro _ | refine And.intro ?_ ?_)) <;> (first | exact x20 _ _ (by decide) (hK0 trivial) | contradiction | omega | (exfalso; omega))
  · exact hT.elim
set_option maxRecDepth 100000 in
theorem conx_X3_slate (l : Launch) (hl : l.stackTraces = false) (D : va_G) (ty : Nat → ClassId) (base : Nat) : ab_ConX l D vwCl ty lw_ts base lw_wd yX3_slate cX3_slate 3 (some .int) 6 92 1 6 TrX_X3_slate :=
  ab_conX_of hl (own := RX3) (rt := 1) (tb := tbX3) (ini := false) (ca := ca_X3_slate) (xs := [(20, 3)]) (by decide +kernel) rfl (fun h => by cases h) rfl lw_wd_ok wtbX3 lw_ar cm_X3_slate
    (fun p e R s m args below meth c K hcx => by
      obtain ⟨hx, hb, hml, hown, hF, rfl⟩ := hcx
      exact ab_lk_all (ab_all_c (ab_tc_V hx hb hml hown lw_wd_ok hF ⟨rfl, rfl⟩ (con_X1_isKnown l D ty base) rfl (lw_wi (by decide +kernel) (by decide +kernel)) (lw_wi (by decide +kernel) (by decide +kernel)) (lw_wi (by decide +kernel) (by decide +kernel)) (lw_wi (by decide +kernel) (by decide +kernel)) (lw_wi (by decide +kernel) (by decide +kernel)) (by decide +kernel) ⟨by decide, by decide⟩) (ab_all_c (ab_tc_S hx hb hml hown lw_wd_ok hF ⟨rfl, rfl⟩ (con_X3_isUpTo l D ty base) (lw_wi (by decide +kernel) (by decide +kernel)) (lw_wi (by decide +kernel) (by decide +kernel)) (lw_wi (by decide +kernel) (by decide +kernel)) (lw_wi (by decide +kernel) (by decide +kernel)) (by decide +kernel) ⟨by decide, by decide⟩) (ab_all_c (ab_tc_V hx hb hml hown lw_wd_ok hF ⟨rfl, rfl⟩ (con_X1_tellSlate l D ty base) rfl (lw_wi (by decide +kernel) (by decide +kernel)) (lw_wi (by decide +kernel) (by decide +kernel)) (lw_wi (by decide +kernel) (by decide +kernel)) (lw_wi (by decide +kernel) (by decide +kernel)) (lw_wi (by decide +kernel) (by decide +kernel)) (by decide +kernel) ⟨by decide, by decide⟩) (ab_all_n)))))
    (by intro as h K ht; unfold TrX_X3_slate at ht; split at ht <;> first | exact ht.elim | exact Nat.le_of_ble_eq_true rfl)
    (List.forall_mem_cons.mpr ⟨⟨Or.inr (Or.inr rfl), 70, 127, 74, "no such slate, or nothing to tell by this number", dX3_slate_20, dX3_slate_23, dX3_slate_24, dX3_slate_26, dX3_slate_29, (lw_wi (by decide +kernel) (by decide +kernel)), (lw_wi (by decide +kernel) (by decide +kernel)), (lw_wi (by decide +kernel) (by decide +kernel)), lw_wa (by decide +kernel) (by decide +kernel), by decide +kernel⟩, fun _ h => absurd h List.not_mem_nil⟩) ⟨by decide, by decide⟩ (by decide) (semx_X3_slate base)
noncomputable def TrX_X3_place : ATr := fun as h K => match as with
  | [.inr (.inl (some a)), .inl x, .inl y, .inl what] => ab_so (ab_sr h a) fun P => (P.2 = sv0 ∧ ab_in x ∧ ab_in y ∧ ab_in what) ∧ (isPlaceF x y = true ∧ isUpToF what 2 = true → ∀ h', ab_fr h h' (a :: srL P.1) → K (some (.inl (if what = 0 then -1 else 0))) h') ∧ (isPlaceF x y = false ∨ isUpToF what 2 = false → K (some (.inr (.inr (.inl (3 : Int))))) h)
  | _ => False
def ca_X3_place : Nat → Option ACS := ab_lk [(94, (2, 0, 2, 0, 0, Tr_X3_isPlace)), (113, (2, 0, 2, 0, 0, Tr_X3_isUpTo)), (100, (0, 1, 3, 0, 0, Tr_X1_numberAt)), (134, (0, 1, 3, 0, 0, Tr_X1_isCovered)), (106, (0, 1, 3, 0, 0, Tr_X1_rotAt))]
theorem ca_X3_place_94 : ca_X3_place 94 = some (2, 0, 2, 0, 0, Tr_X3_isPlace) := rfl
theorem ca_X3_place_113 : ca_X3_place 113 = some (2, 0, 2, 0, 0, Tr_X3_isUpTo) := rfl
theorem ca_X3_place_100 : ca_X3_place 100 = some (0, 1, 3, 0, 0, Tr_X1_numberAt) := rfl
theorem ca_X3_place_134 : ca_X3_place 134 = some (0, 1, 3, 0, 0, Tr_X1_isCovered) := rfl
theorem ca_X3_place_106 : ca_X3_place 106 = some (0, 1, 3, 0, 0, Tr_X1_rotAt) := rfl
theorem cm_X3_place : ∀ i q, ca_X3_place i = some q → ab_moq i q := ab_lk_all (ab_all_c mo_X3_isPlace (ab_all_c mo_X3_isUpTo (ab_all_c mo_X1_numberAt (ab_all_c mo_X1_isCovered (ab_all_c mo_X1_rotAt (ab_all_n))))))
set_option maxRecDepth 100000 in
set_option maxHeartbeats 4000000 in
theorem semx_X3_place (base : Nat) : ab_SemX tbX3 lw_ts base cX3_place ca_X3_place 1 4 1 6 (fun as => ab_en as 4) TrX_X3_place [(16, 3)] := by
  intro as h K hT V hV hX
  unfold TrX_X3_place at hT
  split at hT
  · rename_i a x y what
    obtain ⟨⟨⟨⟨r, ns⟩, ⟨t, ms⟩, ⟨c, n⟩, b, q0, q1, q2, q3⟩, v9⟩, hP, ⟨hv9, hs⟩, hK⟩ := ab_so_el hT
    dsimp only at hv9
    subst hv9
    have hA := sr_el hP
    obtain ⟨D, D0, D1, D2, D3, D4⟩ := id hA
    dsimp only [sv0] at D D0 D1 D2 D3
    dsimp only at D4
    try dsimp only at hK hs
    obtain ⟨-, m0, m1, m2, m3, m4, m5, m6, m7, m8, hm9, -, e9, -⟩ := roof_el D0
    rw [r0_laid, r0_there, r0_day, r0_blown] at e9
    show V 0 [some (.inr (.inl (some a))), some (.inl x), some (.inl y), some (.inl what)] [] h 0 0
    obtain ⟨hK0, hK1⟩ := hK
    have x16 : ∀ ls st, ab_sz st ≤ 8 → K (some (.inr (.inr (.inl (3 : Int))))) h → V 16 ls st h 0 0 := fun ls st w1 w2 => hX (16, 3) (by simp) ls st h 0 0 w1 (by decide) (by decide) w2
    cases hp : isPlaceF x y
    · refine hV (fun p => p == 16 || p == 26) 80 _ _ _ _ _ _ ?_
      simp only [D, hp, bI_in, bI_0, bI_1, bI_t, bI_f, bI_01, r0_laid, r0_there, r0_day, r0_blown, br_known bareR0, br_there bareR0, br_num bareR0, br_rot bareR0, br_cov bareR0, br_free bareR0, br_covPl bareR0, br_crkTh bareR0, br_allRot bareR0, Tr_X3_isPlace, ae_iconst, ae_ifCond, ae_iload_n, ae_invokestatic, dX3_place_0, dX3_place_1, dX3_place_2, dX3_place_5, dX3_place_8, dX3_place_9, dX3_place_10, dX3_place_13, ca_X3_place_94, ca_X3_place_113, ca_X3_place_100, ca_X3_place_134, ca_X3_place_106, ab_wp0, ab_wps, ab_stp, ab_g, ab_st, ab_k2, ab_cl, ab_pop, ab_sz, ab_2, ab_ret, ab_f4, ab_tg, ab_I, ab_II, ab_A, ab_Rf, ab_VR, ab_IR, ab_VIR, ab_1, ab_LL, ab_DD, ab_ob, ab_pr, ab_qr, ab_ln, ab_so, ab_vI, ab_vA, ab_vD, ab_vL, ab_v2, ab_c, ab_fit, ab_rv, ab_tsw, ab_lsw, ab_up_eq, Fin.isValue, ab_f0, ab_f1, ab_f2, ab_f3, List.getElem?_cons_zero, List.getElem?_cons_succ, List.set_cons_zero, List.set_cons_succ, List.length_cons, List.length_nil, List.size_toArray, List.head?_cons, List.tail_cons, Option.map_some, cond_true, cond_false, true_and, and_true, false_and, and_false, not_true_eq_false, not_false_eq_true, true_imp_iff, false_imp_iff, if_true, if_false, ite_true, ite_false, ↓reduceIte, Nat.reduceAdd, Nat.reduceEqDiff, Nat.reduceLeDiff, Nat.reduceLT, Nat.reduceBEq, Nat.reduceBNe, Int.reduceAdd, Int.reduceNeg, Int.reduceSub, Int.reduceLE, Int.reduceLT, Int.reduceToNat, Int.reduceEq, Int.reduceMul, Int.cast_ofNat_Int, Nat.zero_add, Nat.add_zero, Nat.le_refl, eq_self, ne_eq, reduceCtorEq, or_true, true_or, or_false, false_or, Bool.or_true, Bool.or_false, Bool.true_or, Bool.false_or, Nat.zero_le, Int.le_refl, Int.ofNat_zero, Int.ofNat_one, Bool.false_eq_true]
      try simp only [ab_in] at hs ⊢
      (repeat' (first | intro _ | refine And.intro ?_ ?_)) <;> (first | exact x16 _ _ (by decide) (hK1 (Or.inl hp)) | contradiction | omega | (exfalso; omega))
    · cases hu : isUpToF what 2
      · refine hV (fun p => p == 16 || p == 26) 80 _ _ _ _ _ _ ?_
        simp only [D, hp, hu, bI_in, bI_0, bI_1, bI_t, bI_f, bI_01, r0_laid, r0_there, r0_day, r0_blown, br_known bareR0, br_there bareR0, br_num bareR0, br_rot bareR0, br_cov bareR0, br_free bareR0, br_covPl bareR0, br_crkTh bareR0, br_allRot bareR0, Tr_X3_isPlace, Tr_X3_isUpTo, ae_iconst, ae_ifCond, ae_iload_n, ae_invokestatic, dX3_place_0, dX3_place_1, dX3_place_2, dX3_place_5, dX3_place_8, dX3_place_9, dX3_place_10, dX3_place_13, ca_X3_place_94, ca_X3_place_113, ca_X3_place_100, ca_X3_place_134, ca_X3_place_106, ab_wp0, ab_wps, ab_stp, ab_g, ab_st, ab_k2, ab_cl, ab_pop, ab_sz, ab_2, ab_ret, ab_f4, ab_tg, ab_I, ab_II, ab_A, ab_Rf, ab_VR, ab_IR, ab_VIR, ab_1, ab_LL, ab_DD, ab_ob, ab_pr, ab_qr, ab_ln, ab_so, ab_vI, ab_vA, ab_vD, ab_vL, ab_v2, ab_c, ab_fit, ab_rv, ab_tsw, ab_lsw, ab_up_eq, Fin.isValue, ab_f0, ab_f1, ab_f2, ab_f3, List.getElem?_cons_zero, List.getElem?_cons_succ, List.set_cons_zero, List.set_cons_succ, List.length_cons, List.length_nil, List.size_toArray, List.head?_cons, List.tail_cons, Option.map_some, cond_true, cond_false, true_and, and_true, false_and, and_false, not_true_eq_false, not_false_eq_true, true_imp_iff, false_imp_iff, if_true, if_false, ite_true, ite_false, ↓reduceIte, Nat.reduceAdd, Nat.reduceEqDiff, Nat.reduceLeDiff, Nat.reduceLT, Nat.reduceBEq, Nat.reduceBNe, Int.reduceAdd, Int.reduceNeg, Int.reduceSub, Int.reduceLE, Int.reduceLT, Int.reduceToNat, Int.reduceEq, Int.reduceMul, Int.cast_ofNat_Int, Nat.zero_add, Nat.add_zero, Nat.le_refl, eq_self, ne_eq, reduceCtorEq, or_true, true_or, or_false, false_or, Bool.or_true, Bool.or_false, Bool.true_or, Bool.false_or, Nat.zero_le, Int.le_refl, Int.ofNat_zero, Int.ofNat_one, Bool.false_eq_true]
        try simp only [ab_in] at hs ⊢
        (repeat' (first | intro _ | refine And.intro ?_ ?_)) <;> (first | exact x16 _ _ (by decide) (hK1 (Or.inr hu)) | contradiction | omega | (exfalso; omega))
      · have hp2 : 0 ≤ x ∧ x < 12 ∧ 0 ≤ y ∧ y < 8 := of_decide_eq_true hp
        have hu2 : 0 ≤ what ∧ what ≤ 2 := of_decide_eq_true hu
        have kk := hK0 ⟨hp, hu⟩ h ab_fr.rf
        have k0 : what = 0 → K (some (.inl (-1))) h := fun q => by rw [if_pos q] at kk; exact kk
        have k1 : ¬ what = 0 → K (some (.inl 0)) h := fun q => by rw [if_neg q] at kk; exact kk
        refine hV (fun _ => false) 80 _ _ _ _ _ _ ?_
        simp only [D, D0, e9, hp, hu, bI_in, bI_0, bI_1, bI_t, bI_f, bI_01, r0_laid, r0_there, r0_day, r0_blown, br_known bareR0, br_there bareR0, br_num bareR0, br_rot bareR0, br_cov bareR0, br_free bareR0, br_covPl bareR0, br_crkTh bareR0, br_allRot bareR0, Tr_X3_isPlace, Tr_X3_isUpTo, Tr_X1_numberAt, Tr_X1_isCovered, Tr_X1_rotAt, ae_aload_n, ae_dup, ae_getfield, ae_goto, ae_iconst, ae_ifCond, ae_iload_n, ae_invokespecial, ae_invokestatic, ae_invokevirtual, ae_ireturn, ae_ldc, ae_lookupswitch, ae_new, dX3_place_0, dX3_place_1, dX3_place_2, dX3_place_5, dX3_place_8, dX3_place_9, dX3_place_10, dX3_place_13, dX3_place_16, dX3_place_19, dX3_place_20, dX3_place_22, dX3_place_25, dX3_place_26, dX3_place_27, dX3_place_52, dX3_place_53, dX3_place_56, dX3_place_57, dX3_place_58, dX3_place_61, dX3_place_62, dX3_place_63, dX3_place_66, dX3_place_67, dX3_place_68, dX3_place_71, dX3_place_74, dX3_place_75, dX3_place_78, dX3_place_79, dX3_place_80, dX3_place_81, dX3_place_84, dX3_place_85, dX3_place_86, dX3_place_89, tbX3_g12, ca_X3_place_94, ca_X3_place_113, ca_X3_place_100, ca_X3_place_134, ca_X3_place_106, ab_wp0, ab_wps, ab_stp, ab_g, ab_st, ab_k2, ab_cl, ab_pop, ab_sz, ab_2, ab_ret, ab_f4, ab_tg, ab_I, ab_II, ab_A, ab_Rf, ab_VR, ab_IR, ab_VIR, ab_1, ab_LL, ab_DD, ab_ob, ab_pr, ab_qr, ab_ln, ab_so, ab_vI, ab_vA, ab_vD, ab_vL, ab_v2, ab_c, ab_fit, ab_rv, ab_tsw, ab_lsw, ab_up_eq, Fin.isValue, ab_f0, ab_f1, ab_f2, ab_f3, List.getElem?_cons_zero, List.getElem?_cons_succ, List.set_cons_zero, List.set_cons_succ, List.length_cons, List.length_nil, List.size_toArray, List.head?_cons, List.tail_cons, Option.map_some, cond_true, cond_false, true_and, and_true, false_and, and_false, not_true_eq_false, not_false_eq_true, true_imp_iff, false_imp_iff, if_true, if_false, ite_true, ite_false, ↓reduceIte, Nat.reduceAdd, Nat.reduceEqDiff, Nat.reduceLeDiff, Nat.reduceLT, Nat.reduceBEq, Nat.reduceBNe, Int.reduceAdd, Int.reduceNeg, Int.reduceSub, Int.reduceLE, Int.reduceLT, Int.reduceToNat, Int.reduceEq, Int.reduceMul, Int.cast_ofNat_Int, Nat.zero_add, Nat.add_zero, Nat.le_refl, eq_self, ne_eq, reduceCtorEq, or_true, true_or, or_false, false_or, Bool.or_true, Bool.or_false, Bool.true_or, Bool.false_or, Nat.zero_le, Int.le_refl, Int.ofNat_zero, Int.ofNat_one, Bool.false_eq_true]
        try simp only [ab_in] at hs ⊢
        (repeat' (first | intro _ | refine And.intro ?_ ?_)) <;> (first | exact k0 (by omega) | exact k1 (by omega) | exact rfl | contradiction | omega | (exfalso; omega))
  · exact hT.elim
set_option maxRecDepth 100000 in
theorem conx_X3_place (l : Launch) (hl : l.stackTraces = false) (D : va_G) (ty : Nat → ClassId) (base : Nat) : ab_ConX l D vwCl ty lw_ts base lw_wd yX3_place cX3_place 4 (some .int) 6 90 1 6 TrX_X3_place :=
  ab_conX_of hl (own := RX3) (rt := 1) (tb := tbX3) (ini := false) (ca := ca_X3_place) (xs := [(16, 3)]) (by decide +kernel) rfl (fun h => by cases h) rfl lw_wd_ok wtbX3 lw_ar cm_X3_place
    (fun p e R s m args below meth c K hcx => by
      obtain ⟨hx, hb, hml, hown, hF, rfl⟩ := hcx
      exact ab_lk_all (ab_all_c (ab_tc_S hx hb hml hown lw_wd_ok hF ⟨rfl, rfl⟩ (con_X3_isPlace l D ty base) (lw_wi (by decide +kernel) (by decide +kernel)) (lw_wi (by decide +kernel) (by decide +kernel)) (lw_wi (by decide +kernel) (by decide +kernel)) (lw_wi (by decide +kernel) (by decide +kernel)) (by decide +kernel) ⟨by decide, by decide⟩) (ab_all_c (ab_tc_S hx hb hml hown lw_wd_ok hF ⟨rfl, rfl⟩ (con_X3_isUpTo l D ty base) (lw_wi (by decide +kernel) (by decide +kernel)) (lw_wi (by decide +kernel) (by decide +kernel)) (lw_wi (by decide +kernel) (by decide +kernel)) (lw_wi (by decide +kernel) (by decide +kernel)) (by decide +kernel) ⟨by decide, by decide⟩) (ab_all_c (ab_tc_V hx hb hml hown lw_wd_ok hF ⟨rfl, rfl⟩ (con_X1_numberAt l D ty base) rfl (lw_wi (by decide +kernel) (by decide +kernel)) (lw_wi (by decide +kernel) (by decide +kernel)) (lw_wi (by decide +kernel) (by decide +kernel)) (lw_wi (by decide +kernel) (by decide +kernel)) (lw_wi (by decide +kernel) (by decide +kernel)) (by decide +kernel) ⟨by decide, by decide⟩) (ab_all_c (ab_tc_V hx hb hml hown lw_wd_ok hF ⟨rfl, rfl⟩ (con_X1_isCovered l D ty base) rfl (lw_wi (by decide +kernel) (by decide +kernel)) (lw_wi (by decide +kernel) (by decide +kernel)) (lw_wi (by decide +kernel) (by decide +kernel)) (lw_wi (by decide +kernel) (by decide +kernel)) (lw_wi (by decide +kernel) (by decide +kernel)) (by decide +kernel) ⟨by decide, by decide⟩) (ab_all_c (ab_tc_V hx hb hml hown lw_wd_ok hF ⟨rfl, rfl⟩ (con_X1_rotAt l D ty base) rfl (lw_wi (by decide +kernel) (by decide +kernel)) (lw_wi (by decide +kernel) (by decide +kernel)) (lw_wi (by decide +kernel) (by decide +kernel)) (lw_wi (by decide +kernel) (by decide +kernel)) (lw_wi (by decide +kernel) (by decide +kernel)) (by decide +kernel) ⟨by decide, by decide⟩) (ab_all_n)))))))
    (by intro as h K ht; unfold TrX_X3_place at ht; split at ht <;> first | exact ht.elim | exact Nat.le_of_ble_eq_true rfl)
    (List.forall_mem_cons.mpr ⟨⟨Or.inr (Or.inr rfl), 70, 132, 74, "no such place, or nothing to tell by this number", dX3_place_16, dX3_place_19, dX3_place_20, dX3_place_22, dX3_place_25, (lw_wi (by decide +kernel) (by decide +kernel)), (lw_wi (by decide +kernel) (by decide +kernel)), (lw_wi (by decide +kernel) (by decide +kernel)), lw_wa (by decide +kernel) (by decide +kernel), by decide +kernel⟩, fun _ h => absurd h List.not_mem_nil⟩) ⟨by decide, by decide⟩ (by decide) (semx_X3_place base)
noncomputable def TrX_X3_count : ATr := fun as h K => match as with
  | [.inr (.inl (some a)), .inl what] => ab_so (ab_sr h a) fun P => (P.2 = sv0 ∧ ab_in what) ∧ (isUpToF what 6 = true → ∀ h', ab_fr h h' (a :: srL P.1) → K (some (.inl (0))) h') ∧ (isUpToF what 6 = false → K (some (.inr (.inr (.inl (3 : Int))))) h)
  | _ => False
def ca_X3_count : Nat → Option ACS := ab_lk [(113, (2, 0, 2, 0, 0, Tr_X3_isUpTo)), (142, (0, 1, 1, 0, 0, Tr_X1_crackedThere)), (146, (0, 1, 1, 0, 0, Tr_X1_coveredPlaces)), (152, (0, 1, 1, 0, 0, Tr_X1_allRot))]
theorem ca_X3_count_113 : ca_X3_count 113 = some (2, 0, 2, 0, 0, Tr_X3_isUpTo) := rfl
theorem ca_X3_count_142 : ca_X3_count 142 = some (0, 1, 1, 0, 0, Tr_X1_crackedThere) := rfl
theorem ca_X3_count_146 : ca_X3_count 146 = some (0, 1, 1, 0, 0, Tr_X1_coveredPlaces) := rfl
theorem ca_X3_count_152 : ca_X3_count 152 = some (0, 1, 1, 0, 0, Tr_X1_allRot) := rfl
theorem cm_X3_count : ∀ i q, ca_X3_count i = some q → ab_moq i q := ab_lk_all (ab_all_c mo_X3_isUpTo (ab_all_c mo_X1_crackedThere (ab_all_c mo_X1_coveredPlaces (ab_all_c mo_X1_allRot (ab_all_n)))))
set_option maxRecDepth 100000 in
set_option maxHeartbeats 4000000 in
theorem semx_X3_count (base : Nat) : ab_SemX tbX3 lw_ts base cX3_count ca_X3_count 1 2 1 6 (fun as => ab_en as 2) TrX_X3_count [(9, 3)] := by
  intro as h K hT V hV hX
  unfold TrX_X3_count at hT
  split at hT
  · rename_i a what
    obtain ⟨⟨⟨⟨r, ns⟩, ⟨t, ms⟩, ⟨c, n⟩, b, q0, q1, q2, q3⟩, v9⟩, hP, ⟨hv9, hs⟩, hK⟩ := ab_so_el hT
    dsimp only at hv9
    subst hv9
    have hA := sr_el hP
    obtain ⟨D, D0, D1, D2, D3, D4⟩ := id hA
    dsimp only [sv0] at D D0 D1 D2 D3
    dsimp only at D4
    try dsimp only at hK hs
    obtain ⟨-, m0, m1, m2, m3, m4, m5, m6, m7, m8, hm9, -, e9, -⟩ := roof_el D0
    rw [r0_laid, r0_there, r0_day, r0_blown] at e9
    show V 0 [some (.inr (.inl (some a))), some (.inl what)] [] h 0 0
    obtain ⟨hK0, hK1⟩ := hK
    have x9 : ∀ ls st, ab_sz st ≤ 8 → K (some (.inr (.inr (.inl (3 : Int))))) h → V 9 ls st h 0 0 := fun ls st w1 w2 => hX (9, 3) (by simp) ls st h 0 0 w1 (by decide) (by decide) w2
    cases hu : isUpToF what 6
    · refine hV (fun p => p == 9 || p == 19) 80 _ _ _ _ _ _ ?_
      simp only [D, hu, bI_in, bI_0, bI_1, bI_t, bI_f, bI_01, r0_laid, r0_there, r0_day, r0_blown, br_known bareR0, br_there bareR0, br_num bareR0, br_rot bareR0, br_cov bareR0, br_free bareR0, br_covPl bareR0, br_crkTh bareR0, br_allRot bareR0, Tr_X3_isUpTo, ae_bipush, ae_ifCond, ae_iload_n, ae_invokestatic, dX3_count_0, dX3_count_1, dX3_count_3, dX3_count_6, ca_X3_count_113, ca_X3_count_142, ca_X3_count_146, ca_X3_count_152, ab_wp0, ab_wps, ab_stp, ab_g, ab_st, ab_k2, ab_cl, ab_pop, ab_sz, ab_2, ab_ret, ab_f4, ab_tg, ab_I, ab_II, ab_A, ab_Rf, ab_VR, ab_IR, ab_VIR, ab_1, ab_LL, ab_DD, ab_ob, ab_pr, ab_qr, ab_ln, ab_so, ab_vI, ab_vA, ab_vD, ab_vL, ab_v2, ab_c, ab_fit, ab_rv, ab_tsw, ab_lsw, ab_up_eq, Fin.isValue, ab_f0, ab_f1, ab_f2, ab_f3, List.getElem?_cons_zero, List.getElem?_cons_succ, List.set_cons_zero, List.set_cons_succ, List.length_cons, List.length_nil, List.size_toArray, List.head?_cons, List.tail_cons, Option.map_some, cond_true, cond_false, true_and, and_true, false_and, and_false, not_true_eq_false, not_false_eq_true, true_imp_iff, false_imp_iff, if_true, if_false, ite_true, ite_false, ↓reduceIte, Nat.reduceAdd, Nat.reduceEqDiff, Nat.reduceLeDiff, Nat.reduceLT, Nat.reduceBEq, Nat.reduceBNe, Int.reduceAdd, Int.reduceNeg, Int.reduceSub, Int.reduceLE, Int.reduceLT, Int.reduceToNat, Int.reduceEq, Int.reduceMul, Int.cast_ofNat_Int, Nat.zero_add, Nat.add_zero, Nat.le_refl, eq_self, ne_eq, reduceCtorEq, or_true, true_or, or_false, false_or, Bool.or_true, Bool.or_false, Bool.true_or, Bool.false_or, Nat.zero_le, Int.le_refl, Int.ofNat_zero, Int.ofNat_one, Bool.false_eq_true]
      try simp only [ab_in] at hs ⊢
      (repeat' (first | intro _ | refine And.intro ?_ ?_)) <;> (first | exact x9 _ _ (by decide) (hK1 hu) | contradiction | omega | (exfalso; omega))
    · have hu2 : 0 ≤ what ∧ what ≤ 6 := of_decide_eq_true hu
      have kk := hK0 hu h ab_fr.rf
      refine hV (fun _ => false) 80 _ _ _ _ _ _ ?_
      simp only [D, D0, e9, hu, bI_in, bI_0, bI_1, bI_t, bI_f, bI_01, r0_laid, r0_there, r0_day, r0_blown, br_known bareR0, br_there bareR0, br_num bareR0, br_rot bareR0, br_cov bareR0, br_free bareR0, br_covPl bareR0, br_crkTh bareR0, br_allRot bareR0, Tr_X3_isUpTo, Tr_X1_crackedThere, Tr_X1_coveredPlaces, Tr_X1_allRot, ae_aload_n, ae_bipush, ae_dup, ae_getfield, ae_ifCond, ae_iload_n, ae_invokespecial, ae_invokestatic, ae_invokevirtual, ae_ireturn, ae_ldc, ae_new, ae_tableswitch, dX3_count_0, dX3_count_1, dX3_count_3, dX3_count_6, dX3_count_9, dX3_count_12, dX3_count_13, dX3_count_15, dX3_count_18, dX3_count_19, dX3_count_20, dX3_count_60, dX3_count_61, dX3_count_64, dX3_count_67, dX3_count_68, dX3_count_69, dX3_count_72, dX3_count_75, dX3_count_76, dX3_count_77, dX3_count_80, dX3_count_83, dX3_count_84, dX3_count_85, dX3_count_88, dX3_count_91, dX3_count_92, dX3_count_93, dX3_count_96, dX3_count_99, dX3_count_100, dX3_count_101, dX3_count_104, dX3_count_107, dX3_count_108, dX3_count_109, dX3_count_112, dX3_count_115, tbX3_g12, tbX3_g139, tbX3_g149, tbX3_g48, tbX3_g52, ca_X3_count_113, ca_X3_count_142, ca_X3_count_146, ca_X3_count_152, ab_wp0, ab_wps, ab_stp, ab_g, ab_st, ab_k2, ab_cl, ab_pop, ab_sz, ab_2, ab_ret, ab_f4, ab_tg, ab_I, ab_II, ab_A, ab_Rf, ab_VR, ab_IR, ab_VIR, ab_1, ab_LL, ab_DD, ab_ob, ab_pr, ab_qr, ab_ln, ab_so, ab_vI, ab_vA, ab_vD, ab_vL, ab_v2, ab_c, ab_fit, ab_rv, ab_tsw, ab_lsw, ab_up_eq, Fin.isValue, ab_f0, ab_f1, ab_f2, ab_f3, List.getElem?_cons_zero, List.getElem?_cons_succ, List.set_cons_zero, List.set_cons_succ, List.length_cons, List.length_nil, List.size_toArray, List.head?_cons, List.tail_cons, Option.map_some, cond_true, cond_false, true_and, and_true, false_and, and_false, not_true_eq_false, not_false_eq_true, true_imp_iff, false_imp_iff, if_true, if_false, ite_true, ite_false, ↓reduceIte, Nat.reduceAdd, Nat.reduceEqDiff, Nat.reduceLeDiff, Nat.reduceLT, Nat.reduceBEq, Nat.reduceBNe, Int.reduceAdd, Int.reduceNeg, Int.reduceSub, Int.reduceLE, Int.reduceLT, Int.reduceToNat, Int.reduceEq, Int.reduceMul, Int.cast_ofNat_Int, Nat.zero_add, Nat.add_zero, Nat.le_refl, eq_self, ne_eq, reduceCtorEq, or_true, true_or, or_false, false_or, Bool.or_true, Bool.or_false, Bool.true_or, Bool.false_or, Nat.zero_le, Int.le_refl, Int.ofNat_zero, Int.ofNat_one, Bool.false_eq_true]
      try simp only [ab_in] at hs ⊢
      (repeat' (first | intro _ | refine And.intro ?_ ?_)) <;> (first | exact kk | contradiction | omega | (exfalso; omega))
  · exact hT.elim
set_option maxRecDepth 100000 in
theorem conx_X3_count (l : Launch) (hl : l.stackTraces = false) (D : va_G) (ty : Nat → ClassId) (base : Nat) : ab_ConX l D vwCl ty lw_ts base lw_wd yX3_count cX3_count 2 (some .int) 6 90 1 6 TrX_X3_count :=
  ab_conX_of hl (own := RX3) (rt := 1) (tb := tbX3) (ini := false) (ca := ca_X3_count) (xs := [(9, 3)]) (by decide +kernel) rfl (fun h => by cases h) rfl lw_wd_ok wtbX3 lw_ar cm_X3_count
    (fun p e R s m args below meth c K hcx => by
      obtain ⟨hx, hb, hml, hown, hF, rfl⟩ := hcx
      exact ab_lk_all (ab_all_c (ab_tc_S hx hb hml hown lw_wd_ok hF ⟨rfl, rfl⟩ (con_X3_isUpTo l D ty base) (lw_wi (by decide +kernel) (by decide +kernel)) (lw_wi (by decide +kernel) (by decide +kernel)) (lw_wi (by decide +kernel) (by decide +kernel)) (lw_wi (by decide +kernel) (by decide +kernel)) (by decide +kernel) ⟨by decide, by decide⟩) (ab_all_c (ab_tc_V hx hb hml hown lw_wd_ok hF ⟨rfl, rfl⟩ (con_X1_crackedThere l D ty base) rfl (lw_wi (by decide +kernel) (by decide +kernel)) (lw_wi (by decide +kernel) (by decide +kernel)) (lw_wi (by decide +kernel) (by decide +kernel)) (lw_wi (by decide +kernel) (by decide +kernel)) (lw_wi (by decide +kernel) (by decide +kernel)) (by decide +kernel) ⟨by decide, by decide⟩) (ab_all_c (ab_tc_V hx hb hml hown lw_wd_ok hF ⟨rfl, rfl⟩ (con_X1_coveredPlaces l D ty base) rfl (lw_wi (by decide +kernel) (by decide +kernel)) (lw_wi (by decide +kernel) (by decide +kernel)) (lw_wi (by decide +kernel) (by decide +kernel)) (lw_wi (by decide +kernel) (by decide +kernel)) (lw_wi (by decide +kernel) (by decide +kernel)) (by decide +kernel) ⟨by decide, by decide⟩) (ab_all_c (ab_tc_V hx hb hml hown lw_wd_ok hF ⟨rfl, rfl⟩ (con_X1_allRot l D ty base) rfl (lw_wi (by decide +kernel) (by decide +kernel)) (lw_wi (by decide +kernel) (by decide +kernel)) (lw_wi (by decide +kernel) (by decide +kernel)) (lw_wi (by decide +kernel) (by decide +kernel)) (lw_wi (by decide +kernel) (by decide +kernel)) (by decide +kernel) ⟨by decide, by decide⟩) (ab_all_n))))))
    (by intro as h K ht; unfold TrX_X3_count at ht; split at ht <;> first | exact ht.elim | exact Nat.le_of_ble_eq_true rfl)
    (List.forall_mem_cons.mpr ⟨⟨Or.inr (Or.inr rfl), 70, 137, 74, "nothing to count by this number", dX3_count_9, dX3_count_12, dX3_count_13, dX3_count_15, dX3_count_18, (lw_wi (by decide +kernel) (by decide +kernel)), (lw_wi (by decide +kernel) (by decide +kernel)), (lw_wi (by decide +kernel) (by decide +kernel)), lw_wa (by decide +kernel) (by decide +kernel), by decide +kernel⟩, fun _ h => absurd h List.not_mem_nil⟩) ⟨by decide, by decide⟩ (by decide) (semx_X3_count base)
noncomputable def TrX_X3_lift : ATr := fun as h K => match as with
  | [.inr (.inl (some a)), .inl s, .inl force, .inl right] => ab_so (ab_sr h a) fun P => (P.2 = sv0 ∧ ab_in s ∧ ab_in force ∧ ab_in right) ∧ (True → K (some (.inr (.inr (.inl (3 : Int))))) h)
  | _ => False
def ca_X3_lift : Nat → Option ACS := ab_lk [(67, (0, 1, 2, 0, 0, Tr_X1_isKnown)), (113, (2, 0, 2, 0, 0, Tr_X3_isUpTo)), (157, (0, 1, 2, 0, 0, Tr_X1_isThere)), (162, (0, 1, 4, 0, 0, Tr_X1_liftOf))]
theorem ca_X3_lift_67 : ca_X3_lift 67 = some (0, 1, 2, 0, 0, Tr_X1_isKnown) := rfl
theorem ca_X3_lift_113 : ca_X3_lift 113 = some (2, 0, 2, 0, 0, Tr_X3_isUpTo) := rfl
theorem ca_X3_lift_157 : ca_X3_lift 157 = some (0, 1, 2, 0, 0, Tr_X1_isThere) := rfl
theorem ca_X3_lift_162 : ca_X3_lift 162 = some (0, 1, 4, 0, 0, Tr_X1_liftOf) := rfl
theorem cm_X3_lift : ∀ i q, ca_X3_lift i = some q → ab_moq i q := ab_lk_all (ab_all_c mo_X1_isKnown (ab_all_c mo_X3_isUpTo (ab_all_c mo_X1_isThere (ab_all_c mo_X1_liftOf (ab_all_n)))))
set_option maxRecDepth 100000 in
set_option maxHeartbeats 4000000 in
theorem semx_X3_lift (base : Nat) : ab_SemX tbX3 lw_ts base cX3_lift ca_X3_lift 1 4 1 6 (fun as => ab_en as 4) TrX_X3_lift [(11, 3), (30, 1), (51, 2)] := by
  intro as h K hT V hV hX
  unfold TrX_X3_lift at hT
  split at hT
  · rename_i a s force right
    obtain ⟨⟨⟨⟨r, ns⟩, ⟨t, ms⟩, ⟨c, n⟩, b, q0, q1, q2, q3⟩, v9⟩, hP, ⟨hv9, hs⟩, hK⟩ := ab_so_el hT
    dsimp only at hv9
    subst hv9
    have hA := sr_el hP
    obtain ⟨D, D0, D1, D2, D3, D4⟩ := id hA
    dsimp only [sv0] at D D0 D1 D2 D3
    dsimp only at D4
    try dsimp only at hK hs
    obtain ⟨-, m0, m1, m2, m3, m4, m5, m6, m7, m8, hm9, -, e9, -⟩ := roof_el D0
    rw [r0_laid, r0_there, r0_day, r0_blown] at e9
    show V 0 [some (.inr (.inl (some a))), some (.inl s), some (.inl force), some (.inl right)] [] h 0 0
    have hK0 := hK
    have x11 : ∀ ls st, ab_sz st ≤ 8 → K (some (.inr (.inr (.inl (3 : Int))))) h → V 11 ls st h 0 0 := fun ls st w1 w2 => hX (11, 3) (by simp) ls st h 0 0 w1 (by decide) (by decide) w2
    have x30 : ∀ ls st, ab_sz st ≤ 8 → K (some (.inr (.inr (.inl (1 : Int))))) h → V 30 ls st h 0 0 := fun ls st w1 w2 => hX (30, 1) (by simp) ls st h 0 0 w1 (by decide) (by decide) w2
    have x51 : ∀ ls st, ab_sz st ≤ 8 → K (some (.inr (.inr (.inl (2 : Int))))) h → V 51 ls st h 0 0 := fun ls st w1 w2 => hX (51, 2) (by simp) ls st h 0 0 w1 (by decide) (by decide) w2
    refine hV (fun p => p == 11 || p == 21) 80 _ _ _ _ _ _ ?_
    simp only [D, D0, e9, bI_in, bI_0, bI_1, bI_t, bI_f, bI_01, r0_laid, r0_there, r0_day, r0_blown, br_known bareR0, br_there bareR0, br_num bareR0, br_rot bareR0, br_cov bareR0, br_free bareR0, br_covPl bareR0, br_crkTh bareR0, br_allRot bareR0, Tr_X1_isKnown, ae_aload_n, ae_getfield, ae_ifCond, ae_iload_n, ae_invokevirtual, dX3_lift_0, dX3_lift_1, dX3_lift_4, dX3_lift_5, dX3_lift_8, tbX3_g12, ca_X3_lift_67, ca_X3_lift_113, ca_X3_lift_157, ca_X3_lift_162, ab_wp0, ab_wps, ab_stp, ab_g, ab_st, ab_k2, ab_cl, ab_pop, ab_sz, ab_2, ab_ret, ab_f4, ab_tg, ab_I, ab_II, ab_A, ab_Rf, ab_VR, ab_IR, ab_VIR, ab_1, ab_LL, ab_DD, ab_ob, ab_pr, ab_qr, ab_ln, ab_so, ab_vI, ab_vA, ab_vD, ab_vL, ab_v2, ab_c, ab_fit, ab_rv, ab_tsw, ab_lsw, ab_up_eq, Fin.isValue, ab_f0, ab_f1, ab_f2, ab_f3, List.getElem?_cons_zero, List.getElem?_cons_succ, List.set_cons_zero, List.set_cons_succ, List.length_cons, List.length_nil, List.size_toArray, List.head?_cons, List.tail_cons, Option.map_some, cond_true, cond_false, true_and, and_true, false_and, and_false, not_true_eq_false, not_false_eq_true, true_imp_iff, false_imp_iff, if_true, if_false, ite_true, ite_false, ↓reduceIte, Nat.reduceAdd, Nat.reduceEqDiff, Nat.reduceLeDiff, Nat.reduceLT, Nat.reduceBEq, Nat.reduceBNe, Int.reduceAdd, Int.reduceNeg, Int.reduceSub, Int.reduceLE, Int.reduceLT, Int.reduceToNat, Int.reduceEq, Int.reduceMul, Int.cast_ofNat_Int, Nat.zero_add, Nat.add_zero, Nat.le_refl, eq_self, ne_eq, reduceCtorEq, or_true, true_or, or_false, false_or, Bool.or_true, Bool.or_false, Bool.true_or, Bool.false_or, Nat.zero_le, Int.le_refl, Int.ofNat_zero, Int.ofNat_one, Bool.false_eq_true]
    try simp only [ab_in] at hs ⊢
    (repeat' (first | intro _ | refine And.intro ?_ ?_)) <;> (first | exact x11 _ _ (by decide) (hK0 trivial) | contradiction | omega | (exfalso; omega))
  · exact hT.elim
set_option maxRecDepth 100000 in
theorem conx_X3_lift (l : Launch) (hl : l.stackTraces = false) (D : va_G) (ty : Nat → ClassId) (base : Nat) : ab_ConX l D vwCl ty lw_ts base lw_wd yX3_lift cX3_lift 4 (some .int) 6 90 1 6 TrX_X3_lift :=
  ab_conX_of hl (own := RX3) (rt := 1) (tb := tbX3) (ini := false) (ca := ca_X3_lift) (xs := [(11, 3), (30, 1), (51, 2)]) (by decide +kernel) rfl (fun h => by cases h) rfl lw_wd_ok wtbX3 lw_ar cm_X3_lift
    (fun p e R s m args below meth c K hcx => by
      obtain ⟨hx, hb, hml, hown, hF, rfl⟩ := hcx
      exact ab_lk_all (ab_all_c (ab_tc_V hx hb hml hown lw_wd_ok hF ⟨rfl, rfl⟩ (con_X1_isKnown l D ty base) rfl (lw_wi (by decide +kernel) (by decide +kernel)) (lw_wi (by decide +kernel) (by decide +kernel)) (lw_wi (by decide +kernel) (by decide +kernel)) (lw_wi (by decide +kernel) (by decide +kernel)) (lw_wi (by decide +kernel) (by decide +kernel)) (by decide +kernel) ⟨by decide, by decide⟩) (ab_all_c (ab_tc_S hx hb hml hown lw_wd_ok hF ⟨rfl, rfl⟩ (con_X3_isUpTo l D ty base) (lw_wi (by decide +kernel) (by decide +kernel)) (lw_wi (by decide +kernel) (by decide +kernel)) (lw_wi (by decide +kernel) (by decide +kernel)) (lw_wi (by decide +kernel) (by decide +kernel)) (by decide +kernel) ⟨by decide, by decide⟩) (ab_all_c (ab_tc_V hx hb hml hown lw_wd_ok hF ⟨rfl, rfl⟩ (con_X1_isThere l D ty base) rfl (lw_wi (by decide +kernel) (by decide +kernel)) (lw_wi (by decide +kernel) (by decide +kernel)) (lw_wi (by decide +kernel) (by decide +kernel)) (lw_wi (by decide +kernel) (by decide +kernel)) (lw_wi (by decide +kernel) (by decide +kernel)) (by decide +kernel) ⟨by decide, by decide⟩) (ab_all_c (ab_tc_V hx hb hml hown lw_wd_ok hF ⟨rfl, rfl⟩ (con_X1_liftOf l D ty base) rfl (lw_wi (by decide +kernel) (by decide +kernel)) (lw_wi (by decide +kernel) (by decide +kernel)) (lw_wi (by decide +kernel) (by decide +kernel)) (lw_wi (by decide +kernel) (by decide +kernel)) (lw_wi (by decide +kernel) (by decide +kernel)) (by decide +kernel) ⟨by decide, by decide⟩) (ab_all_n))))))
    (by intro as h K ht; unfold TrX_X3_lift at ht; split at ht <;> first | exact ht.elim | exact Nat.le_of_ble_eq_true rfl)
    (List.forall_mem_cons.mpr ⟨⟨Or.inr (Or.inr rfl), 70, 72, 74, "no such slate", dX3_lift_11, dX3_lift_14, dX3_lift_15, dX3_lift_17, dX3_lift_20, (lw_wi (by decide +kernel) (by decide +kernel)), (lw_wi (by decide +kernel) (by decide +kernel)), (lw_wi (by decide +kernel) (by decide +kernel)), lw_wa (by decide +kernel) (by decide +kernel), by decide +kernel⟩, List.forall_mem_cons.mpr ⟨⟨Or.inl rfl, 41, 155, 45, "no such force", dX3_lift_30, dX3_lift_33, dX3_lift_34, dX3_lift_36, dX3_lift_39, (lw_wi (by decide +kernel) (by decide +kernel)), (lw_wi (by decide +kernel) (by decide +kernel)), (lw_wi (by decide +kernel) (by decide +kernel)), lw_wa (by decide +kernel) (by decide +kernel), by decide +kernel⟩, List.forall_mem_cons.mpr ⟨⟨Or.inr (Or.inl rfl), 58, 160, 62, "the slate is off the roof", dX3_lift_51, dX3_lift_54, dX3_lift_55, dX3_lift_57, dX3_lift_60, (lw_wi (by decide +kernel) (by decide +kernel)), (lw_wi (by decide +kernel) (by decide +kernel)), (lw_wi (by decide +kernel) (by decide +kernel)), lw_wa (by decide +kernel) (by decide +kernel), by decide +kernel⟩, fun _ h => absurd h List.not_mem_nil⟩⟩⟩) ⟨by decide, by decide⟩ (by decide) (semx_X3_lift base)
