/-! ===== Roof: adding and taking away ===== -/
theorem ab_uf_eq {α : Type} (f : Int → α) (i : Int) (v : α) : ab_uf f i v i = v := by unfold ab_uf; rw [if_pos rfl]
theorem addA_r {S : RS} (h : RB S) {row from9 wide v : Int} (h1 : 0 ≤ row ∧ row ≤ 7) (h2 : 0 ≤ from9) (h3 : 0 ≤ wide ∧ wide ≤ 4) (h4 : from9 + wide ≤ 12) (h5 : 0 ≤ v ∧ v ≤ 3) : RB (addA S row from9 wide v) := by
  refine ⟨h.1, h.2.1, uf_all (P := fun q => 0 ≤ q ∧ q ≤ 7) h.row_r h1, ?_, uf_all (P := fun q => 0 ≤ q ∧ q ≤ 3) h.nai_r h5, uf_all (P := fun q => q = 0 ∨ q = 1) h.crk_r (Or.inl rfl), uf_all (P := fun q => q = 0 ∨ q = 1) h.onr_r (Or.inr rfl), h.goe_r, h.day_r, h.laid_r⟩
  intro i
  show 0 ≤ ab_uf S.frm S.laid from9 i ∧ 0 ≤ ab_uf S.wid S.laid wide i ∧ ab_uf S.wid S.laid wide i ≤ 4 ∧ ab_uf S.frm S.laid from9 i + ab_uf S.wid S.laid wide i ≤ 12
  unfold ab_uf
  split
  · exact ⟨h2, h3.1, h3.2, h4⟩
  · exact h.frm_r i
noncomputable def Tr_X1_add : ATr := fun as h K => match as with
  | [.inr (.inl (some a)), .inl row, .inl from9, .inl wide, .inl v] => ab_so (ab_roof h a) fun P => ((0 ≤ row ∧ row ≤ 7) ∧ (0 ≤ from9) ∧ (0 ≤ wide ∧ wide ≤ 4) ∧ (from9 + wide ≤ 12) ∧ (0 ≤ v ∧ v ≤ 3) ∧ P.2.laid < 200) ∧ ∀ h', ab_roof h' a = some (P.1, addF P.2 row from9 wide v) → ab_fr h h' (a :: P.1) → K (some (.inl (P.2.laid))) h'
  | _ => False
theorem mo_X1_add : ab_mo Tr_X1_add := by
  intro as h K K' hk ht
  unfold Tr_X1_add at ht ⊢
  split at ht
  · exact ab_so_mo (fun P q => ⟨q.1, fun h' e1 e2 => hk _ _ (q.2 h' e1 e2)⟩) ht
  · exact ht.elim
def ca_X1_add : Nat → Option ACS := ab_lk [(72, (0, 1, 5, 0, 0, Tr_X1_setNumbers))]
theorem ca_X1_add_72 : ca_X1_add 72 = some (0, 1, 5, 0, 0, Tr_X1_setNumbers) := rfl
theorem cm_X1_add : ∀ i q, ca_X1_add i = some q → ab_moq i q := ab_lk_all (ab_all_c mo_X1_setNumbers (ab_all_n))
set_option maxRecDepth 100000 in
set_option maxHeartbeats 2000000 in
theorem sem_X1_add (base : Nat) : ab_Sem tbX1 lw_ts base cX1_add ca_X1_add 1 6 0 0 (fun as => ab_en as 6) Tr_X1_add := by
  intro as h K hT V hV
  unfold Tr_X1_add at hT
  split at hT
  · rename_i a row from9 wide v
    obtain ⟨⟨ns, S⟩, hP, hs, hK⟩ := ab_so_el hT
    obtain ⟨hB, hC⟩ := roof_el hP
    obtain ⟨n0, n1, n2, n3, n4, n5, n6, n7, n8, rfl, nd, c, c0, c1, c2, c3, c4, c5, c6, c7, c8⟩ := id hC

    dsimp only at hK hs
    show V 0 [some (.inr (.inl (some a))), some (.inl row), some (.inl from9), some (.inl wide), some (.inl v), none] [] h 0 0
    have hl := hB.laid_r
    have hC6 := rc_onr (rc_crk (rc_nai (rc_wid (rc_frm (rc_row hC (ab_uf S.row S.laid row)) (ab_uf S.frm S.laid from9)) (ab_uf S.wid S.laid wide)) (ab_uf S.nai S.laid v)) (ab_uf S.crk S.laid 0)) (ab_uf S.onr S.laid 1)
    have hP6 := roof_of (P := ([n0, n1, n2, n3, n4, n5, n6, n7, n8], addA S row from9 wide v)) ⟨addA_r hB hs.1 hs.2.1 hs.2.2.1 hs.2.2.2.1 hs.2.2.2.2.1, hC6⟩
    have f6 : ab_fr h _ [a, n0, n1, n2, n3, n4, n5, n6, n7, n8] := ((((((ab_fr.rf (h := h)).up (a := n2) (c := .inr (.inl (0, 200, ab_uf S.row S.laid row))) (by simp)).up (a := n3) (c := .inr (.inl (0, 200, ab_uf S.frm S.laid from9))) (by simp)).up (a := n4) (c := .inr (.inl (0, 200, ab_uf S.wid S.laid wide))) (by simp)).up (a := n5) (c := .inr (.inl (0, 200, ab_uf S.nai S.laid v))) (by simp)).up (a := n6) (c := .inr (.inl (1, 200, ab_uf S.crk S.laid 0))) (by simp)).up (a := n7) (c := .inr (.inl (1, 200, ab_uf S.onr S.laid 1))) (by simp)
    have he1 : ¬ S.laid < 0 := by omega
    have he2 : S.laid < 200 := hs.2.2.2.2.2
    have aft : ∀ h', ab_roof h' a = some ([n0, n1, n2, n3, n4, n5, n6, n7, n8], setNumF (addA S row from9 wide v) row from9 wide S.laid) → ab_fr h h' (a :: [n0, n1, n2, n3, n4, n5, n6, n7, n8]) → V 79 [some (.inr (.inl (some a))), some (.inl row), some (.inl from9), some (.inl wide), some (.inl v), some (.inl S.laid)] [] h' 0 0 := by
      intro h' e fr
      obtain ⟨hB2, hC2⟩ := roof_el e
      have hC9 := rc_there (rc_laid hC2 ((setNumF (addA S row from9 wide v) row from9 wide S.laid).laid + 1)) ((setNumF (addA S row from9 wide v) row from9 wide S.laid).there + 1)
      have hk2 := hK _ (roof_of (P := ([n0, n1, n2, n3, n4, n5, n6, n7, n8], addF S row from9 wide v)) ⟨(hB2.s_laid (v := S.laid + 1) (by omega)).s_there, hC9⟩) ((fr.up (by simp)).up (by simp))
      obtain ⟨m0, m1, m2, m3, m4, m5, m6, m7, m8, em, nd2, d, d0, d1, d2, d3, d4, d5, d6, d7, d8⟩ := id hC2
      simp only [List.cons.injEq, and_true] at em
      obtain ⟨rfl, rfl, rfl, rfl, rfl, rfl, rfl, rfl, rfl⟩ := em
      refine hV (fun _ => false) 80 _ _ _ _ _ _ ?_
      simp only [d, ae_aload_n, ae_dup, ae_getfield, ae_iadd, ae_iconst, ae_iload, ae_ireturn, ae_putfield, dX1_add_79, dX1_add_80, dX1_add_81, dX1_add_84, dX1_add_85, dX1_add_86, dX1_add_89, dX1_add_90, dX1_add_91, dX1_add_94, dX1_add_95, dX1_add_96, dX1_add_99, dX1_add_101, tbX1_g44, tbX1_g47, tbX1_p44, tbX1_p47, ca_X1_add_72, ab_wp0, ab_wps, ab_stp, ab_g, ab_st, ab_k2, ab_cl, ab_pop, ab_sz, ab_2, ab_ret, ab_f4, ab_tg, ab_I, ab_II, ab_A, ab_Rf, ab_VR, ab_IR, ab_VIR, ab_1, ab_LL, ab_DD, ab_ob, ab_pr, ab_qr, ab_ln, ab_so, ab_vI, ab_vA, ab_vD, ab_vL, ab_v2, ab_c, ab_fit, ab_rv, ab_tsw, ab_lsw, ab_up_eq, Fin.isValue, ab_f0, ab_f1, ab_f2, ab_f3, List.getElem?_cons_zero, List.getElem?_cons_succ, List.set_cons_zero, List.set_cons_succ, List.length_cons, List.length_nil, List.size_toArray, List.head?_cons, List.tail_cons, Option.map_some, cond_true, cond_false, true_and, and_true, false_and, and_false, not_true_eq_false, not_false_eq_true, true_imp_iff, false_imp_iff, if_true, if_false, ite_true, ite_false, ↓reduceIte, Nat.reduceAdd, Nat.reduceEqDiff, Nat.reduceLeDiff, Nat.reduceLT, Nat.reduceBEq, Nat.reduceBNe, Int.reduceAdd, Int.reduceNeg, Int.reduceSub, Int.reduceLE, Int.reduceLT, Int.reduceToNat, Int.reduceEq, Int.reduceMul, Int.cast_ofNat_Int, Nat.zero_add, Nat.add_zero, Nat.le_refl, eq_self, ne_eq, reduceCtorEq, or_true, true_or, or_false, false_or, Bool.or_true, Bool.or_false, Bool.true_or, Bool.false_or, Nat.zero_le, Int.le_refl, Int.ofNat_zero, Int.ofNat_one, Bool.false_eq_true]
      exact hk2
    refine hV (fun p => p == 79) 80 _ _ _ _ _ _ ?_
    simp only [c, c2, c3, c4, c5, c6, c7, ab_up_ap, nd10 nd, he1, he2, hP6, bI_in, bI_0, bI_1, bI_t, bI_f, bI_01, Tr_X1_setNumbers, ae_aload_n, ae_bastore, ae_getfield, ae_iastore, ae_iconst, ae_ifCond, ae_if_icmp, ae_iload, ae_iload_n, ae_invokevirtual, ae_ireturn, ae_istore, ae_sipush, dX1_add_0, dX1_add_1, dX1_add_4, dX1_add_6, dX1_add_8, dX1_add_11, dX1_add_13, dX1_add_16, dX1_add_19, dX1_add_20, dX1_add_21, dX1_add_22, dX1_add_25, dX1_add_27, dX1_add_28, dX1_add_29, dX1_add_30, dX1_add_33, dX1_add_35, dX1_add_36, dX1_add_37, dX1_add_38, dX1_add_41, dX1_add_43, dX1_add_44, dX1_add_45, dX1_add_46, dX1_add_49, dX1_add_51, dX1_add_53, dX1_add_54, dX1_add_55, dX1_add_58, dX1_add_60, dX1_add_61, dX1_add_62, dX1_add_63, dX1_add_66, dX1_add_68, dX1_add_69, dX1_add_70, dX1_add_71, dX1_add_72, dX1_add_73, dX1_add_74, dX1_add_76, tbX1_g18, tbX1_g21, tbX1_g24, tbX1_g27, tbX1_g30, tbX1_g34, tbX1_g44, ca_X1_add_72, ab_wp0, ab_wps, ab_stp, ab_g, ab_st, ab_k2, ab_cl, ab_pop, ab_sz, ab_2, ab_ret, ab_f4, ab_tg, ab_I, ab_II, ab_A, ab_Rf, ab_VR, ab_IR, ab_VIR, ab_1, ab_LL, ab_DD, ab_ob, ab_pr, ab_qr, ab_ln, ab_so, ab_vI, ab_vA, ab_vD, ab_vL, ab_v2, ab_c, ab_fit, ab_rv, ab_tsw, ab_lsw, ab_up_eq, Fin.isValue, ab_f0, ab_f1, ab_f2, ab_f3, List.getElem?_cons_zero, List.getElem?_cons_succ, List.set_cons_zero, List.set_cons_succ, List.length_cons, List.length_nil, List.size_toArray, List.head?_cons, List.tail_cons, Option.map_some, cond_true, cond_false, true_and, and_true, false_and, and_false, not_true_eq_false, not_false_eq_true, true_imp_iff, false_imp_iff, if_true, if_false, ite_true, ite_false, ↓reduceIte, Nat.reduceAdd, Nat.reduceEqDiff, Nat.reduceLeDiff, Nat.reduceLT, Nat.reduceBEq, Nat.reduceBNe, Int.reduceAdd, Int.reduceNeg, Int.reduceSub, Int.reduceLE, Int.reduceLT, Int.reduceToNat, Int.reduceEq, Int.reduceMul, Int.cast_ofNat_Int, Nat.zero_add, Nat.add_zero, Nat.le_refl, eq_self, ne_eq, reduceCtorEq, or_true, true_or, or_false, false_or, Bool.or_true, Bool.or_false, Bool.true_or, Bool.false_or, Nat.zero_le, Int.le_refl, Int.ofNat_zero, Int.ofNat_one, Bool.false_eq_true]
    simp only [ab_in]
    (repeat' (first | intro _ | refine And.intro ?_ ?_)) <;> (first | exact aft _ (by assumption) (f6.tr (by assumption)) | contradiction | omega | (exfalso; omega))
  · exact hT.elim
set_option maxRecDepth 100000 in
theorem con_X1_add (l : Launch) (D : va_G) (ty : Nat → ClassId) (base : Nat) : ab_Con l D vwCl ty lw_ts base lw_wd yX1_add cX1_add 6 (some .int) 2 46 0 0 Tr_X1_add :=
  ab_con_of (own := RX1) (rt := 1) (tb := tbX1) (ini := false) (ca := ca_X1_add) (by decide +kernel) rfl (fun h => by cases h) rfl lw_wd_ok wtbX1 lw_ar cm_X1_add
    (fun p e R s m args below meth c K hcx => by
      obtain ⟨hx, hb, hml, hown, hF, rfl⟩ := hcx
      exact ab_lk_all (ab_all_c (ab_tc_V hx hb hml hown lw_wd_ok hF ⟨rfl, rfl⟩ (con_X1_setNumbers l D ty base) rfl (lw_wi (by decide +kernel) (by decide +kernel)) (lw_wi (by decide +kernel) (by decide +kernel)) (lw_wi (by decide +kernel) (by decide +kernel)) (lw_wi (by decide +kernel) (by decide +kernel)) (lw_wi (by decide +kernel) (by decide +kernel)) (by decide +kernel) ⟨by decide, by decide⟩) (ab_all_n)))
    (by intro as h K ht; unfold Tr_X1_add at ht; split at ht <;> first | exact ht.elim | exact Nat.le_of_ble_eq_true rfl) (sem_X1_add base)
noncomputable def Tr_X1_remove : ATr := fun as h K => match as with
  | [.inr (.inl (some a)), .inl s] => ab_so (ab_roof h a) fun P => (ab_in s) ∧ ∀ h', ab_roof h' a = some (P.1, removeF P.2 s) → ab_fr h h' (a :: P.1) → K (none) h'
  | _ => False
theorem mo_X1_remove : ab_mo Tr_X1_remove := by
  intro as h K K' hk ht
  unfold Tr_X1_remove at ht ⊢
  split at ht
  · exact ab_so_mo (fun P q => ⟨q.1, fun h' e1 e2 => hk _ _ (q.2 h' e1 e2)⟩) ht
  · exact ht.elim
def ca_X1_remove : Nat → Option ACS := ab_lk [(53, (0, 1, 2, 0, 0, Tr_X1_isThere)), (72, (0, 1, 5, 0, 0, Tr_X1_setNumbers))]
theorem ca_X1_remove_53 : ca_X1_remove 53 = some (0, 1, 2, 0, 0, Tr_X1_isThere) := rfl
theorem ca_X1_remove_72 : ca_X1_remove 72 = some (0, 1, 5, 0, 0, Tr_X1_setNumbers) := rfl
theorem cm_X1_remove : ∀ i q, ca_X1_remove i = some q → ab_moq i q := ab_lk_all (ab_all_c mo_X1_isThere (ab_all_c mo_X1_setNumbers (ab_all_n)))
set_option maxRecDepth 100000 in
set_option maxHeartbeats 2000000 in
theorem sem_X1_remove (base : Nat) : ab_Sem tbX1 lw_ts base cX1_remove ca_X1_remove 0 2 0 0 (fun as => ab_en as 2) Tr_X1_remove := by
  intro as h K hT V hV
  unfold Tr_X1_remove at hT
  split at hT
  · rename_i a s
    obtain ⟨⟨ns, S⟩, hP, hs, hK⟩ := ab_so_el hT
    obtain ⟨hB, hC⟩ := roof_el hP
    obtain ⟨n0, n1, n2, n3, n4, n5, n6, n7, n8, rfl, nd, c, c0, c1, c2, c3, c4, c5, c6, c7, c8⟩ := id hC

    dsimp only at hK hs
    show V 0 [some (.inr (.inl (some a))), some (.inl s)] [] h 0 0
    have hl := hB.laid_r
    by_cases hth : isThereF S s = true
    · have hk := isKnownF_t (isThereF_t hth).1
      have hr := hB.row_r s
      have hf := hB.frm_r s
      simp only [removeF, hth, cond_true] at hK
      have hC6 := rc_onr hC (ab_uf S.onr s 0)
      have hP6 := roof_of (P := ([n0, n1, n2, n3, n4, n5, n6, n7, n8], S.s_onr (ab_uf S.onr s 0))) ⟨hB.s_onr (uf_all (P := fun q => q = 0 ∨ q = 1) hB.onr_r (Or.inl rfl)), hC6⟩
      have f6 : ab_fr h _ [a, n0, n1, n2, n3, n4, n5, n6, n7, n8] := (ab_fr.rf (h := h)).up (a := n7) (c := .inr (.inl (1, 200, ab_uf S.onr s 0))) (by simp)
      have aft : ∀ h', ab_roof h' a = some ([n0, n1, n2, n3, n4, n5, n6, n7, n8], setNumF (S.s_onr (ab_uf S.onr s 0)) (S.row s) (S.frm s) (S.wid s) (-1)) → ab_fr h h' (a :: [n0, n1, n2, n3, n4, n5, n6, n7, n8]) → V 38 [some (.inr (.inl (some a))), some (.inl s)] [] h' 0 0 := by
        intro h' e fr
        obtain ⟨hB2, hC2⟩ := roof_el e
        have hC9 := rc_there hC2 ((setNumF (S.s_onr (ab_uf S.onr s 0)) (S.row s) (S.frm s) (S.wid s) (-1)).there - 1)
        have hk2 := hK _ (roof_of ⟨hB2.s_there, hC9⟩) (fr.up (by simp))
        obtain ⟨m0, m1, m2, m3, m4, m5, m6, m7, m8, em, nd2, d, d0, d1, d2, d3, d4, d5, d6, d7, d8⟩ := id hC2
        simp only [List.cons.injEq, and_true] at em
        obtain ⟨rfl, rfl, rfl, rfl, rfl, rfl, rfl, rfl, rfl⟩ := em
        refine hV (fun _ => false) 80 _ _ _ _ _ _ ?_
        simp only [d, ae_aload_n, ae_dup, ae_getfield, ae_iconst, ae_isub, ae_putfield, ae_return_, dX1_remove_38, dX1_remove_39, dX1_remove_40, dX1_remove_43, dX1_remove_44, dX1_remove_45, dX1_remove_48, tbX1_g47, tbX1_p47, ca_X1_remove_53, ca_X1_remove_72, ab_wp0, ab_wps, ab_stp, ab_g, ab_st, ab_k2, ab_cl, ab_pop, ab_sz, ab_2, ab_ret, ab_f4, ab_tg, ab_I, ab_II, ab_A, ab_Rf, ab_VR, ab_IR, ab_VIR, ab_1, ab_LL, ab_DD, ab_ob, ab_pr, ab_qr, ab_ln, ab_so, ab_vI, ab_vA, ab_vD, ab_vL, ab_v2, ab_c, ab_fit, ab_rv, ab_tsw, ab_lsw, ab_up_eq, Fin.isValue, ab_f0, ab_f1, ab_f2, ab_f3, List.getElem?_cons_zero, List.getElem?_cons_succ, List.set_cons_zero, List.set_cons_succ, List.length_cons, List.length_nil, List.size_toArray, List.head?_cons, List.tail_cons, Option.map_some, cond_true, cond_false, true_and, and_true, false_and, and_false, not_true_eq_false, not_false_eq_true, true_imp_iff, false_imp_iff, if_true, if_false, ite_true, ite_false, ↓reduceIte, Nat.reduceAdd, Nat.reduceEqDiff, Nat.reduceLeDiff, Nat.reduceLT, Nat.reduceBEq, Nat.reduceBNe, Int.reduceAdd, Int.reduceNeg, Int.reduceSub, Int.reduceLE, Int.reduceLT, Int.reduceToNat, Int.reduceEq, Int.reduceMul, Int.cast_ofNat_Int, Nat.zero_add, Nat.add_zero, Nat.le_refl, eq_self, ne_eq, reduceCtorEq, or_true, true_or, or_false, false_or, Bool.or_true, Bool.or_false, Bool.true_or, Bool.false_or, Nat.zero_le, Int.le_refl, Int.ofNat_zero, Int.ofNat_one, Bool.false_eq_true]
        exact hk2
      refine hV (fun p => p == 38) 80 _ _ _ _ _ _ ?_
      simp only [c, c2, c3, c4, c7, ab_up_ap, nd10 nd, hth, hP, hP6, bI_in, bI_0, bI_1, bI_t, bI_f, bI_01, Tr_X1_isThere, Tr_X1_setNumbers, ae_aload_n, ae_bastore, ae_getfield, ae_iaload, ae_iconst, ae_ifCond, ae_iload_n, ae_invokevirtual, dX1_remove_0, dX1_remove_1, dX1_remove_2, dX1_remove_5, dX1_remove_8, dX1_remove_9, dX1_remove_12, dX1_remove_13, dX1_remove_14, dX1_remove_15, dX1_remove_16, dX1_remove_17, dX1_remove_20, dX1_remove_21, dX1_remove_22, dX1_remove_23, dX1_remove_26, dX1_remove_27, dX1_remove_28, dX1_remove_29, dX1_remove_32, dX1_remove_33, dX1_remove_34, dX1_remove_35, tbX1_g18, tbX1_g21, tbX1_g24, tbX1_g34, ca_X1_remove_53, ca_X1_remove_72, ab_wp0, ab_wps, ab_stp, ab_g, ab_st, ab_k2, ab_cl, ab_pop, ab_sz, ab_2, ab_ret, ab_f4, ab_tg, ab_I, ab_II, ab_A, ab_Rf, ab_VR, ab_IR, ab_VIR, ab_1, ab_LL, ab_DD, ab_ob, ab_pr, ab_qr, ab_ln, ab_so, ab_vI, ab_vA, ab_vD, ab_vL, ab_v2, ab_c, ab_fit, ab_rv, ab_tsw, ab_lsw, ab_up_eq, Fin.isValue, ab_f0, ab_f1, ab_f2, ab_f3, List.getElem?_cons_zero, List.getElem?_cons_succ, List.set_cons_zero, List.set_cons_succ, List.length_cons, List.length_nil, List.size_toArray, List.head?_cons, List.tail_cons, Option.map_some, cond_true, cond_false, true_and, and_true, false_and, and_false, not_true_eq_false, not_false_eq_true, true_imp_iff, false_imp_iff, if_true, if_false, ite_true, ite_false, ↓reduceIte, Nat.reduceAdd, Nat.reduceEqDiff, Nat.reduceLeDiff, Nat.reduceLT, Nat.reduceBEq, Nat.reduceBNe, Int.reduceAdd, Int.reduceNeg, Int.reduceSub, Int.reduceLE, Int.reduceLT, Int.reduceToNat, Int.reduceEq, Int.reduceMul, Int.cast_ofNat_Int, Nat.zero_add, Nat.add_zero, Nat.le_refl, eq_self, ne_eq, reduceCtorEq, or_true, true_or, or_false, false_or, Bool.or_true, Bool.or_false, Bool.true_or, Bool.false_or, Nat.zero_le, Int.le_refl, Int.ofNat_zero, Int.ofNat_one, Bool.false_eq_true]
      simp only [ab_in] at hs ⊢
      (repeat' (first | intro _ | refine And.intro ?_ ?_)) <;> (first | exact aft _ (by assumption) (f6.tr (by assumption)) | contradiction | omega | (exfalso; omega))
    · simp only [removeF, hth, cond_false] at hK
      have hk2 := hK h hP ab_fr.rf
      refine hV (fun _ => false) 80 _ _ _ _ _ _ ?_
      simp only [c, hth, hP, bI_in, bI_0, bI_1, bI_t, bI_f, bI_01, Tr_X1_isThere, ae_aload_n, ae_bastore, ae_dup, ae_getfield, ae_iaload, ae_iconst, ae_ifCond, ae_iload_n, ae_invokevirtual, ae_isub, ae_putfield, ae_return_, dX1_remove_0, dX1_remove_1, dX1_remove_2, dX1_remove_5, dX1_remove_8, dX1_remove_9, dX1_remove_12, dX1_remove_13, dX1_remove_14, dX1_remove_15, dX1_remove_16, dX1_remove_17, dX1_remove_20, dX1_remove_21, dX1_remove_22, dX1_remove_23, dX1_remove_26, dX1_remove_27, dX1_remove_28, dX1_remove_29, dX1_remove_32, dX1_remove_33, dX1_remove_34, dX1_remove_35, dX1_remove_38, dX1_remove_39, dX1_remove_40, dX1_remove_43, dX1_remove_44, dX1_remove_45, dX1_remove_48, tbX1_g18, tbX1_g21, tbX1_g24, tbX1_g34, tbX1_g47, tbX1_p47, ca_X1_remove_53, ca_X1_remove_72, ab_wp0, ab_wps, ab_stp, ab_g, ab_st, ab_k2, ab_cl, ab_pop, ab_sz, ab_2, ab_ret, ab_f4, ab_tg, ab_I, ab_II, ab_A, ab_Rf, ab_VR, ab_IR, ab_VIR, ab_1, ab_LL, ab_DD, ab_ob, ab_pr, ab_qr, ab_ln, ab_so, ab_vI, ab_vA, ab_vD, ab_vL, ab_v2, ab_c, ab_fit, ab_rv, ab_tsw, ab_lsw, ab_up_eq, Fin.isValue, ab_f0, ab_f1, ab_f2, ab_f3, List.getElem?_cons_zero, List.getElem?_cons_succ, List.set_cons_zero, List.set_cons_succ, List.length_cons, List.length_nil, List.size_toArray, List.head?_cons, List.tail_cons, Option.map_some, cond_true, cond_false, true_and, and_true, false_and, and_false, not_true_eq_false, not_false_eq_true, true_imp_iff, false_imp_iff, if_true, if_false, ite_true, ite_false, ↓reduceIte, Nat.reduceAdd, Nat.reduceEqDiff, Nat.reduceLeDiff, Nat.reduceLT, Nat.reduceBEq, Nat.reduceBNe, Int.reduceAdd, Int.reduceNeg, Int.reduceSub, Int.reduceLE, Int.reduceLT, Int.reduceToNat, Int.reduceEq, Int.reduceMul, Int.cast_ofNat_Int, Nat.zero_add, Nat.add_zero, Nat.le_refl, eq_self, ne_eq, reduceCtorEq, or_true, true_or, or_false, false_or, Bool.or_true, Bool.or_false, Bool.true_or, Bool.false_or, Nat.zero_le, Int.le_refl, Int.ofNat_zero, Int.ofNat_one, Bool.false_eq_true]
      simp only [ab_in] at hs ⊢
      (repeat' (first | intro _ | refine And.intro ?_ ?_)) <;> (first | exact hk2 | contradiction | omega | (exfalso; omega))
  · exact hT.elim
set_option maxRecDepth 100000 in
theorem con_X1_remove (l : Launch) (D : va_G) (ty : Nat → ClassId) (base : Nat) : ab_Con l D vwCl ty lw_ts base lw_wd yX1_remove cX1_remove 2 none 2 46 0 0 Tr_X1_remove :=
  ab_con_of (own := RX1) (rt := 0) (tb := tbX1) (ini := false) (ca := ca_X1_remove) (by decide +kernel) rfl (fun h => by cases h) rfl lw_wd_ok wtbX1 lw_ar cm_X1_remove
    (fun p e R s m args below meth c K hcx => by
      obtain ⟨hx, hb, hml, hown, hF, rfl⟩ := hcx
      exact ab_lk_all (ab_all_c (ab_tc_V hx hb hml hown lw_wd_ok hF ⟨rfl, rfl⟩ (con_X1_isThere l D ty base) rfl (lw_wi (by decide +kernel) (by decide +kernel)) (lw_wi (by decide +kernel) (by decide +kernel)) (lw_wi (by decide +kernel) (by decide +kernel)) (lw_wi (by decide +kernel) (by decide +kernel)) (lw_wi (by decide +kernel) (by decide +kernel)) (by decide +kernel) ⟨by decide, by decide⟩) (ab_all_c (ab_tc_V hx hb hml hown lw_wd_ok hF ⟨rfl, rfl⟩ (con_X1_setNumbers l D ty base) rfl (lw_wi (by decide +kernel) (by decide +kernel)) (lw_wi (by decide +kernel) (by decide +kernel)) (lw_wi (by decide +kernel) (by decide +kernel)) (lw_wi (by decide +kernel) (by decide +kernel)) (lw_wi (by decide +kernel) (by decide +kernel)) (by decide +kernel) ⟨by decide, by decide⟩) (ab_all_n))))
    (by intro as h K ht; unfold Tr_X1_remove at ht; split at ht <;> first | exact ht.elim | exact Nat.le_of_ble_eq_true rfl) (sem_X1_remove base)
def letsF (S : RS) (s : Int) : Bool := isKnownF S s && decide (S.goe s = 0)
def letGoF (S : RS) (s : Int) : RS := bif letsF S s then S.s_goe (ab_uf S.goe s 1) else S
noncomputable def Tr_X1_letGo : ATr := fun as h K => match as with
  | [.inr (.inl (some a)), .inl s] => ab_so (ab_roof h a) fun P => (ab_in s) ∧ ∀ h', ab_roof h' a = some (P.1, letGoF P.2 s) → ab_fr h h' (a :: P.1) → K (some (.inl (bI (letsF P.2 s)))) h'
  | _ => False
theorem mo_X1_letGo : ab_mo Tr_X1_letGo := by
  intro as h K K' hk ht
  unfold Tr_X1_letGo at ht ⊢
  split at ht
  · exact ab_so_mo (fun P q => ⟨q.1, fun h' e1 e2 => hk _ _ (q.2 h' e1 e2)⟩) ht
  · exact ht.elim
def ca_X1_letGo : Nat → Option ACS := ab_lk [(65, (0, 1, 2, 0, 0, Tr_X1_isKnown))]
theorem ca_X1_letGo_65 : ca_X1_letGo 65 = some (0, 1, 2, 0, 0, Tr_X1_isKnown) := rfl
theorem cm_X1_letGo : ∀ i q, ca_X1_letGo i = some q → ab_moq i q := ab_lk_all (ab_all_c mo_X1_isKnown (ab_all_n))
set_option maxRecDepth 100000 in
set_option maxHeartbeats 2000000 in
theorem sem_X1_letGo (base : Nat) : ab_Sem tbX1 lw_ts base cX1_letGo ca_X1_letGo 1 2 0 0 (fun as => ab_en as 2) Tr_X1_letGo := by
  intro as h K hT V hV
  unfold Tr_X1_letGo at hT
  split at hT
  · rename_i a s
    obtain ⟨⟨ns, S⟩, hP, hs, hK⟩ := ab_so_el hT
    obtain ⟨hB, hC⟩ := roof_el hP
    obtain ⟨n0, n1, n2, n3, n4, n5, n6, n7, n8, rfl, nd, c, c0, c1, c2, c3, c4, c5, c6, c7, c8⟩ := id hC

    dsimp only at hK hs
    show V 0 [some (.inr (.inl (some a))), some (.inl s)] [] h 0 0
    have hl := hB.laid_r
    by_cases hth : isKnownF S s = true
    · have hk := isKnownF_t hth
      by_cases hg : S.goe s = 0
      · simp only [letGoF, letsF, hth, hg, decide_true, Bool.and_self, cond_true, bI_t] at hK
        have hk2 := hK _ (roof_of ⟨hB.s_goe (uf_all (P := fun q => q = 0 ∨ q = 1) hB.goe_r (Or.inr rfl)), rc_goe hC (ab_uf S.goe s 1)⟩) (ab_fr.rf.up (by simp))
        refine hV (fun _ => false) 80 _ _ _ _ _ _ ?_
        simp only [c, c8, hth, hg, hP, bI_in, bI_0, bI_1, bI_t, bI_f, bI_01, Tr_X1_isKnown, ae_aload_n, ae_baload, ae_bastore, ae_getfield, ae_iconst, ae_ifCond, ae_iload_n, ae_invokevirtual, ae_ireturn, dX1_letGo_0, dX1_letGo_1, dX1_letGo_2, dX1_letGo_5, dX1_letGo_8, dX1_letGo_9, dX1_letGo_12, dX1_letGo_13, dX1_letGo_14, dX1_letGo_17, dX1_letGo_18, dX1_letGo_19, dX1_letGo_20, dX1_letGo_23, dX1_letGo_24, dX1_letGo_25, dX1_letGo_26, dX1_letGo_27, tbX1_g37, ca_X1_letGo_65, ab_wp0, ab_wps, ab_stp, ab_g, ab_st, ab_k2, ab_cl, ab_pop, ab_sz, ab_2, ab_ret, ab_f4, ab_tg, ab_I, ab_II, ab_A, ab_Rf, ab_VR, ab_IR, ab_VIR, ab_1, ab_LL, ab_DD, ab_ob, ab_pr, ab_qr, ab_ln, ab_so, ab_vI, ab_vA, ab_vD, ab_vL, ab_v2, ab_c, ab_fit, ab_rv, ab_tsw, ab_lsw, ab_up_eq, Fin.isValue, ab_f0, ab_f1, ab_f2, ab_f3, List.getElem?_cons_zero, List.getElem?_cons_succ, List.set_cons_zero, List.set_cons_succ, List.length_cons, List.length_nil, List.size_toArray, List.head?_cons, List.tail_cons, Option.map_some, cond_true, cond_false, true_and, and_true, false_and, and_false, not_true_eq_false, not_false_eq_true, true_imp_iff, false_imp_iff, if_true, if_false, ite_true, ite_false, ↓reduceIte, Nat.reduceAdd, Nat.reduceEqDiff, Nat.reduceLeDiff, Nat.reduceLT, Nat.reduceBEq, Nat.reduceBNe, Int.reduceAdd, Int.reduceNeg, Int.reduceSub, Int.reduceLE, Int.reduceLT, Int.reduceToNat, Int.reduceEq, Int.reduceMul, Int.cast_ofNat_Int, Nat.zero_add, Nat.add_zero, Nat.le_refl, eq_self, ne_eq, reduceCtorEq, or_true, true_or, or_false, false_or, Bool.or_true, Bool.or_false, Bool.true_or, Bool.false_or, Nat.zero_le, Int.le_refl, Int.ofNat_zero, Int.ofNat_one, Bool.false_eq_true]
        simp only [ab_in] at hs ⊢
        (repeat' (first | intro _ | refine And.intro ?_ ?_)) <;> (first | exact hk2 | contradiction | omega | (exfalso; omega))
      · simp only [letGoF, letsF, hth, hg, decide_false, Bool.and_false, cond_false, bI_f] at hK
        have hk2 := hK h hP ab_fr.rf
        have hg1 := hB.goe_r s
        refine hV (fun _ => false) 80 _ _ _ _ _ _ ?_
        simp only [c, c8, hth, hg, hP, bI_in, bI_0, bI_1, bI_t, bI_f, bI_01, Tr_X1_isKnown, ae_aload_n, ae_baload, ae_bastore, ae_getfield, ae_iconst, ae_ifCond, ae_iload_n, ae_invokevirtual, ae_ireturn, dX1_letGo_0, dX1_letGo_1, dX1_letGo_2, dX1_letGo_5, dX1_letGo_8, dX1_letGo_9, dX1_letGo_12, dX1_letGo_13, dX1_letGo_14, dX1_letGo_17, dX1_letGo_18, dX1_letGo_19, dX1_letGo_20, dX1_letGo_23, dX1_letGo_24, dX1_letGo_25, dX1_letGo_26, dX1_letGo_27, tbX1_g37, ca_X1_letGo_65, ab_wp0, ab_wps, ab_stp, ab_g, ab_st, ab_k2, ab_cl, ab_pop, ab_sz, ab_2, ab_ret, ab_f4, ab_tg, ab_I, ab_II, ab_A, ab_Rf, ab_VR, ab_IR, ab_VIR, ab_1, ab_LL, ab_DD, ab_ob, ab_pr, ab_qr, ab_ln, ab_so, ab_vI, ab_vA, ab_vD, ab_vL, ab_v2, ab_c, ab_fit, ab_rv, ab_tsw, ab_lsw, ab_up_eq, Fin.isValue, ab_f0, ab_f1, ab_f2, ab_f3, List.getElem?_cons_zero, List.getElem?_cons_succ, List.set_cons_zero, List.set_cons_succ, List.length_cons, List.length_nil, List.size_toArray, List.head?_cons, List.tail_cons, Option.map_some, cond_true, cond_false, true_and, and_true, false_and, and_false, not_true_eq_false, not_false_eq_true, true_imp_iff, false_imp_iff, if_true, if_false, ite_true, ite_false, ↓reduceIte, Nat.reduceAdd, Nat.reduceEqDiff, Nat.reduceLeDiff, Nat.reduceLT, Nat.reduceBEq, Nat.reduceBNe, Int.reduceAdd, Int.reduceNeg, Int.reduceSub, Int.reduceLE, Int.reduceLT, Int.reduceToNat, Int.reduceEq, Int.reduceMul, Int.cast_ofNat_Int, Nat.zero_add, Nat.add_zero, Nat.le_refl, eq_self, ne_eq, reduceCtorEq, or_true, true_or, or_false, false_or, Bool.or_true, Bool.or_false, Bool.true_or, Bool.false_or, Nat.zero_le, Int.le_refl, Int.ofNat_zero, Int.ofNat_one, Bool.false_eq_true]
        simp only [ab_in] at hs ⊢
        (repeat' (first | intro _ | refine And.intro ?_ ?_)) <;> (first | exact hk2 | contradiction | omega | (exfalso; omega))
    · simp only [letGoF, letsF, hth, Bool.false_and, cond_false, bI_f] at hK
      have hk2 := hK h hP ab_fr.rf
      refine hV (fun _ => false) 80 _ _ _ _ _ _ ?_
      simp only [c, hth, hP, bI_in, bI_0, bI_1, bI_t, bI_f, bI_01, Tr_X1_isKnown, ae_aload_n, ae_baload, ae_bastore, ae_getfield, ae_iconst, ae_ifCond, ae_iload_n, ae_invokevirtual, ae_ireturn, dX1_letGo_0, dX1_letGo_1, dX1_letGo_2, dX1_letGo_5, dX1_letGo_8, dX1_letGo_9, dX1_letGo_12, dX1_letGo_13, dX1_letGo_14, dX1_letGo_17, dX1_letGo_18, dX1_letGo_19, dX1_letGo_20, dX1_letGo_23, dX1_letGo_24, dX1_letGo_25, dX1_letGo_26, dX1_letGo_27, tbX1_g37, ca_X1_letGo_65, ab_wp0, ab_wps, ab_stp, ab_g, ab_st, ab_k2, ab_cl, ab_pop, ab_sz, ab_2, ab_ret, ab_f4, ab_tg, ab_I, ab_II, ab_A, ab_Rf, ab_VR, ab_IR, ab_VIR, ab_1, ab_LL, ab_DD, ab_ob, ab_pr, ab_qr, ab_ln, ab_so, ab_vI, ab_vA, ab_vD, ab_vL, ab_v2, ab_c, ab_fit, ab_rv, ab_tsw, ab_lsw, ab_up_eq, Fin.isValue, ab_f0, ab_f1, ab_f2, ab_f3, List.getElem?_cons_zero, List.getElem?_cons_succ, List.set_cons_zero, List.set_cons_succ, List.length_cons, List.length_nil, List.size_toArray, List.head?_cons, List.tail_cons, Option.map_some, cond_true, cond_false, true_and, and_true, false_and, and_false, not_true_eq_false, not_false_eq_true, true_imp_iff, false_imp_iff, if_true, if_false, ite_true, ite_false, ↓reduceIte, Nat.reduceAdd, Nat.reduceEqDiff, Nat.reduceLeDiff, Nat.reduceLT, Nat.reduceBEq, Nat.reduceBNe, Int.reduceAdd, Int.reduceNeg, Int.reduceSub, Int.reduceLE, Int.reduceLT, Int.reduceToNat, Int.reduceEq, Int.reduceMul, Int.cast_ofNat_Int, Nat.zero_add, Nat.add_zero, Nat.le_refl, eq_self, ne_eq, reduceCtorEq, or_true, true_or, or_false, false_or, Bool.or_true, Bool.or_false, Bool.true_or, Bool.false_or, Nat.zero_le, Int.le_refl, Int.ofNat_zero, Int.ofNat_one, Bool.false_eq_true]
      simp only [ab_in] at hs ⊢
      (repeat' (first | intro _ | refine And.intro ?_ ?_)) <;> (first | exact hk2 | contradiction | omega | (exfalso; omega))
  · exact hT.elim
set_option maxRecDepth 100000 in
theorem con_X1_letGo (l : Launch) (D : va_G) (ty : Nat → ClassId) (base : Nat) : ab_Con l D vwCl ty lw_ts base lw_wd yX1_letGo cX1_letGo 2 (some .int) 1 21 0 0 Tr_X1_letGo :=
  ab_con_of (own := RX1) (rt := 1) (tb := tbX1) (ini := false) (ca := ca_X1_letGo) (by decide +kernel) rfl (fun h => by cases h) rfl lw_wd_ok wtbX1 lw_ar cm_X1_letGo
    (fun p e R s m args below meth c K hcx => by
      obtain ⟨hx, hb, hml, hown, hF, rfl⟩ := hcx
      exact ab_lk_all (ab_all_c (ab_tc_V hx hb hml hown lw_wd_ok hF ⟨rfl, rfl⟩ (con_X1_isKnown l D ty base) rfl (lw_wi (by decide +kernel) (by decide +kernel)) (lw_wi (by decide +kernel) (by decide +kernel)) (lw_wi (by decide +kernel) (by decide +kernel)) (lw_wi (by decide +kernel) (by decide +kernel)) (lw_wi (by decide +kernel) (by decide +kernel)) (by decide +kernel) ⟨by decide, by decide⟩) (ab_all_n)))
    (by intro as h K ht; unfold Tr_X1_letGo at ht; split at ht <;> first | exact ht.elim | exact Nat.le_of_ble_eq_true rfl) (sem_X1_letGo base)
