/-! ===== Roof: a storm's rounds, hail ===== -/
theorem removeF_laid (S : RS) (s : Int) : (removeF S s).laid = S.laid := by
  unfold removeF
  cases isThereF S s <;> rfl
def remL : Nat → Int → RS → RS
  | 0, _, S => S
  | n + 1, x, S => remL n (x + 1) (if S.goe x = 0 then S else removeF S x)
theorem remL_laid : ∀ (n : Nat) (x : Int) (S : RS), (remL n x S).laid = S.laid := by
  intro n
  induction n with
  | zero => intro x S; rfl
  | succ n ih =>
    intro x S
    simp only [remL]
    rw [ih]
    split
    · rfl
    · exact removeF_laid S x
def remF (S : RS) : RS := remL S.laid.toNat 0 S
def blowL (force right : Int) : Nat → Int → RS → Int × RS
  | 0, _, S => (61, S)
  | n + 1, rd, S => if manyF S force right = 0 then (rd, markF S force right) else
      blowL force right n (rd + 1) ((remF (markF S force right)).s_blown ((markF S force right).blown + ((markF S force right).there - (remF (markF S force right)).there)))
def blowF (S : RS) (force right : Int) : Int × RS := if force < 1 then (0, S) else blowL force right 60 1 S
noncomputable def Tr_X1_removeMarked : ATr := fun as h K => match as with
  | [.inr (.inl (some a))] => ab_so (ab_roof h a) fun P => (True) ∧ ∀ h', ab_roof h' a = some (P.1, remF P.2) → ab_fr h h' (a :: P.1) → K (some (.inl (P.2.there - (remF P.2).there))) h'
  | _ => False
theorem mo_X1_removeMarked : ab_mo Tr_X1_removeMarked := by
  intro as h K K' hk ht
  unfold Tr_X1_removeMarked at ht ⊢
  split at ht
  · exact ab_so_mo (fun P q => ⟨q.1, fun h' e1 e2 => hk _ _ (q.2 h' e1 e2)⟩) ht
  · exact ht.elim
def ca_X1_removeMarked : Nat → Option ACS := ab_lk [(97, (0, 1, 2, 0, 0, Tr_X1_remove))]
theorem ca_X1_removeMarked_97 : ca_X1_removeMarked 97 = some (0, 1, 2, 0, 0, Tr_X1_remove) := rfl
theorem cm_X1_removeMarked : ∀ i q, ca_X1_removeMarked i = some q → ab_moq i q := ab_lk_all (ab_all_c mo_X1_remove (ab_all_n))
set_option maxRecDepth 100000 in
set_option maxHeartbeats 2000000 in
theorem sem_X1_removeMarked (base : Nat) : ab_Sem tbX1 lw_ts base cX1_removeMarked ca_X1_removeMarked 1 3 0 0 (fun as => ab_en as 3) Tr_X1_removeMarked := by
  intro as h K hT V hV
  unfold Tr_X1_removeMarked at hT
  split at hT
  · rename_i a
    obtain ⟨⟨ns, S⟩, hP, hs, hK⟩ := ab_so_el hT
    obtain ⟨hB, hC⟩ := roof_el hP
    obtain ⟨n0, n1, n2, n3, n4, n5, n6, n7, n8, rfl, nd, c, c0, c1, c2, c3, c4, c5, c6, c7, c8⟩ := id hC

    dsimp only at hK hs
    show V 0 [some (.inr (.inl (some a))), none, none] [] h 0 0
    have hl := hB.laid_r
    have loop : ∀ (n : Nat) (x : Int) (h1 : AH) (S1 : RS), x + n = S.laid → 0 ≤ x → S1.laid = S.laid → ab_roof h1 a = some ([n0, n1, n2, n3, n4, n5, n6, n7, n8], S1) → ab_fr h h1 (a :: [n0, n1, n2, n3, n4, n5, n6, n7, n8]) → remL n x S1 = remF S → V 7 [some (.inr (.inl (some a))), some (.inl S.there), some (.inl x)] [] h1 0 0 := by
      intro n
      induction n with
      | zero =>
        intro x h1 S1 hx h0 hla hP1 fr hr
        have he : x = S.laid := by omega
        subst he
        simp only [remL] at hr
        subst hr
        have hk2 := hK h1 hP1 fr
        obtain ⟨hB2, hC2⟩ := roof_el hP1
        obtain ⟨m0, m1, m2, m3, m4, m5, m6, m7, m8, em, nd2, (d : h1 a = some (.inl (1, [.inr (.inl (some m0)), .inr (.inl (some m1)), .inr (.inl (some m2)), .inr (.inl (some m3)), .inr (.inl (some m4)), .inr (.inl (some m5)), .inr (.inl (some m6)), .inr (.inl (some m7)), .inr (.inl (some m8)), .inl ((remF S).day), .inl ((remF S).laid), .inl ((remF S).there), .inl ((remF S).blown)]))), (d0 : h1 m0 = some (.inr (.inl (0, 96, (remF S).num)))), (d1 : h1 m1 = some (.inr (.inl (0, 96, (remF S).rot)))), (d2 : h1 m2 = some (.inr (.inl (0, 200, (remF S).row)))), (d3 : h1 m3 = some (.inr (.inl (0, 200, (remF S).frm)))), (d4 : h1 m4 = some (.inr (.inl (0, 200, (remF S).wid)))), (d5 : h1 m5 = some (.inr (.inl (0, 200, (remF S).nai)))), (d6 : h1 m6 = some (.inr (.inl (1, 200, (remF S).crk)))), (d7 : h1 m7 = some (.inr (.inl (1, 200, (remF S).onr)))), (d8 : h1 m8 = some (.inr (.inl (1, 200, (remF S).goe))))⟩ := id hC2
        simp only [List.cons.injEq, and_true] at em
        obtain ⟨rfl, rfl, rfl, rfl, rfl, rfl, rfl, rfl, rfl⟩ := em
        refine hV (fun p => bif p == 7 then true else p == 36) 80 _ _ _ _ _ _ ?_
        simp only [d, hla, bI_in, bI_0, bI_1, bI_t, bI_f, bI_01, ae_aload_n, ae_baload, ae_getfield, ae_goto, ae_iconst, ae_ifCond, ae_if_icmp, ae_iinc, ae_iload_n, ae_invokevirtual, ae_ireturn, ae_istore_n, ae_isub, ae_sipush, dX1_removeMarked_0, dX1_removeMarked_1, dX1_removeMarked_4, dX1_removeMarked_5, dX1_removeMarked_6, dX1_removeMarked_7, dX1_removeMarked_8, dX1_removeMarked_9, dX1_removeMarked_12, dX1_removeMarked_15, dX1_removeMarked_16, dX1_removeMarked_19, dX1_removeMarked_22, dX1_removeMarked_23, dX1_removeMarked_26, dX1_removeMarked_27, dX1_removeMarked_28, dX1_removeMarked_31, dX1_removeMarked_32, dX1_removeMarked_33, dX1_removeMarked_36, dX1_removeMarked_39, dX1_removeMarked_42, dX1_removeMarked_43, dX1_removeMarked_44, dX1_removeMarked_47, dX1_removeMarked_48, tbX1_g37, tbX1_g44, tbX1_g47, ca_X1_removeMarked_97, ab_wp0, ab_wps, ab_stp, ab_g, ab_st, ab_k2, ab_cl, ab_pop, ab_sz, ab_2, ab_ret, ab_f4, ab_tg, ab_I, ab_II, ab_A, ab_Rf, ab_VR, ab_IR, ab_VIR, ab_1, ab_LL, ab_DD, ab_ob, ab_pr, ab_qr, ab_ln, ab_so, ab_vI, ab_vA, ab_vD, ab_vL, ab_v2, ab_c, ab_fit, ab_rv, ab_tsw, ab_lsw, ab_up_eq, Fin.isValue, ab_f0, ab_f1, ab_f2, ab_f3, List.getElem?_cons_zero, List.getElem?_cons_succ, List.set_cons_zero, List.set_cons_succ, List.length_cons, List.length_nil, List.size_toArray, List.head?_cons, List.tail_cons, Option.map_some, cond_true, cond_false, true_and, and_true, false_and, and_false, not_true_eq_false, not_false_eq_true, true_imp_iff, false_imp_iff, if_true, if_false, ite_true, ite_false, ↓reduceIte, Nat.reduceAdd, Nat.reduceEqDiff, Nat.reduceLeDiff, Nat.reduceLT, Nat.reduceBEq, Nat.reduceBNe, Int.reduceAdd, Int.reduceNeg, Int.reduceSub, Int.reduceLE, Int.reduceLT, Int.reduceToNat, Int.reduceEq, Int.reduceMul, Int.cast_ofNat_Int, Nat.zero_add, Nat.add_zero, Nat.le_refl, eq_self, ne_eq, reduceCtorEq, or_true, true_or, or_false, false_or, Bool.or_true, Bool.or_false, Bool.true_or, Bool.false_or, Nat.zero_le, Int.le_refl, Int.ofNat_zero, Int.ofNat_one, Bool.false_eq_true]
        simp only [ab_in]
        (repeat' (first | intro _ | refine And.intro ?_ ?_)) <;> (first | exact hk2 | contradiction | omega | (exfalso; omega))
      | succ n ih =>
        intro x h1 S1 hx h0 hla hP1 fr hr
        have he : ¬ S.laid ≤ x := by omega
        have he2 : ¬ 200 ≤ x := by omega
        simp only [remL] at hr
        have hP1' := hP1
        obtain ⟨hB2, hC2⟩ := roof_el hP1
        obtain ⟨m0, m1, m2, m3, m4, m5, m6, m7, m8, em, nd2, (d : h1 a = some (.inl (1, [.inr (.inl (some m0)), .inr (.inl (some m1)), .inr (.inl (some m2)), .inr (.inl (some m3)), .inr (.inl (some m4)), .inr (.inl (some m5)), .inr (.inl (some m6)), .inr (.inl (some m7)), .inr (.inl (some m8)), .inl (S1.day), .inl (S1.laid), .inl (S1.there), .inl (S1.blown)]))), (d0 : h1 m0 = some (.inr (.inl (0, 96, S1.num)))), (d1 : h1 m1 = some (.inr (.inl (0, 96, S1.rot)))), (d2 : h1 m2 = some (.inr (.inl (0, 200, S1.row)))), (d3 : h1 m3 = some (.inr (.inl (0, 200, S1.frm)))), (d4 : h1 m4 = some (.inr (.inl (0, 200, S1.wid)))), (d5 : h1 m5 = some (.inr (.inl (0, 200, S1.nai)))), (d6 : h1 m6 = some (.inr (.inl (1, 200, S1.crk)))), (d7 : h1 m7 = some (.inr (.inl (1, 200, S1.onr)))), (d8 : h1 m8 = some (.inr (.inl (1, 200, S1.goe))))⟩ := id hC2
        simp only [List.cons.injEq, and_true] at em
        obtain ⟨rfl, rfl, rfl, rfl, rfl, rfl, rfl, rfl, rfl⟩ := em
        have aft : ∀ (h2 : AH) (S2 : RS), S2.laid = S.laid → ab_roof h2 a = some ([n0, n1, n2, n3, n4, n5, n6, n7, n8], S2) → ab_fr h h2 (a :: [n0, n1, n2, n3, n4, n5, n6, n7, n8]) → remL n (x + 1) S2 = remF S → V 36 [some (.inr (.inl (some a))), some (.inl S.there), some (.inl x)] [] h2 0 0 := by
          intro h2 S2 hla2 hP2 fr2 hr2
          have ih1 := ih (x + 1) h2 S2 (by omega) (by omega) hla2 hP2 fr2 hr2
          refine hV (fun p => p == 7) 80 _ _ _ _ _ _ ?_
          simp only [ae_goto, ae_iinc, dX1_removeMarked_36, dX1_removeMarked_39, ca_X1_removeMarked_97, ab_wp0, ab_wps, ab_stp, ab_g, ab_st, ab_k2, ab_cl, ab_pop, ab_sz, ab_2, ab_ret, ab_f4, ab_tg, ab_I, ab_II, ab_A, ab_Rf, ab_VR, ab_IR, ab_VIR, ab_1, ab_LL, ab_DD, ab_ob, ab_pr, ab_qr, ab_ln, ab_so, ab_vI, ab_vA, ab_vD, ab_vL, ab_v2, ab_c, ab_fit, ab_rv, ab_tsw, ab_lsw, ab_up_eq, Fin.isValue, ab_f0, ab_f1, ab_f2, ab_f3, List.getElem?_cons_zero, List.getElem?_cons_succ, List.set_cons_zero, List.set_cons_succ, List.length_cons, List.length_nil, List.size_toArray, List.head?_cons, List.tail_cons, Option.map_some, cond_true, cond_false, true_and, and_true, false_and, and_false, not_true_eq_false, not_false_eq_true, true_imp_iff, false_imp_iff, if_true, if_false, ite_true, ite_false, ↓reduceIte, Nat.reduceAdd, Nat.reduceEqDiff, Nat.reduceLeDiff, Nat.reduceLT, Nat.reduceBEq, Nat.reduceBNe, Int.reduceAdd, Int.reduceNeg, Int.reduceSub, Int.reduceLE, Int.reduceLT, Int.reduceToNat, Int.reduceEq, Int.reduceMul, Int.cast_ofNat_Int, Nat.zero_add, Nat.add_zero, Nat.le_refl, eq_self, ne_eq, reduceCtorEq, or_true, true_or, or_false, false_or, Bool.or_true, Bool.or_false, Bool.true_or, Bool.false_or, Nat.zero_le, Int.le_refl, Int.ofNat_zero, Int.ofNat_one, Bool.false_eq_true]
          (repeat' (first | intro _ | refine And.intro ?_ ?_)) <;> (first | exact ih1 | contradiction | omega | (exfalso; omega))
        have hg := hB2.goe_r x
        refine hV (fun p => bif p == 7 then true else p == 36) 80 _ _ _ _ _ _ ?_
        simp only [d, d8, hla, he, he2, hP1', bI_in, bI_0, bI_1, bI_t, bI_f, bI_01, Tr_X1_remove, ae_aload_n, ae_baload, ae_getfield, ae_iconst, ae_ifCond, ae_if_icmp, ae_iload_n, ae_invokevirtual, ae_istore_n, ae_sipush, dX1_removeMarked_0, dX1_removeMarked_1, dX1_removeMarked_4, dX1_removeMarked_5, dX1_removeMarked_6, dX1_removeMarked_7, dX1_removeMarked_8, dX1_removeMarked_9, dX1_removeMarked_12, dX1_removeMarked_15, dX1_removeMarked_16, dX1_removeMarked_19, dX1_removeMarked_22, dX1_removeMarked_23, dX1_removeMarked_26, dX1_removeMarked_27, dX1_removeMarked_28, dX1_removeMarked_31, dX1_removeMarked_32, dX1_removeMarked_33, tbX1_g37, tbX1_g44, tbX1_g47, ca_X1_removeMarked_97, ab_wp0, ab_wps, ab_stp, ab_g, ab_st, ab_k2, ab_cl, ab_pop, ab_sz, ab_2, ab_ret, ab_f4, ab_tg, ab_I, ab_II, ab_A, ab_Rf, ab_VR, ab_IR, ab_VIR, ab_1, ab_LL, ab_DD, ab_ob, ab_pr, ab_qr, ab_ln, ab_so, ab_vI, ab_vA, ab_vD, ab_vL, ab_v2, ab_c, ab_fit, ab_rv, ab_tsw, ab_lsw, ab_up_eq, Fin.isValue, ab_f0, ab_f1, ab_f2, ab_f3, List.getElem?_cons_zero, List.getElem?_cons_succ, List.set_cons_zero, List.set_cons_succ, List.length_cons, List.length_nil, List.size_toArray, List.head?_cons, List.tail_cons, Option.map_some, cond_true, cond_false, true_and, and_true, false_and, and_false, not_true_eq_false, not_false_eq_true, true_imp_iff, false_imp_iff, if_true, if_false, ite_true, ite_false, ↓reduceIte, Nat.reduceAdd, Nat.reduceEqDiff, Nat.reduceLeDiff, Nat.reduceLT, Nat.reduceBEq, Nat.reduceBNe, Int.reduceAdd, Int.reduceNeg, Int.reduceSub, Int.reduceLE, Int.reduceLT, Int.reduceToNat, Int.reduceEq, Int.reduceMul, Int.cast_ofNat_Int, Nat.zero_add, Nat.add_zero, Nat.le_refl, eq_self, ne_eq, reduceCtorEq, or_true, true_or, or_false, false_or, Bool.or_true, Bool.or_false, Bool.true_or, Bool.false_or, Nat.zero_le, Int.le_refl, Int.ofNat_zero, Int.ofNat_one, Bool.false_eq_true]
        rcases hg with hg | hg
        · simp only [hg, if_true] at hr
          have a1 := aft h1 S1 hla hP1' fr hr
          simp only [hg, not_false_eq_true, not_true_eq_false, true_imp_iff, false_imp_iff, true_and, and_true, if_true, if_false, eq_self, Int.reduceEq]
          simp only [ab_in]
          (repeat' (first | intro _ | refine And.intro ?_ ?_)) <;> (first | exact a1 | contradiction | omega | (exfalso; omega))
        · simp only [hg, Int.reduceEq, if_false] at hr
          have a1 := fun h2 q1 q2 => aft h2 (removeF S1 x) ((removeF_laid S1 x).trans hla) q1 (fr.tr q2) hr
          simp only [hg, not_false_eq_true, not_true_eq_false, true_imp_iff, false_imp_iff, true_and, and_true, if_true, if_false, eq_self, Int.reduceEq]
          simp only [ab_in]
          (repeat' (first | intro _ | refine And.intro ?_ ?_)) <;> (first | exact a1 _ (by assumption) (by assumption) | contradiction | omega | (exfalso; omega))
    have l0 := loop S.laid.toNat 0 h S (by omega) (by omega) rfl hP ab_fr.rf rfl
    refine hV (fun p => p == 7) 80 _ _ _ _ _ _ ?_
    simp only [c, bI_in, bI_0, bI_1, bI_t, bI_f, bI_01, ae_aload_n, ae_baload, ae_getfield, ae_goto, ae_iconst, ae_ifCond, ae_if_icmp, ae_iinc, ae_iload_n, ae_invokevirtual, ae_ireturn, ae_istore_n, ae_isub, ae_sipush, dX1_removeMarked_0, dX1_removeMarked_1, dX1_removeMarked_4, dX1_removeMarked_5, dX1_removeMarked_6, dX1_removeMarked_7, dX1_removeMarked_8, dX1_removeMarked_9, dX1_removeMarked_12, dX1_removeMarked_15, dX1_removeMarked_16, dX1_removeMarked_19, dX1_removeMarked_22, dX1_removeMarked_23, dX1_removeMarked_26, dX1_removeMarked_27, dX1_removeMarked_28, dX1_removeMarked_31, dX1_removeMarked_32, dX1_removeMarked_33, dX1_removeMarked_36, dX1_removeMarked_39, dX1_removeMarked_42, dX1_removeMarked_43, dX1_removeMarked_44, dX1_removeMarked_47, dX1_removeMarked_48, tbX1_g37, tbX1_g44, tbX1_g47, ca_X1_removeMarked_97, ab_wp0, ab_wps, ab_stp, ab_g, ab_st, ab_k2, ab_cl, ab_pop, ab_sz, ab_2, ab_ret, ab_f4, ab_tg, ab_I, ab_II, ab_A, ab_Rf, ab_VR, ab_IR, ab_VIR, ab_1, ab_LL, ab_DD, ab_ob, ab_pr, ab_qr, ab_ln, ab_so, ab_vI, ab_vA, ab_vD, ab_vL, ab_v2, ab_c, ab_fit, ab_rv, ab_tsw, ab_lsw, ab_up_eq, Fin.isValue, ab_f0, ab_f1, ab_f2, ab_f3, List.getElem?_cons_zero, List.getElem?_cons_succ, List.set_cons_zero, List.set_cons_succ, List.length_cons, List.length_nil, List.size_toArray, List.head?_cons, List.tail_cons, Option.map_some, cond_true, cond_false, true_and, and_true, false_and, and_false, not_true_eq_false, not_false_eq_true, true_imp_iff, false_imp_iff, if_true, if_false, ite_true, ite_false, ↓reduceIte, Nat.reduceAdd, Nat.reduceEqDiff, Nat.reduceLeDiff, Nat.reduceLT, Nat.reduceBEq, Nat.reduceBNe, Int.reduceAdd, Int.reduceNeg, Int.reduceSub, Int.reduceLE, Int.reduceLT, Int.reduceToNat, Int.reduceEq, Int.reduceMul, Int.cast_ofNat_Int, Nat.zero_add, Nat.add_zero, Nat.le_refl, eq_self, ne_eq, reduceCtorEq, or_true, true_or, or_false, false_or, Bool.or_true, Bool.or_false, Bool.true_or, Bool.false_or, Nat.zero_le, Int.le_refl, Int.ofNat_zero, Int.ofNat_one, Bool.false_eq_true]
    exact l0
  · exact hT.elim
set_option maxRecDepth 100000 in
theorem con_X1_removeMarked (l : Launch) (D : va_G) (ty : Nat → ClassId) (base : Nat) : ab_Con l D vwCl ty lw_ts base lw_wd yX1_removeMarked cX1_removeMarked 3 (some .int) 3 67 0 0 Tr_X1_removeMarked :=
  ab_con_of (own := RX1) (rt := 1) (tb := tbX1) (ini := false) (ca := ca_X1_removeMarked) (by decide +kernel) rfl (fun h => by cases h) rfl lw_wd_ok wtbX1 lw_ar cm_X1_removeMarked
    (fun p e R s m args below meth c K hcx => by
      obtain ⟨hx, hb, hml, hown, hF, rfl⟩ := hcx
      exact ab_lk_all (ab_all_c (ab_tc_V hx hb hml hown lw_wd_ok hF ⟨rfl, rfl⟩ (con_X1_remove l D ty base) rfl (lw_wi (by decide +kernel) (by decide +kernel)) (lw_wi (by decide +kernel) (by decide +kernel)) (lw_wi (by decide +kernel) (by decide +kernel)) (lw_wi (by decide +kernel) (by decide +kernel)) (lw_wi (by decide +kernel) (by decide +kernel)) (by decide +kernel) ⟨by decide, by decide⟩) (ab_all_n)))
    (by intro as h K ht; unfold Tr_X1_removeMarked at ht; split at ht <;> first | exact ht.elim | exact Nat.le_of_ble_eq_true rfl) (sem_X1_removeMarked base)
noncomputable def Tr_X1_blow : ATr := fun as h K => match as with
  | [.inr (.inl (some a)), .inl force, .inl right] => ab_so (ab_roof h a) fun P => (ab_in force ∧ force ≤ 20 ∧ (right = 0 ∨ right = 1)) ∧ ∀ h', ab_roof h' a = some (P.1, (blowF P.2 force right).2) → ab_fr h h' (a :: P.1) → K (some (.inl ((blowF P.2 force right).1))) h'
  | _ => False
theorem mo_X1_blow : ab_mo Tr_X1_blow := by
  intro as h K K' hk ht
  unfold Tr_X1_blow at ht ⊢
  split at ht
  · exact ab_so_mo (fun P q => ⟨q.1, fun h' e1 e2 => hk _ _ (q.2 h' e1 e2)⟩) ht
  · exact ht.elim
def ca_X1_blow : Nat → Option ACS := ab_lk [(85, (0, 1, 3, 0, 0, Tr_X1_markLifted)), (89, (0, 1, 1, 0, 0, Tr_X1_removeMarked))]
theorem ca_X1_blow_85 : ca_X1_blow 85 = some (0, 1, 3, 0, 0, Tr_X1_markLifted) := rfl
theorem ca_X1_blow_89 : ca_X1_blow 89 = some (0, 1, 1, 0, 0, Tr_X1_removeMarked) := rfl
theorem cm_X1_blow : ∀ i q, ca_X1_blow i = some q → ab_moq i q := ab_lk_all (ab_all_c mo_X1_markLifted (ab_all_c mo_X1_removeMarked (ab_all_n)))
set_option maxRecDepth 100000 in
set_option maxHeartbeats 2000000 in
theorem sem_X1_blow (base : Nat) : ab_Sem tbX1 lw_ts base cX1_blow ca_X1_blow 1 4 0 0 (fun as => ab_en as 4) Tr_X1_blow := by
  intro as h K hT V hV
  unfold Tr_X1_blow at hT
  split at hT
  · rename_i a force right
    obtain ⟨⟨ns, S⟩, hP, hs, hK⟩ := ab_so_el hT
    obtain ⟨hB, hC⟩ := roof_el hP
    obtain ⟨n0, n1, n2, n3, n4, n5, n6, n7, n8, rfl, nd, c, c0, c1, c2, c3, c4, c5, c6, c7, c8⟩ := id hC

    dsimp only at hK hs
    show V 0 [some (.inr (.inl (some a))), some (.inl force), some (.inl right), none] [] h 0 0
    have loop : ∀ (n : Nat) (rd : Int) (h1 : AH) (S1 : RS), rd + n = 61 → 1 ≤ rd → 1 ≤ force → ab_roof h1 a = some ([n0, n1, n2, n3, n4, n5, n6, n7, n8], S1) → ab_fr h h1 (a :: [n0, n1, n2, n3, n4, n5, n6, n7, n8]) → blowL force right n rd S1 = blowF S force right → V 9 [some (.inr (.inl (some a))), some (.inl force), some (.inl right), some (.inl rd)] [] h1 0 0 := by
      intro n
      induction n with
      | zero =>
        intro rd h1 S1 hx h0 hfo hP1 fr hr
        have he : rd = 61 := by omega
        subst he
        simp only [blowL] at hr
        rw [← hr] at hK
        have hk2 := hK h1 hP1 fr
        refine hV (fun p => p == 9) 80 _ _ _ _ _ _ ?_
        simp only [bI_in, bI_0, bI_1, bI_t, bI_f, bI_01, ae_aload_n, ae_bipush, ae_dup, ae_getfield, ae_goto, ae_iadd, ae_iconst, ae_ifCond, ae_if_icmp, ae_iinc, ae_iload_n, ae_invokevirtual, ae_ireturn, ae_istore_n, ae_putfield, dX1_blow_0, dX1_blow_1, dX1_blow_2, dX1_blow_5, dX1_blow_6, dX1_blow_7, dX1_blow_8, dX1_blow_9, dX1_blow_10, dX1_blow_12, dX1_blow_15, dX1_blow_16, dX1_blow_17, dX1_blow_18, dX1_blow_21, dX1_blow_24, dX1_blow_25, dX1_blow_26, dX1_blow_27, dX1_blow_28, dX1_blow_31, dX1_blow_32, dX1_blow_35, dX1_blow_36, dX1_blow_39, dX1_blow_42, dX1_blow_45, dX1_blow_47, tbX1_g50, tbX1_p50, ca_X1_blow_85, ca_X1_blow_89, ab_wp0, ab_wps, ab_stp, ab_g, ab_st, ab_k2, ab_cl, ab_pop, ab_sz, ab_2, ab_ret, ab_f4, ab_tg, ab_I, ab_II, ab_A, ab_Rf, ab_VR, ab_IR, ab_VIR, ab_1, ab_LL, ab_DD, ab_ob, ab_pr, ab_qr, ab_ln, ab_so, ab_vI, ab_vA, ab_vD, ab_vL, ab_v2, ab_c, ab_fit, ab_rv, ab_tsw, ab_lsw, ab_up_eq, Fin.isValue, ab_f0, ab_f1, ab_f2, ab_f3, List.getElem?_cons_zero, List.getElem?_cons_succ, List.set_cons_zero, List.set_cons_succ, List.length_cons, List.length_nil, List.size_toArray, List.head?_cons, List.tail_cons, Option.map_some, cond_true, cond_false, true_and, and_true, false_and, and_false, not_true_eq_false, not_false_eq_true, true_imp_iff, false_imp_iff, if_true, if_false, ite_true, ite_false, ↓reduceIte, Nat.reduceAdd, Nat.reduceEqDiff, Nat.reduceLeDiff, Nat.reduceLT, Nat.reduceBEq, Nat.reduceBNe, Int.reduceAdd, Int.reduceNeg, Int.reduceSub, Int.reduceLE, Int.reduceLT, Int.reduceToNat, Int.reduceEq, Int.reduceMul, Int.cast_ofNat_Int, Nat.zero_add, Nat.add_zero, Nat.le_refl, eq_self, ne_eq, reduceCtorEq, or_true, true_or, or_false, false_or, Bool.or_true, Bool.or_false, Bool.true_or, Bool.false_or, Nat.zero_le, Int.le_refl, Int.ofNat_zero, Int.ofNat_one, Bool.false_eq_true]
        simp only [ab_in]
        (repeat' (first | intro _ | refine And.intro ?_ ?_)) <;> (first | exact hk2 | contradiction | omega | (exfalso; omega))
      | succ n ih =>
        intro rd h1 S1 hx h0 hfo hP1 fr hr
        have he : ¬ 60 < rd := by omega
        have hP1' := hP1
        obtain ⟨hB2, hC2⟩ := roof_el hP1
        obtain ⟨m0, m1, m2, m3, m4, m5, m6, m7, m8, em, nd2, (d : h1 a = some (.inl (1, [.inr (.inl (some m0)), .inr (.inl (some m1)), .inr (.inl (some m2)), .inr (.inl (some m3)), .inr (.inl (some m4)), .inr (.inl (some m5)), .inr (.inl (some m6)), .inr (.inl (some m7)), .inr (.inl (some m8)), .inl (S1.day), .inl (S1.laid), .inl (S1.there), .inl (S1.blown)]))), (d0 : h1 m0 = some (.inr (.inl (0, 96, S1.num)))), (d1 : h1 m1 = some (.inr (.inl (0, 96, S1.rot)))), (d2 : h1 m2 = some (.inr (.inl (0, 200, S1.row)))), (d3 : h1 m3 = some (.inr (.inl (0, 200, S1.frm)))), (d4 : h1 m4 = some (.inr (.inl (0, 200, S1.wid)))), (d5 : h1 m5 = some (.inr (.inl (0, 200, S1.nai)))), (d6 : h1 m6 = some (.inr (.inl (1, 200, S1.crk)))), (d7 : h1 m7 = some (.inr (.inl (1, 200, S1.onr)))), (d8 : h1 m8 = some (.inr (.inl (1, 200, S1.goe))))⟩ := id hC2
        simp only [List.cons.injEq, and_true] at em
        obtain ⟨rfl, rfl, rfl, rfl, rfl, rfl, rfl, rfl, rfl⟩ := em
        simp only [blowL] at hr
        have hmr : 0 ≤ manyF S1 force right ∧ manyF S1 force right ≤ S1.laid.toNat := manyF_r S1 force right S1.laid.toNat 0
        have hla := hB2.laid_r
        have aft : ∀ (h2 : AH), ab_roof h2 a = some ([n0, n1, n2, n3, n4, n5, n6, n7, n8], markF S1 force right) → ab_fr h h2 (a :: [n0, n1, n2, n3, n4, n5, n6, n7, n8]) → V 21 [some (.inr (.inl (some a))), some (.inl force), some (.inl right), some (.inl rd)] [.inl (manyF S1 force right)] h2 0 0 := by
          intro h2 hP2 fr2
          by_cases hm : manyF S1 force right = 0
          · rw [if_pos hm] at hr
            rw [← hr] at hK
            have hk2 := hK h2 hP2 fr2
            refine hV (fun p => p == 9) 80 _ _ _ _ _ _ ?_
            simp only [hm, bI_in, bI_0, bI_1, bI_t, bI_f, bI_01, ae_ifCond, ae_iload_n, ae_ireturn, dX1_blow_21, dX1_blow_24, dX1_blow_25, ca_X1_blow_85, ca_X1_blow_89, ab_wp0, ab_wps, ab_stp, ab_g, ab_st, ab_k2, ab_cl, ab_pop, ab_sz, ab_2, ab_ret, ab_f4, ab_tg, ab_I, ab_II, ab_A, ab_Rf, ab_VR, ab_IR, ab_VIR, ab_1, ab_LL, ab_DD, ab_ob, ab_pr, ab_qr, ab_ln, ab_so, ab_vI, ab_vA, ab_vD, ab_vL, ab_v2, ab_c, ab_fit, ab_rv, ab_tsw, ab_lsw, ab_up_eq, Fin.isValue, ab_f0, ab_f1, ab_f2, ab_f3, List.getElem?_cons_zero, List.getElem?_cons_succ, List.set_cons_zero, List.set_cons_succ, List.length_cons, List.length_nil, List.size_toArray, List.head?_cons, List.tail_cons, Option.map_some, cond_true, cond_false, true_and, and_true, false_and, and_false, not_true_eq_false, not_false_eq_true, true_imp_iff, false_imp_iff, if_true, if_false, ite_true, ite_false, ↓reduceIte, Nat.reduceAdd, Nat.reduceEqDiff, Nat.reduceLeDiff, Nat.reduceLT, Nat.reduceBEq, Nat.reduceBNe, Int.reduceAdd, Int.reduceNeg, Int.reduceSub, Int.reduceLE, Int.reduceLT, Int.reduceToNat, Int.reduceEq, Int.reduceMul, Int.cast_ofNat_Int, Nat.zero_add, Nat.add_zero, Nat.le_refl, eq_self, ne_eq, reduceCtorEq, or_true, true_or, or_false, false_or, Bool.or_true, Bool.or_false, Bool.true_or, Bool.false_or, Nat.zero_le, Int.le_refl, Int.ofNat_zero, Int.ofNat_one, Bool.false_eq_true]
            simp only [ab_in]
            (repeat' (first | intro _ | refine And.intro ?_ ?_)) <;> (first | exact hk2 | contradiction | omega | (exfalso; omega))
          · rw [if_neg hm] at hr
            have hP2' := hP2
            obtain ⟨hB3, hC3⟩ := roof_el hP2
            obtain ⟨m0, m1, m2, m3, m4, m5, m6, m7, m8, em, nd2, (e9 : h2 a = some (.inl (1, [.inr (.inl (some m0)), .inr (.inl (some m1)), .inr (.inl (some m2)), .inr (.inl (some m3)), .inr (.inl (some m4)), .inr (.inl (some m5)), .inr (.inl (some m6)), .inr (.inl (some m7)), .inr (.inl (some m8)), .inl ((markF S1 force right).day), .inl ((markF S1 force right).laid), .inl ((markF S1 force right).there), .inl ((markF S1 force right).blown)]))), (e0 : h2 m0 = some (.inr (.inl (0, 96, (markF S1 force right).num)))), (e1 : h2 m1 = some (.inr (.inl (0, 96, (markF S1 force right).rot)))), (e2 : h2 m2 = some (.inr (.inl (0, 200, (markF S1 force right).row)))), (e3 : h2 m3 = some (.inr (.inl (0, 200, (markF S1 force right).frm)))), (e4 : h2 m4 = some (.inr (.inl (0, 200, (markF S1 force right).wid)))), (e5 : h2 m5 = some (.inr (.inl (0, 200, (markF S1 force right).nai)))), (e6 : h2 m6 = some (.inr (.inl (1, 200, (markF S1 force right).crk)))), (e7 : h2 m7 = some (.inr (.inl (1, 200, (markF S1 force right).onr)))), (e8 : h2 m8 = some (.inr (.inl (1, 200, (markF S1 force right).goe))))⟩ := id hC3
            simp only [List.cons.injEq, and_true] at em
            obtain ⟨rfl, rfl, rfl, rfl, rfl, rfl, rfl, rfl, rfl⟩ := em
            have aft2 : ∀ (h3 : AH), ab_roof h3 a = some ([n0, n1, n2, n3, n4, n5, n6, n7, n8], remF (markF S1 force right)) → ab_fr h h3 (a :: [n0, n1, n2, n3, n4, n5, n6, n7, n8]) → V 35 [some (.inr (.inl (some a))), some (.inl force), some (.inl right), some (.inl rd)] [.inl ((markF S1 force right).there - (remF (markF S1 force right)).there), .inl (markF S1 force right).blown, .inr (.inl (some a))] h3 0 0 := by
              intro h3 hP3 fr3
              obtain ⟨hB4, hC4⟩ := roof_el hP3
              have hC5 := rc_blown hC4 ((markF S1 force right).blown + ((markF S1 force right).there - (remF (markF S1 force right)).there))
              have ih1 := ih (rd + 1) _ _ (by omega) (by omega) hfo (roof_of ⟨hB4.s_blown, hC5⟩) (fr3.up (by simp)) hr
              obtain ⟨m0, m1, m2, m3, m4, m5, m6, m7, m8, em, nd2, (k : h3 a = some (.inl (1, [.inr (.inl (some m0)), .inr (.inl (some m1)), .inr (.inl (some m2)), .inr (.inl (some m3)), .inr (.inl (some m4)), .inr (.inl (some m5)), .inr (.inl (some m6)), .inr (.inl (some m7)), .inr (.inl (some m8)), .inl ((remF (markF S1 force right)).day), .inl ((remF (markF S1 force right)).laid), .inl ((remF (markF S1 force right)).there), .inl ((remF (markF S1 force right)).blown)]))), (k0 : h3 m0 = some (.inr (.inl (0, 96, (remF (markF S1 force right)).num)))), (k1 : h3 m1 = some (.inr (.inl (0, 96, (remF (markF S1 force right)).rot)))), (k2 : h3 m2 = some (.inr (.inl (0, 200, (remF (markF S1 force right)).row)))), (k3 : h3 m3 = some (.inr (.inl (0, 200, (remF (markF S1 force right)).frm)))), (k4 : h3 m4 = some (.inr (.inl (0, 200, (remF (markF S1 force right)).wid)))), (k5 : h3 m5 = some (.inr (.inl (0, 200, (remF (markF S1 force right)).nai)))), (k6 : h3 m6 = some (.inr (.inl (1, 200, (remF (markF S1 force right)).crk)))), (k7 : h3 m7 = some (.inr (.inl (1, 200, (remF (markF S1 force right)).onr)))), (k8 : h3 m8 = some (.inr (.inl (1, 200, (remF (markF S1 force right)).goe))))⟩ := id hC4
              simp only [List.cons.injEq, and_true] at em
              obtain ⟨rfl, rfl, rfl, rfl, rfl, rfl, rfl, rfl, rfl⟩ := em
              refine hV (fun p => p == 9) 80 _ _ _ _ _ _ ?_
              simp only [k, ae_goto, ae_iadd, ae_iinc, ae_putfield, dX1_blow_35, dX1_blow_36, dX1_blow_39, dX1_blow_42, tbX1_p50, ca_X1_blow_85, ca_X1_blow_89, ab_wp0, ab_wps, ab_stp, ab_g, ab_st, ab_k2, ab_cl, ab_pop, ab_sz, ab_2, ab_ret, ab_f4, ab_tg, ab_I, ab_II, ab_A, ab_Rf, ab_VR, ab_IR, ab_VIR, ab_1, ab_LL, ab_DD, ab_ob, ab_pr, ab_qr, ab_ln, ab_so, ab_vI, ab_vA, ab_vD, ab_vL, ab_v2, ab_c, ab_fit, ab_rv, ab_tsw, ab_lsw, ab_up_eq, Fin.isValue, ab_f0, ab_f1, ab_f2, ab_f3, List.getElem?_cons_zero, List.getElem?_cons_succ, List.set_cons_zero, List.set_cons_succ, List.length_cons, List.length_nil, List.size_toArray, List.head?_cons, List.tail_cons, Option.map_some, cond_true, cond_false, true_and, and_true, false_and, and_false, not_true_eq_false, not_false_eq_true, true_imp_iff, false_imp_iff, if_true, if_false, ite_true, ite_false, ↓reduceIte, Nat.reduceAdd, Nat.reduceEqDiff, Nat.reduceLeDiff, Nat.reduceLT, Nat.reduceBEq, Nat.reduceBNe, Int.reduceAdd, Int.reduceNeg, Int.reduceSub, Int.reduceLE, Int.reduceLT, Int.reduceToNat, Int.reduceEq, Int.reduceMul, Int.cast_ofNat_Int, Nat.zero_add, Nat.add_zero, Nat.le_refl, eq_self, ne_eq, reduceCtorEq, or_true, true_or, or_false, false_or, Bool.or_true, Bool.or_false, Bool.true_or, Bool.false_or, Nat.zero_le, Int.le_refl, Int.ofNat_zero, Int.ofNat_one, Bool.false_eq_true]
              (repeat' (first | intro _ | refine And.intro ?_ ?_)) <;> (first | exact ih1 | contradiction | omega | (exfalso; omega))
            refine hV (fun p => bif p == 9 then true else p == 35) 80 _ _ _ _ _ _ ?_
            simp only [e9, hm, hP2', bI_in, bI_0, bI_1, bI_t, bI_f, bI_01, Tr_X1_removeMarked, ae_aload_n, ae_dup, ae_getfield, ae_ifCond, ae_iload_n, ae_invokevirtual, ae_ireturn, dX1_blow_21, dX1_blow_24, dX1_blow_25, dX1_blow_26, dX1_blow_27, dX1_blow_28, dX1_blow_31, dX1_blow_32, tbX1_g50, ca_X1_blow_85, ca_X1_blow_89, ab_wp0, ab_wps, ab_stp, ab_g, ab_st, ab_k2, ab_cl, ab_pop, ab_sz, ab_2, ab_ret, ab_f4, ab_tg, ab_I, ab_II, ab_A, ab_Rf, ab_VR, ab_IR, ab_VIR, ab_1, ab_LL, ab_DD, ab_ob, ab_pr, ab_qr, ab_ln, ab_so, ab_vI, ab_vA, ab_vD, ab_vL, ab_v2, ab_c, ab_fit, ab_rv, ab_tsw, ab_lsw, ab_up_eq, Fin.isValue, ab_f0, ab_f1, ab_f2, ab_f3, List.getElem?_cons_zero, List.getElem?_cons_succ, List.set_cons_zero, List.set_cons_succ, List.length_cons, List.length_nil, List.size_toArray, List.head?_cons, List.tail_cons, Option.map_some, cond_true, cond_false, true_and, and_true, false_and, and_false, not_true_eq_false, not_false_eq_true, true_imp_iff, false_imp_iff, if_true, if_false, ite_true, ite_false, ↓reduceIte, Nat.reduceAdd, Nat.reduceEqDiff, Nat.reduceLeDiff, Nat.reduceLT, Nat.reduceBEq, Nat.reduceBNe, Int.reduceAdd, Int.reduceNeg, Int.reduceSub, Int.reduceLE, Int.reduceLT, Int.reduceToNat, Int.reduceEq, Int.reduceMul, Int.cast_ofNat_Int, Nat.zero_add, Nat.add_zero, Nat.le_refl, eq_self, ne_eq, reduceCtorEq, or_true, true_or, or_false, false_or, Bool.or_true, Bool.or_false, Bool.true_or, Bool.false_or, Nat.zero_le, Int.le_refl, Int.ofNat_zero, Int.ofNat_one, Bool.false_eq_true]
            simp only [ab_in]
            (repeat' (first | intro _ | refine And.intro ?_ ?_)) <;> (first | exact aft2 _ (by assumption) (fr2.tr (by assumption)) | contradiction | omega | (exfalso; omega))
        refine hV (fun p => bif p == 9 then true else p == 21) 80 _ _ _ _ _ _ ?_
        simp only [d, he, hP1', bI_in, bI_0, bI_1, bI_t, bI_f, bI_01, Tr_X1_markLifted, ae_aload_n, ae_bipush, ae_if_icmp, ae_iload_n, ae_invokevirtual, dX1_blow_9, dX1_blow_10, dX1_blow_12, dX1_blow_15, dX1_blow_16, dX1_blow_17, dX1_blow_18, ca_X1_blow_85, ca_X1_blow_89, ab_wp0, ab_wps, ab_stp, ab_g, ab_st, ab_k2, ab_cl, ab_pop, ab_sz, ab_2, ab_ret, ab_f4, ab_tg, ab_I, ab_II, ab_A, ab_Rf, ab_VR, ab_IR, ab_VIR, ab_1, ab_LL, ab_DD, ab_ob, ab_pr, ab_qr, ab_ln, ab_so, ab_vI, ab_vA, ab_vD, ab_vL, ab_v2, ab_c, ab_fit, ab_rv, ab_tsw, ab_lsw, ab_up_eq, Fin.isValue, ab_f0, ab_f1, ab_f2, ab_f3, List.getElem?_cons_zero, List.getElem?_cons_succ, List.set_cons_zero, List.set_cons_succ, List.length_cons, List.length_nil, List.size_toArray, List.head?_cons, List.tail_cons, Option.map_some, cond_true, cond_false, true_and, and_true, false_and, and_false, not_true_eq_false, not_false_eq_true, true_imp_iff, false_imp_iff, if_true, if_false, ite_true, ite_false, ↓reduceIte, Nat.reduceAdd, Nat.reduceEqDiff, Nat.reduceLeDiff, Nat.reduceLT, Nat.reduceBEq, Nat.reduceBNe, Int.reduceAdd, Int.reduceNeg, Int.reduceSub, Int.reduceLE, Int.reduceLT, Int.reduceToNat, Int.reduceEq, Int.reduceMul, Int.cast_ofNat_Int, Nat.zero_add, Nat.add_zero, Nat.le_refl, eq_self, ne_eq, reduceCtorEq, or_true, true_or, or_false, false_or, Bool.or_true, Bool.or_false, Bool.true_or, Bool.false_or, Nat.zero_le, Int.le_refl, Int.ofNat_zero, Int.ofNat_one, Bool.false_eq_true]
        simp only [ab_in]
        (repeat' (first | intro _ | refine And.intro ?_ ?_)) <;> (first | exact aft _ (by assumption) (fr.tr (by assumption)) | contradiction | omega | (exfalso; omega))
    by_cases hfo : force < 1
    · have hk2 := hK h (by rw [blowF, if_pos hfo]; exact hP) ab_fr.rf
      simp only [blowF, hfo, if_true] at hk2
      refine hV (fun p => p == 9) 80 _ _ _ _ _ _ ?_
      simp only [hfo, bI_in, bI_0, bI_1, bI_t, bI_f, bI_01, ae_aload_n, ae_bipush, ae_dup, ae_getfield, ae_goto, ae_iadd, ae_iconst, ae_ifCond, ae_if_icmp, ae_iinc, ae_iload_n, ae_invokevirtual, ae_ireturn, ae_istore_n, ae_putfield, dX1_blow_0, dX1_blow_1, dX1_blow_2, dX1_blow_5, dX1_blow_6, dX1_blow_7, dX1_blow_8, dX1_blow_9, dX1_blow_10, dX1_blow_12, dX1_blow_15, dX1_blow_16, dX1_blow_17, dX1_blow_18, dX1_blow_21, dX1_blow_24, dX1_blow_25, dX1_blow_26, dX1_blow_27, dX1_blow_28, dX1_blow_31, dX1_blow_32, dX1_blow_35, dX1_blow_36, dX1_blow_39, dX1_blow_42, dX1_blow_45, dX1_blow_47, tbX1_g50, tbX1_p50, ca_X1_blow_85, ca_X1_blow_89, ab_wp0, ab_wps, ab_stp, ab_g, ab_st, ab_k2, ab_cl, ab_pop, ab_sz, ab_2, ab_ret, ab_f4, ab_tg, ab_I, ab_II, ab_A, ab_Rf, ab_VR, ab_IR, ab_VIR, ab_1, ab_LL, ab_DD, ab_ob, ab_pr, ab_qr, ab_ln, ab_so, ab_vI, ab_vA, ab_vD, ab_vL, ab_v2, ab_c, ab_fit, ab_rv, ab_tsw, ab_lsw, ab_up_eq, Fin.isValue, ab_f0, ab_f1, ab_f2, ab_f3, List.getElem?_cons_zero, List.getElem?_cons_succ, List.set_cons_zero, List.set_cons_succ, List.length_cons, List.length_nil, List.size_toArray, List.head?_cons, List.tail_cons, Option.map_some, cond_true, cond_false, true_and, and_true, false_and, and_false, not_true_eq_false, not_false_eq_true, true_imp_iff, false_imp_iff, if_true, if_false, ite_true, ite_false, ↓reduceIte, Nat.reduceAdd, Nat.reduceEqDiff, Nat.reduceLeDiff, Nat.reduceLT, Nat.reduceBEq, Nat.reduceBNe, Int.reduceAdd, Int.reduceNeg, Int.reduceSub, Int.reduceLE, Int.reduceLT, Int.reduceToNat, Int.reduceEq, Int.reduceMul, Int.cast_ofNat_Int, Nat.zero_add, Nat.add_zero, Nat.le_refl, eq_self, ne_eq, reduceCtorEq, or_true, true_or, or_false, false_or, Bool.or_true, Bool.or_false, Bool.true_or, Bool.false_or, Nat.zero_le, Int.le_refl, Int.ofNat_zero, Int.ofNat_one, Bool.false_eq_true]
      simp only [ab_in] at hs ⊢
      (repeat' (first | intro _ | refine And.intro ?_ ?_)) <;> (first | exact hk2 | contradiction | omega | (exfalso; omega))
    · have l0 := loop 60 1 h S (by omega) (by omega) (by omega) hP ab_fr.rf (by rw [blowF, if_neg hfo])
      refine hV (fun p => p == 9) 80 _ _ _ _ _ _ ?_
      simp only [hfo, bI_in, bI_0, bI_1, bI_t, bI_f, bI_01, ae_aload_n, ae_bipush, ae_dup, ae_getfield, ae_goto, ae_iadd, ae_iconst, ae_ifCond, ae_if_icmp, ae_iinc, ae_iload_n, ae_invokevirtual, ae_ireturn, ae_istore_n, ae_putfield, dX1_blow_0, dX1_blow_1, dX1_blow_2, dX1_blow_5, dX1_blow_6, dX1_blow_7, dX1_blow_8, dX1_blow_9, dX1_blow_10, dX1_blow_12, dX1_blow_15, dX1_blow_16, dX1_blow_17, dX1_blow_18, dX1_blow_21, dX1_blow_24, dX1_blow_25, dX1_blow_26, dX1_blow_27, dX1_blow_28, dX1_blow_31, dX1_blow_32, dX1_blow_35, dX1_blow_36, dX1_blow_39, dX1_blow_42, dX1_blow_45, dX1_blow_47, tbX1_g50, tbX1_p50, ca_X1_blow_85, ca_X1_blow_89, ab_wp0, ab_wps, ab_stp, ab_g, ab_st, ab_k2, ab_cl, ab_pop, ab_sz, ab_2, ab_ret, ab_f4, ab_tg, ab_I, ab_II, ab_A, ab_Rf, ab_VR, ab_IR, ab_VIR, ab_1, ab_LL, ab_DD, ab_ob, ab_pr, ab_qr, ab_ln, ab_so, ab_vI, ab_vA, ab_vD, ab_vL, ab_v2, ab_c, ab_fit, ab_rv, ab_tsw, ab_lsw, ab_up_eq, Fin.isValue, ab_f0, ab_f1, ab_f2, ab_f3, List.getElem?_cons_zero, List.getElem?_cons_succ, List.set_cons_zero, List.set_cons_succ, List.length_cons, List.length_nil, List.size_toArray, List.head?_cons, List.tail_cons, Option.map_some, cond_true, cond_false, true_and, and_true, false_and, and_false, not_true_eq_false, not_false_eq_true, true_imp_iff, false_imp_iff, if_true, if_false, ite_true, ite_false, ↓reduceIte, Nat.reduceAdd, Nat.reduceEqDiff, Nat.reduceLeDiff, Nat.reduceLT, Nat.reduceBEq, Nat.reduceBNe, Int.reduceAdd, Int.reduceNeg, Int.reduceSub, Int.reduceLE, Int.reduceLT, Int.reduceToNat, Int.reduceEq, Int.reduceMul, Int.cast_ofNat_Int, Nat.zero_add, Nat.add_zero, Nat.le_refl, eq_self, ne_eq, reduceCtorEq, or_true, true_or, or_false, false_or, Bool.or_true, Bool.or_false, Bool.true_or, Bool.false_or, Nat.zero_le, Int.le_refl, Int.ofNat_zero, Int.ofNat_one, Bool.false_eq_true]
      simp only [ab_in] at hs ⊢
      (repeat' (first | intro _ | refine And.intro ?_ ?_)) <;> (first | exact l0 | contradiction | omega | (exfalso; omega))
  · exact hT.elim
set_option maxRecDepth 100000 in
theorem con_X1_blow (l : Launch) (D : va_G) (ty : Nat → ClassId) (base : Nat) : ab_Con l D vwCl ty lw_ts base lw_wd yX1_blow cX1_blow 4 (some .int) 4 94 0 0 Tr_X1_blow :=
  ab_con_of (own := RX1) (rt := 1) (tb := tbX1) (ini := false) (ca := ca_X1_blow) (by decide +kernel) rfl (fun h => by cases h) rfl lw_wd_ok wtbX1 lw_ar cm_X1_blow
    (fun p e R s m args below meth c K hcx => by
      obtain ⟨hx, hb, hml, hown, hF, rfl⟩ := hcx
      exact ab_lk_all (ab_all_c (ab_tc_V hx hb hml hown lw_wd_ok hF ⟨rfl, rfl⟩ (con_X1_markLifted l D ty base) rfl (lw_wi (by decide +kernel) (by decide +kernel)) (lw_wi (by decide +kernel) (by decide +kernel)) (lw_wi (by decide +kernel) (by decide +kernel)) (lw_wi (by decide +kernel) (by decide +kernel)) (lw_wi (by decide +kernel) (by decide +kernel)) (by decide +kernel) ⟨by decide, by decide⟩) (ab_all_c (ab_tc_V hx hb hml hown lw_wd_ok hF ⟨rfl, rfl⟩ (con_X1_removeMarked l D ty base) rfl (lw_wi (by decide +kernel) (by decide +kernel)) (lw_wi (by decide +kernel) (by decide +kernel)) (lw_wi (by decide +kernel) (by decide +kernel)) (lw_wi (by decide +kernel) (by decide +kernel)) (lw_wi (by decide +kernel) (by decide +kernel)) (by decide +kernel) ⟨by decide, by decide⟩) (ab_all_n))))
    (by intro as h K ht; unfold Tr_X1_blow at ht; split at ht <;> first | exact ht.elim | exact Nat.le_of_ble_eq_true rfl) (sem_X1_blow base)
