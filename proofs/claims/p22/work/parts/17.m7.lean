/-! ===== Roof: hail ===== -/
def crksF (S : RS) (hail s : Int) : Bool := decide (S.onr s = 1) && (decide (S.nai s + 3 < hail) && bareF S s)
def crkL (S : RS) (hail x : Int) : Int → Int := fun i => if 0 ≤ i ∧ i < x then (bif crksF S hail i then 1 else S.crk i) else S.crk i
def crackF (S : RS) (hail : Int) : RS := S.s_crk (crkL S hail S.laid)
theorem crkL_0 (S : RS) (hail : Int) : crkL S hail 0 = S.crk := by
  funext i
  unfold crkL
  rw [if_neg (by omega)]
theorem crkL_t (S : RS) (hail x : Int) (hx : 0 ≤ x) (hc : crksF S hail x = true) : ab_uf (crkL S hail x) x 1 = crkL S hail (x + 1) := by
  funext i
  unfold ab_uf crkL
  by_cases h : i = x
  · rw [if_pos h, if_pos (by omega), h, hc, cond_true]
  · rw [if_neg h]
    by_cases h2 : 0 ≤ i ∧ i < x
    · rw [if_pos h2, if_pos (by omega)]
    · rw [if_neg h2, if_neg (by omega)]
theorem crkL_f (S : RS) (hail x : Int) (hc : crksF S hail x = false) : crkL S hail x = crkL S hail (x + 1) := by
  funext i
  unfold crkL
  by_cases h : i = x
  · rw [h, hc, cond_false, ite_self, ite_self]
  · by_cases h2 : 0 ≤ i ∧ i < x
    · rw [if_pos h2, if_pos (by omega)]
    · rw [if_neg h2, if_neg (by omega)]
theorem crkL_r {S : RS} (h : RB S) (hail x : Int) : ∀ i, crkL S hail x i = 0 ∨ crkL S hail x i = 1 := by
  intro i
  unfold crkL
  split
  · cases crksF S hail i
    · exact h.crk_r i
    · exact Or.inr rfl
  · exact h.crk_r i
noncomputable def Tr_X1_crackBy : ATr := fun as h K => match as with
  | [.inr (.inl (some a)), .inl hail] => ab_so (ab_roof h a) fun P => (ab_in hail) ∧ ∀ h', ab_roof h' a = some (P.1, crackF P.2 hail) → ab_fr h h' (a :: P.1) → K (none) h'
  | _ => False
theorem mo_X1_crackBy : ab_mo Tr_X1_crackBy := by
  intro as h K K' hk ht
  unfold Tr_X1_crackBy at ht ⊢
  split at ht
  · exact ab_so_mo (fun P q => ⟨q.1, fun h' e1 e2 => hk _ _ (q.2 h' e1 e2)⟩) ht
  · exact ht.elim
def ca_X1_crackBy : Nat → Option ACS := ab_lk [(101, (0, 1, 2, 0, 0, Tr_X1_isBareSomewhere))]
theorem ca_X1_crackBy_101 : ca_X1_crackBy 101 = some (0, 1, 2, 0, 0, Tr_X1_isBareSomewhere) := rfl
theorem cm_X1_crackBy : ∀ i q, ca_X1_crackBy i = some q → ab_moq i q := ab_lk_all (ab_all_c mo_X1_isBareSomewhere (ab_all_n))
set_option maxRecDepth 100000 in
set_option maxHeartbeats 2000000 in
theorem sem_X1_crackBy (base : Nat) : ab_Sem tbX1 lw_ts base cX1_crackBy ca_X1_crackBy 0 3 0 0 (fun as => ab_en as 3) Tr_X1_crackBy := by
  intro as h K hT V hV
  unfold Tr_X1_crackBy at hT
  split at hT
  · rename_i a hail
    obtain ⟨⟨ns, S⟩, hP, hs, hK⟩ := ab_so_el hT
    obtain ⟨hB, hC⟩ := roof_el hP
    obtain ⟨n0, n1, n2, n3, n4, n5, n6, n7, n8, rfl, nd, c, c0, c1, c2, c3, c4, c5, c6, c7, c8⟩ := id hC

    dsimp only at hK hs
    show V 0 [some (.inr (.inl (some a))), some (.inl hail), none] [] h 0 0
    have hl := hB.laid_r
    have loop : ∀ (n : Nat) (x : Int) (h1 : AH), x + n = S.laid → 0 ≤ x → roofCells h1 a [n0, n1, n2, n3, n4, n5, n6, n7, n8] (S.s_crk (crkL S hail x)) → ab_fr h h1 (a :: [n0, n1, n2, n3, n4, n5, n6, n7, n8]) → V 2 [some (.inr (.inl (some a))), some (.inl hail), some (.inl x)] [] h1 0 0 := by
      intro n
      induction n with
      | zero =>
        intro x h1 hx h0 hC2 fr
        have he : x = S.laid := by omega
        subst he
        have hk2 := hK h1 (roof_of ⟨hB.s_crk (crkL_r hB hail _), hC2⟩) fr
        obtain ⟨m0, m1, m2, m3, m4, m5, m6, m7, m8, em, nd2, (d : h1 a = some (.inl (1, [.inr (.inl (some m0)), .inr (.inl (some m1)), .inr (.inl (some m2)), .inr (.inl (some m3)), .inr (.inl (some m4)), .inr (.inl (some m5)), .inr (.inl (some m6)), .inr (.inl (some m7)), .inr (.inl (some m8)), .inl (S.day), .inl (S.laid), .inl (S.there), .inl (S.blown)]))), (d0 : h1 m0 = some (.inr (.inl (0, 96, S.num)))), (d1 : h1 m1 = some (.inr (.inl (0, 96, S.rot)))), (d2 : h1 m2 = some (.inr (.inl (0, 200, S.row)))), (d3 : h1 m3 = some (.inr (.inl (0, 200, S.frm)))), (d4 : h1 m4 = some (.inr (.inl (0, 200, S.wid)))), (d5 : h1 m5 = some (.inr (.inl (0, 200, S.nai)))), (d6 : h1 m6 = some (.inr (.inl (1, 200, crkL S hail S.laid)))), (d7 : h1 m7 = some (.inr (.inl (1, 200, S.onr)))), (d8 : h1 m8 = some (.inr (.inl (1, 200, S.goe))))⟩ := id hC2
        simp only [List.cons.injEq, and_true] at em
        obtain ⟨rfl, rfl, rfl, rfl, rfl, rfl, rfl, rfl, rfl⟩ := em
        refine hV (fun p => p == 2) 80 _ _ _ _ _ _ ?_
        simp only [d, bI_in, bI_0, bI_1, bI_t, bI_f, bI_01, ae_aload_n, ae_baload, ae_bastore, ae_getfield, ae_goto, ae_iadd, ae_iaload, ae_iconst, ae_ifCond, ae_if_icmp, ae_iinc, ae_iload_n, ae_invokevirtual, ae_istore_n, ae_return_, ae_sipush, dX1_crackBy_0, dX1_crackBy_1, dX1_crackBy_2, dX1_crackBy_3, dX1_crackBy_4, dX1_crackBy_7, dX1_crackBy_10, dX1_crackBy_11, dX1_crackBy_14, dX1_crackBy_17, dX1_crackBy_18, dX1_crackBy_21, dX1_crackBy_22, dX1_crackBy_23, dX1_crackBy_26, dX1_crackBy_27, dX1_crackBy_28, dX1_crackBy_31, dX1_crackBy_32, dX1_crackBy_33, dX1_crackBy_34, dX1_crackBy_35, dX1_crackBy_38, dX1_crackBy_39, dX1_crackBy_40, dX1_crackBy_43, dX1_crackBy_46, dX1_crackBy_47, dX1_crackBy_50, dX1_crackBy_51, dX1_crackBy_52, dX1_crackBy_53, dX1_crackBy_56, dX1_crackBy_59, tbX1_g27, tbX1_g30, tbX1_g34, tbX1_g44, ca_X1_crackBy_101, ab_wp0, ab_wps, ab_stp, ab_g, ab_st, ab_k2, ab_cl, ab_pop, ab_sz, ab_2, ab_ret, ab_f4, ab_tg, ab_I, ab_II, ab_A, ab_Rf, ab_VR, ab_IR, ab_VIR, ab_1, ab_LL, ab_DD, ab_ob, ab_pr, ab_qr, ab_ln, ab_so, ab_vI, ab_vA, ab_vD, ab_vL, ab_v2, ab_c, ab_fit, ab_rv, ab_tsw, ab_lsw, ab_up_eq, Fin.isValue, ab_f0, ab_f1, ab_f2, ab_f3, List.getElem?_cons_zero, List.getElem?_cons_succ, List.set_cons_zero, List.set_cons_succ, List.length_cons, List.length_nil, List.size_toArray, List.head?_cons, List.tail_cons, Option.map_some, cond_true, cond_false, true_and, and_true, false_and, and_false, not_true_eq_false, not_false_eq_true, true_imp_iff, false_imp_iff, if_true, if_false, ite_true, ite_false, ↓reduceIte, Nat.reduceAdd, Nat.reduceEqDiff, Nat.reduceLeDiff, Nat.reduceLT, Nat.reduceBEq, Nat.reduceBNe, Int.reduceAdd, Int.reduceNeg, Int.reduceSub, Int.reduceLE, Int.reduceLT, Int.reduceToNat, Int.reduceEq, Int.reduceMul, Int.cast_ofNat_Int, Nat.zero_add, Nat.add_zero, Nat.le_refl, eq_self, ne_eq, reduceCtorEq, or_true, true_or, or_false, false_or, Bool.or_true, Bool.or_false, Bool.true_or, Bool.false_or, Nat.zero_le, Int.le_refl, Int.ofNat_zero, Int.ofNat_one, Bool.false_eq_true]
        simp only [ab_in]
        (repeat' (first | intro _ | refine And.intro ?_ ?_)) <;> (first | exact hk2 | contradiction | omega | (exfalso; omega))
      | succ n ih =>
        intro x h1 hx h0 hC2 fr
        have he : ¬ S.laid ≤ x := by omega
        have he2 : ¬ 200 ≤ x := by omega
        have hP2 := roof_of (P := ([n0, n1, n2, n3, n4, n5, n6, n7, n8], S.s_crk (crkL S hail x))) ⟨hB.s_crk (crkL_r hB hail _), hC2⟩
        have ho := hB.onr_r x
        have hna := hB.nai_r x
        have c1' : crksF S hail x = true → V 2 [some (.inr (.inl (some a))), some (.inl hail), some (.inl (x + 1))] [] (ab_up h1 n6 (.inr (.inl (1, 200, ab_uf (crkL S hail x) x 1)))) 0 0 := by
          intro hc
          rw [crkL_t S hail x h0 hc]
          exact ih (x + 1) _ (by omega) (by omega) (rc_crk hC2 (crkL S hail (x + 1))) (fr.up (by simp))
        have c2' : crksF S hail x = false → V 2 [some (.inr (.inl (some a))), some (.inl hail), some (.inl (x + 1))] [] h1 0 0 := by
          intro hc
          refine ih (x + 1) _ (by omega) (by omega) ?_ fr
          rw [← crkL_f S hail x hc]
          exact hC2
        obtain ⟨m0, m1, m2, m3, m4, m5, m6, m7, m8, em, nd2, (d : h1 a = some (.inl (1, [.inr (.inl (some m0)), .inr (.inl (some m1)), .inr (.inl (some m2)), .inr (.inl (some m3)), .inr (.inl (some m4)), .inr (.inl (some m5)), .inr (.inl (some m6)), .inr (.inl (some m7)), .inr (.inl (some m8)), .inl (S.day), .inl (S.laid), .inl (S.there), .inl (S.blown)]))), (d0 : h1 m0 = some (.inr (.inl (0, 96, S.num)))), (d1 : h1 m1 = some (.inr (.inl (0, 96, S.rot)))), (d2 : h1 m2 = some (.inr (.inl (0, 200, S.row)))), (d3 : h1 m3 = some (.inr (.inl (0, 200, S.frm)))), (d4 : h1 m4 = some (.inr (.inl (0, 200, S.wid)))), (d5 : h1 m5 = some (.inr (.inl (0, 200, S.nai)))), (d6 : h1 m6 = some (.inr (.inl (1, 200, crkL S hail x)))), (d7 : h1 m7 = some (.inr (.inl (1, 200, S.onr)))), (d8 : h1 m8 = some (.inr (.inl (1, 200, S.goe))))⟩ := id hC2
        simp only [List.cons.injEq, and_true] at em
        obtain ⟨rfl, rfl, rfl, rfl, rfl, rfl, rfl, rfl, rfl⟩ := em
        refine hV (fun p => p == 2) 80 _ _ _ _ _ _ ?_
        simp only [d, d5, d6, d7, he, he2, hP2, ab_up_ap, nd10 nd, bareF_crk, bI_in, bI_0, bI_1, bI_t, bI_f, bI_01, Tr_X1_isBareSomewhere, ae_aload_n, ae_baload, ae_bastore, ae_getfield, ae_goto, ae_iadd, ae_iaload, ae_iconst, ae_ifCond, ae_if_icmp, ae_iinc, ae_iload_n, ae_invokevirtual, ae_istore_n, ae_return_, ae_sipush, dX1_crackBy_0, dX1_crackBy_1, dX1_crackBy_2, dX1_crackBy_3, dX1_crackBy_4, dX1_crackBy_7, dX1_crackBy_10, dX1_crackBy_11, dX1_crackBy_14, dX1_crackBy_17, dX1_crackBy_18, dX1_crackBy_21, dX1_crackBy_22, dX1_crackBy_23, dX1_crackBy_26, dX1_crackBy_27, dX1_crackBy_28, dX1_crackBy_31, dX1_crackBy_32, dX1_crackBy_33, dX1_crackBy_34, dX1_crackBy_35, dX1_crackBy_38, dX1_crackBy_39, dX1_crackBy_40, dX1_crackBy_43, dX1_crackBy_46, dX1_crackBy_47, dX1_crackBy_50, dX1_crackBy_51, dX1_crackBy_52, dX1_crackBy_53, dX1_crackBy_56, dX1_crackBy_59, tbX1_g27, tbX1_g30, tbX1_g34, tbX1_g44, ca_X1_crackBy_101, ab_wp0, ab_wps, ab_stp, ab_g, ab_st, ab_k2, ab_cl, ab_pop, ab_sz, ab_2, ab_ret, ab_f4, ab_tg, ab_I, ab_II, ab_A, ab_Rf, ab_VR, ab_IR, ab_VIR, ab_1, ab_LL, ab_DD, ab_ob, ab_pr, ab_qr, ab_ln, ab_so, ab_vI, ab_vA, ab_vD, ab_vL, ab_v2, ab_c, ab_fit, ab_rv, ab_tsw, ab_lsw, ab_up_eq, Fin.isValue, ab_f0, ab_f1, ab_f2, ab_f3, List.getElem?_cons_zero, List.getElem?_cons_succ, List.set_cons_zero, List.set_cons_succ, List.length_cons, List.length_nil, List.size_toArray, List.head?_cons, List.tail_cons, Option.map_some, cond_true, cond_false, true_and, and_true, false_and, and_false, not_true_eq_false, not_false_eq_true, true_imp_iff, false_imp_iff, if_true, if_false, ite_true, ite_false, ↓reduceIte, Nat.reduceAdd, Nat.reduceEqDiff, Nat.reduceLeDiff, Nat.reduceLT, Nat.reduceBEq, Nat.reduceBNe, Int.reduceAdd, Int.reduceNeg, Int.reduceSub, Int.reduceLE, Int.reduceLT, Int.reduceToNat, Int.reduceEq, Int.reduceMul, Int.cast_ofNat_Int, Nat.zero_add, Nat.add_zero, Nat.le_refl, eq_self, ne_eq, reduceCtorEq, or_true, true_or, or_false, false_or, Bool.or_true, Bool.or_false, Bool.true_or, Bool.false_or, Nat.zero_le, Int.le_refl, Int.ofNat_zero, Int.ofNat_one, Bool.false_eq_true]
        by_cases h1 : S.nai x + 3 < hail <;> cases h2 : bareF S x <;> rcases ho with ho | ho <;> (simp only [crksF, ho, h1, h2, Int.reduceEq, decide_true, decide_false, Bool.and_self, Bool.false_and, Bool.and_false, not_false_eq_true, not_true_eq_false, true_imp_iff, false_imp_iff, true_and, and_true, if_true, if_false, eq_self, Bool.true_eq_false, Bool.false_eq_true] at c1' c2'; simp only [ho, h1, not_false_eq_true, not_true_eq_false, true_imp_iff, false_imp_iff, true_and, and_true, if_true, if_false, eq_self, Int.reduceEq, Bool.true_eq_false, Bool.false_eq_true]; simp only [ab_in] at hs ⊢; (repeat' (first | intro _ | refine And.intro ?_ ?_)) <;> (first | exact c1' | exact c2' | contradiction | omega | (exfalso; omega)))
    have l0 := loop S.laid.toNat 0 h (by omega) (by omega) (by rw [crkL_0]; exact hC) ab_fr.rf
    refine hV (fun p => p == 2) 80 _ _ _ _ _ _ ?_
    simp only [c, bI_in, bI_0, bI_1, bI_t, bI_f, bI_01, ae_aload_n, ae_baload, ae_bastore, ae_getfield, ae_goto, ae_iadd, ae_iaload, ae_iconst, ae_ifCond, ae_if_icmp, ae_iinc, ae_iload_n, ae_invokevirtual, ae_istore_n, ae_return_, ae_sipush, dX1_crackBy_0, dX1_crackBy_1, dX1_crackBy_2, dX1_crackBy_3, dX1_crackBy_4, dX1_crackBy_7, dX1_crackBy_10, dX1_crackBy_11, dX1_crackBy_14, dX1_crackBy_17, dX1_crackBy_18, dX1_crackBy_21, dX1_crackBy_22, dX1_crackBy_23, dX1_crackBy_26, dX1_crackBy_27, dX1_crackBy_28, dX1_crackBy_31, dX1_crackBy_32, dX1_crackBy_33, dX1_crackBy_34, dX1_crackBy_35, dX1_crackBy_38, dX1_crackBy_39, dX1_crackBy_40, dX1_crackBy_43, dX1_crackBy_46, dX1_crackBy_47, dX1_crackBy_50, dX1_crackBy_51, dX1_crackBy_52, dX1_crackBy_53, dX1_crackBy_56, dX1_crackBy_59, tbX1_g27, tbX1_g30, tbX1_g34, tbX1_g44, ca_X1_crackBy_101, ab_wp0, ab_wps, ab_stp, ab_g, ab_st, ab_k2, ab_cl, ab_pop, ab_sz, ab_2, ab_ret, ab_f4, ab_tg, ab_I, ab_II, ab_A, ab_Rf, ab_VR, ab_IR, ab_VIR, ab_1, ab_LL, ab_DD, ab_ob, ab_pr, ab_qr, ab_ln, ab_so, ab_vI, ab_vA, ab_vD, ab_vL, ab_v2, ab_c, ab_fit, ab_rv, ab_tsw, ab_lsw, ab_up_eq, Fin.isValue, ab_f0, ab_f1, ab_f2, ab_f3, List.getElem?_cons_zero, List.getElem?_cons_succ, List.set_cons_zero, List.set_cons_succ, List.length_cons, List.length_nil, List.size_toArray, List.head?_cons, List.tail_cons, Option.map_some, cond_true, cond_false, true_and, and_true, false_and, and_false, not_true_eq_false, not_false_eq_true, true_imp_iff, false_imp_iff, if_true, if_false, ite_true, ite_false, ↓reduceIte, Nat.reduceAdd, Nat.reduceEqDiff, Nat.reduceLeDiff, Nat.reduceLT, Nat.reduceBEq, Nat.reduceBNe, Int.reduceAdd, Int.reduceNeg, Int.reduceSub, Int.reduceLE, Int.reduceLT, Int.reduceToNat, Int.reduceEq, Int.reduceMul, Int.cast_ofNat_Int, Nat.zero_add, Nat.add_zero, Nat.le_refl, eq_self, ne_eq, reduceCtorEq, or_true, true_or, or_false, false_or, Bool.or_true, Bool.or_false, Bool.true_or, Bool.false_or, Nat.zero_le, Int.le_refl, Int.ofNat_zero, Int.ofNat_one, Bool.false_eq_true]
    exact l0
  · exact hT.elim
set_option maxRecDepth 100000 in
theorem con_X1_crackBy (l : Launch) (D : va_G) (ty : Nat → ClassId) (base : Nat) : ab_Con l D vwCl ty lw_ts base lw_wd yX1_crackBy cX1_crackBy 3 none 2 44 0 0 Tr_X1_crackBy :=
  ab_con_of (own := RX1) (rt := 0) (tb := tbX1) (ini := false) (ca := ca_X1_crackBy) (by decide +kernel) rfl (fun h => by cases h) rfl lw_wd_ok wtbX1 lw_ar cm_X1_crackBy
    (fun p e R s m args below meth c K hcx => by
      obtain ⟨hx, hb, hml, hown, hF, rfl⟩ := hcx
      exact ab_lk_all (ab_all_c (ab_tc_V hx hb hml hown lw_wd_ok hF ⟨rfl, rfl⟩ (con_X1_isBareSomewhere l D ty base) rfl (lw_wi (by decide +kernel) (by decide +kernel)) (lw_wi (by decide +kernel) (by decide +kernel)) (lw_wi (by decide +kernel) (by decide +kernel)) (lw_wi (by decide +kernel) (by decide +kernel)) (lw_wi (by decide +kernel) (by decide +kernel)) (by decide +kernel) ⟨by decide, by decide⟩) (ab_all_n)))
    (by intro as h K ht; unfold Tr_X1_crackBy at ht; split at ht <;> first | exact ht.elim | exact Nat.le_of_ble_eq_true rfl) (sem_X1_crackBy base)
