/-! ===== Roof: a storm ===== -/
theorem uponL_goe (S : RS) (g : Int → Int) (y : Int) : ∀ (n : Nat) (x many last : Int), uponL (S.s_goe g) y n x many last = uponL S y n x many last := by
  intro n
  induction n with
  | zero => intro x many last; rfl
  | succ n ih =>
    intro x many last
    simp only [uponL, ih]
    rfl
theorem uponF_goe (S : RS) (g : Int → Int) (s : Int) : uponF (S.s_goe g) s = uponF S s := by
  unfold uponF
  rw [uponL_goe]
  rfl
theorem holdF_goe (S : RS) (g : Int → Int) (s : Int) : holdF (S.s_goe g) s = holdF S s := by
  unfold holdF
  rw [uponF_goe]
  rfl
theorem liftF_goe (S : RS) (g : Int → Int) (s f r : Int) : liftF (S.s_goe g) s f r = liftF S s f r := rfl
theorem bareF_crk (S : RS) (g : Int → Int) (s : Int) : bareF (S.s_crk g) s = bareF S s := rfl
def liftsF (S : RS) (force right s : Int) : Bool := decide (S.onr s = 1) && decide (holdF S s < liftF S s force right)
def markL (S : RS) (force right x : Int) : Int → Int := fun i => if 0 ≤ i ∧ i < x then bI (liftsF S force right i) else S.goe i
def markF (S : RS) (force right : Int) : RS := S.s_goe (markL S force right S.laid)
def manyF (S : RS) (force right : Int) : Int := sumR (fun s => bI (liftsF S force right s)) S.laid.toNat 0
theorem markL_0 (S : RS) (force right : Int) : markL S force right 0 = S.goe := by
  funext i
  unfold markL
  rw [if_neg (by omega)]
theorem markL_s (S : RS) (force right x : Int) (hx : 0 ≤ x) : ab_uf (markL S force right x) x (bI (liftsF S force right x)) = markL S force right (x + 1) := by
  funext i
  unfold ab_uf markL
  by_cases h : i = x
  · rw [if_pos h, if_pos (by omega), h]
  · rw [if_neg h]
    by_cases h2 : 0 ≤ i ∧ i < x
    · rw [if_pos h2, if_pos (by omega)]
    · rw [if_neg h2, if_neg (by omega)]
theorem bI_or (b : Bool) : bI b = 0 ∨ bI b = 1 := by cases b <;> simp [bI]
theorem markL_r {S : RS} (h : RB S) (force right x : Int) : ∀ i, markL S force right x i = 0 ∨ markL S force right x i = 1 := by
  intro i
  unfold markL
  split
  · exact bI_or _
  · exact h.goe_r i
theorem liftF_r {S : RS} (h : RB S) (s f r : Int) (hf : 0 ≤ f ∧ f ≤ 20) : -2 ≤ liftF S s f r ∧ liftF S s f r ≤ 27 := by
  unfold liftF
  have h1 := h.row_r s
  cases isKnownF S s
  · simp
  · simp only [cond_true]
    split <;> omega
theorem manyF_r (S : RS) (f r : Int) (n : Nat) : ∀ x, 0 ≤ sumR (fun s => bI (liftsF S f r s)) n x ∧ sumR (fun s => bI (liftsF S f r s)) n x ≤ n := by
  induction n with
  | zero => intro x; simp [sumR]
  | succ n ih =>
    intro x
    have h1 := ih (x + 1)
    have h2 := bI_or (liftsF S f r x)
    simp only [sumR]
    omega
noncomputable def Tr_X1_markLifted : ATr := fun as h K => match as with
  | [.inr (.inl (some a)), .inl force, .inl right] => ab_so (ab_roof h a) fun P => ((0 ≤ force ∧ force ≤ 20) ∧ (right = 0 ∨ right = 1)) ∧ ∀ h', ab_roof h' a = some (P.1, markF P.2 force right) → ab_fr h h' (a :: P.1) → K (some (.inl (manyF P.2 force right))) h'
  | _ => False
theorem mo_X1_markLifted : ab_mo Tr_X1_markLifted := by
  intro as h K K' hk ht
  unfold Tr_X1_markLifted at ht ⊢
  split at ht
  · exact ab_so_mo (fun P q => ⟨q.1, fun h' e1 e2 => hk _ _ (q.2 h' e1 e2)⟩) ht
  · exact ht.elim
def ca_X1_markLifted : Nat → Option ACS := ab_lk [(93, (0, 1, 4, 0, 0, Tr_X1_liftOf)), (76, (0, 1, 2, 0, 0, Tr_X1_holdOf))]
theorem ca_X1_markLifted_93 : ca_X1_markLifted 93 = some (0, 1, 4, 0, 0, Tr_X1_liftOf) := rfl
theorem ca_X1_markLifted_76 : ca_X1_markLifted 76 = some (0, 1, 2, 0, 0, Tr_X1_holdOf) := rfl
theorem cm_X1_markLifted : ∀ i q, ca_X1_markLifted i = some q → ab_moq i q := ab_lk_all (ab_all_c mo_X1_liftOf (ab_all_c mo_X1_holdOf (ab_all_n)))
set_option maxRecDepth 100000 in
set_option maxHeartbeats 2000000 in
theorem sem_X1_markLifted (base : Nat) : ab_Sem tbX1 lw_ts base cX1_markLifted ca_X1_markLifted 1 5 0 0 (fun as => ab_en as 5) Tr_X1_markLifted := by
  intro as h K hT V hV
  unfold Tr_X1_markLifted at hT
  split at hT
  · rename_i a force right
    obtain ⟨⟨ns, S⟩, hP, hs, hK⟩ := ab_so_el hT
    obtain ⟨hB, hC⟩ := roof_el hP
    obtain ⟨n0, n1, n2, n3, n4, n5, n6, n7, n8, rfl, nd, c, c0, c1, c2, c3, c4, c5, c6, c7, c8⟩ := id hC

    dsimp only at hK hs
    show V 0 [some (.inr (.inl (some a))), some (.inl force), some (.inl right), none, none] [] h 0 0
    have hl := hB.laid_r
    have loop : ∀ (n : Nat) (x acc : Int) (h1 : AH), x + n = S.laid → 0 ≤ x → roofCells h1 a [n0, n1, n2, n3, n4, n5, n6, n7, n8] (S.s_goe (markL S force right x)) → ab_fr h h1 (a :: [n0, n1, n2, n3, n4, n5, n6, n7, n8]) → acc + sumR (fun s => bI (liftsF S force right s)) n x = manyF S force right → V 5 [some (.inr (.inl (some a))), some (.inl force), some (.inl right), some (.inl acc), some (.inl x)] [] h1 0 0 := by
      intro n
      induction n with
      | zero =>
        intro x acc h1 hx h0 hC2 fr hacc
        have he : x = S.laid := by omega
        subst he
        have hk2 := hK h1 (roof_of ⟨hB.s_goe (markL_r hB force right _), hC2⟩) fr
        simp only [sumR, Int.add_zero] at hacc
        rw [← hacc] at hk2
        obtain ⟨m0, m1, m2, m3, m4, m5, m6, m7, m8, em, nd2, (d : h1 a = some (.inl (1, [.inr (.inl (some m0)), .inr (.inl (some m1)), .inr (.inl (some m2)), .inr (.inl (some m3)), .inr (.inl (some m4)), .inr (.inl (some m5)), .inr (.inl (some m6)), .inr (.inl (some m7)), .inr (.inl (some m8)), .inl (S.day), .inl (S.laid), .inl (S.there), .inl (S.blown)]))), (d0 : h1 m0 = some (.inr (.inl (0, 96, S.num)))), (d1 : h1 m1 = some (.inr (.inl (0, 96, S.rot)))), (d2 : h1 m2 = some (.inr (.inl (0, 200, S.row)))), (d3 : h1 m3 = some (.inr (.inl (0, 200, S.frm)))), (d4 : h1 m4 = some (.inr (.inl (0, 200, S.wid)))), (d5 : h1 m5 = some (.inr (.inl (0, 200, S.nai)))), (d6 : h1 m6 = some (.inr (.inl (1, 200, S.crk)))), (d7 : h1 m7 = some (.inr (.inl (1, 200, S.onr)))), (d8 : h1 m8 = some (.inr (.inl (1, 200, markL S force right S.laid))))⟩ := id hC2
        simp only [List.cons.injEq, and_true] at em
        obtain ⟨rfl, rfl, rfl, rfl, rfl, rfl, rfl, rfl, rfl⟩ := em
        refine hV (fun p => p == 5) 80 _ _ _ _ _ _ ?_
        simp only [d, bI_in, bI_0, bI_1, bI_t, bI_f, bI_01, ae_aload_n, ae_baload, ae_bastore, ae_getfield, ae_goto, ae_iconst, ae_ifCond, ae_if_icmp, ae_iinc, ae_iload, ae_iload_n, ae_invokevirtual, ae_ireturn, ae_istore, ae_istore_n, ae_sipush, dX1_markLifted_0, dX1_markLifted_1, dX1_markLifted_2, dX1_markLifted_3, dX1_markLifted_5, dX1_markLifted_7, dX1_markLifted_8, dX1_markLifted_11, dX1_markLifted_14, dX1_markLifted_16, dX1_markLifted_19, dX1_markLifted_22, dX1_markLifted_23, dX1_markLifted_26, dX1_markLifted_28, dX1_markLifted_29, dX1_markLifted_32, dX1_markLifted_34, dX1_markLifted_35, dX1_markLifted_38, dX1_markLifted_39, dX1_markLifted_41, dX1_markLifted_42, dX1_markLifted_43, dX1_markLifted_46, dX1_markLifted_47, dX1_markLifted_49, dX1_markLifted_52, dX1_markLifted_55, dX1_markLifted_56, dX1_markLifted_59, dX1_markLifted_60, dX1_markLifted_61, dX1_markLifted_62, dX1_markLifted_65, dX1_markLifted_67, dX1_markLifted_68, dX1_markLifted_71, dX1_markLifted_74, dX1_markLifted_77, dX1_markLifted_80, dX1_markLifted_81, tbX1_g34, tbX1_g37, tbX1_g44, ca_X1_markLifted_93, ca_X1_markLifted_76, ab_wp0, ab_wps, ab_stp, ab_g, ab_st, ab_k2, ab_cl, ab_pop, ab_sz, ab_2, ab_ret, ab_f4, ab_tg, ab_I, ab_II, ab_A, ab_Rf, ab_VR, ab_IR, ab_VIR, ab_1, ab_LL, ab_DD, ab_ob, ab_pr, ab_qr, ab_ln, ab_so, ab_vI, ab_vA, ab_vD, ab_vL, ab_v2, ab_c, ab_fit, ab_rv, ab_tsw, ab_lsw, ab_up_eq, Fin.isValue, ab_f0, ab_f1, ab_f2, ab_f3, List.getElem?_cons_zero, List.getElem?_cons_succ, List.set_cons_zero, List.set_cons_succ, List.length_cons, List.length_nil, List.size_toArray, List.head?_cons, List.tail_cons, Option.map_some, cond_true, cond_false, true_and, and_true, false_and, and_false, not_true_eq_false, not_false_eq_true, true_imp_iff, false_imp_iff, if_true, if_false, ite_true, ite_false, ↓reduceIte, Nat.reduceAdd, Nat.reduceEqDiff, Nat.reduceLeDiff, Nat.reduceLT, Nat.reduceBEq, Nat.reduceBNe, Int.reduceAdd, Int.reduceNeg, Int.reduceSub, Int.reduceLE, Int.reduceLT, Int.reduceToNat, Int.reduceEq, Int.reduceMul, Int.cast_ofNat_Int, Nat.zero_add, Nat.add_zero, Nat.le_refl, eq_self, ne_eq, reduceCtorEq, or_true, true_or, or_false, false_or, Bool.or_true, Bool.or_false, Bool.true_or, Bool.false_or, Nat.zero_le, Int.le_refl, Int.ofNat_zero, Int.ofNat_one, Bool.false_eq_true]
        simp only [ab_in]
        (repeat' (first | intro _ | refine And.intro ?_ ?_)) <;> (first | exact hk2 | contradiction | omega | (exfalso; omega))
      | succ n ih =>
        intro x acc h1 hx h0 hC2 fr hacc
        have he : ¬ S.laid ≤ x := by omega
        have he2 : ¬ 200 ≤ x := by omega
        have hP2 := roof_of (P := ([n0, n1, n2, n3, n4, n5, n6, n7, n8], S.s_goe (markL S force right x))) ⟨hB.s_goe (markL_r hB force right _), hC2⟩
        have ih1 := ih (x + 1) (acc + bI (liftsF S force right x)) (ab_up h1 n8 (.inr (.inl (1, 200, markL S force right (x + 1))))) (by omega) (by omega) (rc_goe hC2 (markL S force right (x + 1))) (fr.up (by simp)) (by simp only [sumR, ← Int.add_assoc] at hacc; exact hacc)
        rw [← markL_s S force right x h0] at ih1
        obtain ⟨m0, m1, m2, m3, m4, m5, m6, m7, m8, em, nd2, (d : h1 a = some (.inl (1, [.inr (.inl (some m0)), .inr (.inl (some m1)), .inr (.inl (some m2)), .inr (.inl (some m3)), .inr (.inl (some m4)), .inr (.inl (some m5)), .inr (.inl (some m6)), .inr (.inl (some m7)), .inr (.inl (some m8)), .inl (S.day), .inl (S.laid), .inl (S.there), .inl (S.blown)]))), (d0 : h1 m0 = some (.inr (.inl (0, 96, S.num)))), (d1 : h1 m1 = some (.inr (.inl (0, 96, S.rot)))), (d2 : h1 m2 = some (.inr (.inl (0, 200, S.row)))), (d3 : h1 m3 = some (.inr (.inl (0, 200, S.frm)))), (d4 : h1 m4 = some (.inr (.inl (0, 200, S.wid)))), (d5 : h1 m5 = some (.inr (.inl (0, 200, S.nai)))), (d6 : h1 m6 = some (.inr (.inl (1, 200, S.crk)))), (d7 : h1 m7 = some (.inr (.inl (1, 200, S.onr)))), (d8 : h1 m8 = some (.inr (.inl (1, 200, markL S force right x))))⟩ := id hC2
        simp only [List.cons.injEq, and_true] at em
        obtain ⟨rfl, rfl, rfl, rfl, rfl, rfl, rfl, rfl, rfl⟩ := em
        have ho := hB.onr_r x
        have hh := holdF_r hB x
        have hlf := liftF_r hB x force right hs.1
        refine hV (fun p => p == 5) 80 _ _ _ _ _ _ ?_
        simp only [d, d7, d8, he, he2, hP2, ab_up_ap, nd10 nd, ab_uf_eq, liftF_goe, holdF_goe, bI_in, bI_0, bI_1, bI_t, bI_f, bI_01, Tr_X1_liftOf, Tr_X1_holdOf, ae_aload_n, ae_baload, ae_bastore, ae_getfield, ae_goto, ae_iconst, ae_ifCond, ae_if_icmp, ae_iinc, ae_iload, ae_iload_n, ae_invokevirtual, ae_ireturn, ae_istore, ae_istore_n, ae_sipush, dX1_markLifted_0, dX1_markLifted_1, dX1_markLifted_2, dX1_markLifted_3, dX1_markLifted_5, dX1_markLifted_7, dX1_markLifted_8, dX1_markLifted_11, dX1_markLifted_14, dX1_markLifted_16, dX1_markLifted_19, dX1_markLifted_22, dX1_markLifted_23, dX1_markLifted_26, dX1_markLifted_28, dX1_markLifted_29, dX1_markLifted_32, dX1_markLifted_34, dX1_markLifted_35, dX1_markLifted_38, dX1_markLifted_39, dX1_markLifted_41, dX1_markLifted_42, dX1_markLifted_43, dX1_markLifted_46, dX1_markLifted_47, dX1_markLifted_49, dX1_markLifted_52, dX1_markLifted_55, dX1_markLifted_56, dX1_markLifted_59, dX1_markLifted_60, dX1_markLifted_61, dX1_markLifted_62, dX1_markLifted_65, dX1_markLifted_67, dX1_markLifted_68, dX1_markLifted_71, dX1_markLifted_74, dX1_markLifted_77, dX1_markLifted_80, dX1_markLifted_81, tbX1_g34, tbX1_g37, tbX1_g44, ca_X1_markLifted_93, ca_X1_markLifted_76, ab_wp0, ab_wps, ab_stp, ab_g, ab_st, ab_k2, ab_cl, ab_pop, ab_sz, ab_2, ab_ret, ab_f4, ab_tg, ab_I, ab_II, ab_A, ab_Rf, ab_VR, ab_IR, ab_VIR, ab_1, ab_LL, ab_DD, ab_ob, ab_pr, ab_qr, ab_ln, ab_so, ab_vI, ab_vA, ab_vD, ab_vL, ab_v2, ab_c, ab_fit, ab_rv, ab_tsw, ab_lsw, ab_up_eq, Fin.isValue, ab_f0, ab_f1, ab_f2, ab_f3, List.getElem?_cons_zero, List.getElem?_cons_succ, List.set_cons_zero, List.set_cons_succ, List.length_cons, List.length_nil, List.size_toArray, List.head?_cons, List.tail_cons, Option.map_some, cond_true, cond_false, true_and, and_true, false_and, and_false, not_true_eq_false, not_false_eq_true, true_imp_iff, false_imp_iff, if_true, if_false, ite_true, ite_false, ↓reduceIte, Nat.reduceAdd, Nat.reduceEqDiff, Nat.reduceLeDiff, Nat.reduceLT, Nat.reduceBEq, Nat.reduceBNe, Int.reduceAdd, Int.reduceNeg, Int.reduceSub, Int.reduceLE, Int.reduceLT, Int.reduceToNat, Int.reduceEq, Int.reduceMul, Int.cast_ofNat_Int, Nat.zero_add, Nat.add_zero, Nat.le_refl, eq_self, ne_eq, reduceCtorEq, or_true, true_or, or_false, false_or, Bool.or_true, Bool.or_false, Bool.true_or, Bool.false_or, Nat.zero_le, Int.le_refl, Int.ofNat_zero, Int.ofNat_one, Bool.false_eq_true]
        rcases ho with ho | ho
        · simp only [liftsF, ho, Int.reduceEq, decide_false, Bool.false_and, bI_f, Int.add_zero] at ih1
          simp only [ho, not_false_eq_true, not_true_eq_false, true_imp_iff, false_imp_iff, true_and, and_true, if_true, if_false, eq_self, Int.reduceEq]
          simp only [ab_in]
          (repeat' (first | intro _ | refine And.intro ?_ ?_)) <;> (first | exact ih1 | contradiction | omega | (exfalso; omega))
        · by_cases hlt : holdF S x < liftF S x force right
          · simp only [liftsF, ho, hlt, decide_true, Bool.and_self, bI_t] at ih1
            simp only [ho, hlt, not_false_eq_true, not_true_eq_false, true_imp_iff, false_imp_iff, true_and, and_true, if_true, if_false, eq_self, Int.reduceEq]
            simp only [ab_in]
            (repeat' (first | intro _ | refine And.intro ?_ ?_)) <;> (first | exact ih1 | contradiction | omega | (exfalso; omega))
          · simp only [liftsF, ho, hlt, decide_true, decide_false, Bool.and_false, bI_f, Int.add_zero] at ih1
            simp only [ho, hlt, not_false_eq_true, not_true_eq_false, true_imp_iff, false_imp_iff, true_and, and_true, if_true, if_false, eq_self, Int.reduceEq]
            simp only [ab_in]
            (repeat' (first | intro _ | refine And.intro ?_ ?_)) <;> (first | exact ih1 | contradiction | omega | (exfalso; omega))
    have l0 := loop S.laid.toNat 0 0 h (by omega) (by omega) (by rw [markL_0]; exact hC) ab_fr.rf (by rw [manyF, Int.zero_add])
    refine hV (fun p => p == 5) 80 _ _ _ _ _ _ ?_
    simp only [c, bI_in, bI_0, bI_1, bI_t, bI_f, bI_01, ae_aload_n, ae_baload, ae_bastore, ae_getfield, ae_goto, ae_iconst, ae_ifCond, ae_if_icmp, ae_iinc, ae_iload, ae_iload_n, ae_invokevirtual, ae_ireturn, ae_istore, ae_istore_n, ae_sipush, dX1_markLifted_0, dX1_markLifted_1, dX1_markLifted_2, dX1_markLifted_3, dX1_markLifted_5, dX1_markLifted_7, dX1_markLifted_8, dX1_markLifted_11, dX1_markLifted_14, dX1_markLifted_16, dX1_markLifted_19, dX1_markLifted_22, dX1_markLifted_23, dX1_markLifted_26, dX1_markLifted_28, dX1_markLifted_29, dX1_markLifted_32, dX1_markLifted_34, dX1_markLifted_35, dX1_markLifted_38, dX1_markLifted_39, dX1_markLifted_41, dX1_markLifted_42, dX1_markLifted_43, dX1_markLifted_46, dX1_markLifted_47, dX1_markLifted_49, dX1_markLifted_52, dX1_markLifted_55, dX1_markLifted_56, dX1_markLifted_59, dX1_markLifted_60, dX1_markLifted_61, dX1_markLifted_62, dX1_markLifted_65, dX1_markLifted_67, dX1_markLifted_68, dX1_markLifted_71, dX1_markLifted_74, dX1_markLifted_77, dX1_markLifted_80, dX1_markLifted_81, tbX1_g34, tbX1_g37, tbX1_g44, ca_X1_markLifted_93, ca_X1_markLifted_76, ab_wp0, ab_wps, ab_stp, ab_g, ab_st, ab_k2, ab_cl, ab_pop, ab_sz, ab_2, ab_ret, ab_f4, ab_tg, ab_I, ab_II, ab_A, ab_Rf, ab_VR, ab_IR, ab_VIR, ab_1, ab_LL, ab_DD, ab_ob, ab_pr, ab_qr, ab_ln, ab_so, ab_vI, ab_vA, ab_vD, ab_vL, ab_v2, ab_c, ab_fit, ab_rv, ab_tsw, ab_lsw, ab_up_eq, Fin.isValue, ab_f0, ab_f1, ab_f2, ab_f3, List.getElem?_cons_zero, List.getElem?_cons_succ, List.set_cons_zero, List.set_cons_succ, List.length_cons, List.length_nil, List.size_toArray, List.head?_cons, List.tail_cons, Option.map_some, cond_true, cond_false, true_and, and_true, false_and, and_false, not_true_eq_false, not_false_eq_true, true_imp_iff, false_imp_iff, if_true, if_false, ite_true, ite_false, ↓reduceIte, Nat.reduceAdd, Nat.reduceEqDiff, Nat.reduceLeDiff, Nat.reduceLT, Nat.reduceBEq, Nat.reduceBNe, Int.reduceAdd, Int.reduceNeg, Int.reduceSub, Int.reduceLE, Int.reduceLT, Int.reduceToNat, Int.reduceEq, Int.reduceMul, Int.cast_ofNat_Int, Nat.zero_add, Nat.add_zero, Nat.le_refl, eq_self, ne_eq, reduceCtorEq, or_true, true_or, or_false, false_or, Bool.or_true, Bool.or_false, Bool.true_or, Bool.false_or, Nat.zero_le, Int.le_refl, Int.ofNat_zero, Int.ofNat_one, Bool.false_eq_true]
    exact l0
  · exact hT.elim
set_option maxRecDepth 100000 in
theorem con_X1_markLifted (l : Launch) (D : va_G) (ty : Nat → ClassId) (base : Nat) : ab_Con l D vwCl ty lw_ts base lw_wd yX1_markLifted cX1_markLifted 5 (some .int) 3 70 0 0 Tr_X1_markLifted :=
  ab_con_of (own := RX1) (rt := 1) (tb := tbX1) (ini := false) (ca := ca_X1_markLifted) (by decide +kernel) rfl (fun h => by cases h) rfl lw_wd_ok wtbX1 lw_ar cm_X1_markLifted
    (fun p e R s m args below meth c K hcx => by
      obtain ⟨hx, hb, hml, hown, hF, rfl⟩ := hcx
      exact ab_lk_all (ab_all_c (ab_tc_V hx hb hml hown lw_wd_ok hF ⟨rfl, rfl⟩ (con_X1_liftOf l D ty base) rfl (lw_wi (by decide +kernel) (by decide +kernel)) (lw_wi (by decide +kernel) (by decide +kernel)) (lw_wi (by decide +kernel) (by decide +kernel)) (lw_wi (by decide +kernel) (by decide +kernel)) (lw_wi (by decide +kernel) (by decide +kernel)) (by decide +kernel) ⟨by decide, by decide⟩) (ab_all_c (ab_tc_V hx hb hml hown lw_wd_ok hF ⟨rfl, rfl⟩ (con_X1_holdOf l D ty base) rfl (lw_wi (by decide +kernel) (by decide +kernel)) (lw_wi (by decide +kernel) (by decide +kernel)) (lw_wi (by decide +kernel) (by decide +kernel)) (lw_wi (by decide +kernel) (by decide +kernel)) (lw_wi (by decide +kernel) (by decide +kernel)) (by decide +kernel) ⟨by decide, by decide⟩) (ab_all_n))))
    (by intro as h K ht; unfold Tr_X1_markLifted at ht; split at ht <;> first | exact ht.elim | exact Nat.le_of_ble_eq_true rfl) (sem_X1_markLifted base)
