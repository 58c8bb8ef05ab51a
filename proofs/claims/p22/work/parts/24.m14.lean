/-! ===== constructors ===== -/
theorem ab_up_none {h : AH} {a : Nat} {c : AC} {b : Nat} (q : ab_up h a c b = none) : ¬ b = a ∧ h b = none := by
  rw [ab_up_ap] at q
  by_cases e : b = a
  · rw [if_pos e] at q; cases q
  · rw [if_neg e] at q; exact ⟨e, q⟩
theorem ab_none_ne {h : AH} {a b : Nat} {c : AC} (q : h a = some c) (r : h b = none) : ¬ b = a ∧ ¬ a = b := by
  refine ⟨fun e => ?_, fun e => ?_⟩
  · rw [e, q] at r; cases r
  · rw [← e, q] at r; cases r
theorem ab_up_nn (h : AH) (a : Nat) (c : AC) (b : Nat) : (ab_up h a c b = none) = ((¬ b = a ∧ ¬ a = b) ∧ h b = none) := by
  refine propext ⟨fun q => ?_, fun q => ?_⟩
  · have := ab_up_none q; exact ⟨⟨this.1, fun e => this.1 e.symm⟩, this.2⟩
  · rw [ab_up_ap, if_neg q.1.1]; exact q.2
theorem ab_ite_nn {α : Type} (a b : Nat) (c : α) (x : Option α) : ((if b = a then some c else x) = none) = ((¬ b = a ∧ ¬ a = b) ∧ x = none) := by
  by_cases e : b = a
  · rw [if_pos e]; exact propext ⟨fun q => (by cases q), fun q => absurd e q.1.1⟩
  · rw [if_neg e]; exact propext ⟨fun q => ⟨⟨e, fun s => e s.symm⟩, q⟩, fun q => q.2⟩
theorem ab_at_i : ab_at .int = 0 := rfl
theorem ab_at_b : ab_at .boolean = 1 := rfl
noncomputable def Tr_X0_init : ATr := fun as h K => match as with
  | [.inr (.inl (some a))] => (∃ fs, h a = some (.inl (0, fs)) ∧ fs.length = 1) ∧ ∀ h' A, ab_cov h' a = some (A, fun _ => 0) → (∀ q ∈ [A], h q = none) → ab_fr h h' (a :: [A]) → K none h'
  | _ => False
theorem mo_X0_init : ab_mo Tr_X0_init := by
  intro as h K K' hk ht
  unfold Tr_X0_init at ht ⊢
  split at ht
  · exact ⟨ht.1, fun h' A e1 e2 e3 => hk _ _ (ht.2 h' A e1 e2 e3)⟩
  · exact ht.elim
theorem ar_X0_init : ∀ as h K, Tr_X0_init as h K → ∃ b As, as = .inr (.inl (some b)) :: As := by
  intro as h K ht
  unfold Tr_X0_init at ht
  split at ht
  · exact ⟨_, _, rfl⟩
  · exact ht.elim
def ca_X0_init : Nat → Option ACS := ab_lk [(3, (1, 0, 1, 0, 0, ab_Oi))]
theorem ca_X0_init_3 : ca_X0_init 3 = some (1, 0, 1, 0, 0, ab_Oi) := rfl
theorem cm_X0_init : ∀ i q, ca_X0_init i = some q → ab_moq i q := ab_lk_all (ab_all_c ab_Oi_mo (ab_all_n))
set_option maxRecDepth 100000 in
set_option maxHeartbeats 4000000 in
theorem sem_X0_init (base : Nat) : ab_Sem tbX0i lw_ts base cX0_init ca_X0_init 0 1 1 96 (fun as => ab_en as 1) Tr_X0_init := by
  intro as h K hT V hV
  unfold Tr_X0_init at hT
  split at hT
  · rename_i a
    obtain ⟨⟨fs, c, hl⟩, hK⟩ := hT
    obtain ⟨w0, rfl⟩ : ∃ w0, fs = [w0] := by
      match fs, hl with
      | [w0], _ => exact ⟨w0, rfl⟩
    have hN : True := trivial
    show V 0 [some (.inr (.inl (some a)))] [] h 0 0
    refine hV (fun p => p == 9) 80 _ _ _ _ _ _ ?_
    simp only [c, ab_Oi, ab_up_ap, ab_at_i, ab_at_b, ae_aload_n, ae_bipush, ae_invokespecial, ae_newarray, dX0_init_0, dX0_init_1, dX0_init_4, dX0_init_5, dX0_init_7, ca_X0_init_3, ab_wp0, ab_wps, ab_stp, ab_g, ab_st, ab_k2, ab_cl, ab_pop, ab_sz, ab_2, ab_ret, ab_f4, ab_tg, ab_I, ab_II, ab_A, ab_Rf, ab_VR, ab_IR, ab_VIR, ab_1, ab_LL, ab_DD, ab_ob, ab_pr, ab_qr, ab_ln, ab_so, ab_vI, ab_vA, ab_vD, ab_vL, ab_v2, ab_c, ab_fit, ab_rv, ab_tsw, ab_lsw, ab_up_eq, Fin.isValue, ab_f0, ab_f1, ab_f2, ab_f3, List.getElem?_cons_zero, List.getElem?_cons_succ, List.set_cons_zero, List.set_cons_succ, List.length_cons, List.length_nil, List.size_toArray, List.head?_cons, List.tail_cons, Option.map_some, cond_true, cond_false, true_and, and_true, false_and, and_false, not_true_eq_false, not_false_eq_true, true_imp_iff, false_imp_iff, if_true, if_false, ite_true, ite_false, ↓reduceIte, Nat.reduceAdd, Nat.reduceEqDiff, Nat.reduceLeDiff, Nat.reduceLT, Nat.reduceBEq, Nat.reduceBNe, Int.reduceAdd, Int.reduceNeg, Int.reduceSub, Int.reduceLE, Int.reduceLT, Int.reduceToNat, Int.reduceEq, Int.reduceMul, Int.cast_ofNat_Int, Nat.zero_add, Nat.add_zero, Nat.le_refl, eq_self, ne_eq, reduceCtorEq, or_true, true_or, or_false, false_or, Bool.or_true, Bool.or_false, Bool.true_or, Bool.false_or, Nat.zero_le, Int.le_refl, Int.ofNat_zero, Int.ofNat_one, Bool.false_eq_true]
    refine ⟨by decide, fun n0 f0 _ => ?_⟩
    have hn0 := f0
    have e0 := ab_none_ne c f0
    refine hV (fun _ => false) 80 _ _ _ _ _ _ ?_
    simp only [c, ab_up_ap, e0, f0, ae_putfield, ae_return_, dX0_init_9, dX0_init_12, tbX0i_p9, ca_X0_init_3, ab_wp0, ab_wps, ab_stp, ab_g, ab_st, ab_k2, ab_cl, ab_pop, ab_sz, ab_2, ab_ret, ab_f4, ab_tg, ab_I, ab_II, ab_A, ab_Rf, ab_VR, ab_IR, ab_VIR, ab_1, ab_LL, ab_DD, ab_ob, ab_pr, ab_qr, ab_ln, ab_so, ab_vI, ab_vA, ab_vD, ab_vL, ab_v2, ab_c, ab_fit, ab_rv, ab_tsw, ab_lsw, ab_up_eq, Fin.isValue, ab_f0, ab_f1, ab_f2, ab_f3, List.getElem?_cons_zero, List.getElem?_cons_succ, List.set_cons_zero, List.set_cons_succ, List.length_cons, List.length_nil, List.size_toArray, List.head?_cons, List.tail_cons, Option.map_some, cond_true, cond_false, true_and, and_true, false_and, and_false, not_true_eq_false, not_false_eq_true, true_imp_iff, false_imp_iff, if_true, if_false, ite_true, ite_false, ↓reduceIte, Nat.reduceAdd, Nat.reduceEqDiff, Nat.reduceLeDiff, Nat.reduceLT, Nat.reduceBEq, Nat.reduceBNe, Int.reduceAdd, Int.reduceNeg, Int.reduceSub, Int.reduceLE, Int.reduceLT, Int.reduceToNat, Int.reduceEq, Int.reduceMul, Int.cast_ofNat_Int, Nat.zero_add, Nat.add_zero, Nat.le_refl, eq_self, ne_eq, reduceCtorEq, or_true, true_or, or_false, false_or, Bool.or_true, Bool.or_false, Bool.true_or, Bool.false_or, Nat.zero_le, Int.le_refl, Int.ofNat_zero, Int.ofNat_one, Bool.false_eq_true]
    refine hK _ n0 (cov_of ⟨fun _ => Or.inl rfl, e0.2, by simp only [ab_up_ap, e0, if_true], by simp only [ab_up_ap, e0, if_true, if_false]⟩) (by simpa using hn0) ((ab_fr.rf.up (by simp)).up (by simp))
  · exact hT.elim
set_option maxRecDepth 100000 in
theorem con_X0_init (l : Launch) (D : va_G) (ty : Nat → ClassId) (base : Nat) : ab_Con l D vwCl ty lw_ts base lw_wd yX0_init cX0_init 1 none 1 20 1 96 Tr_X0_init :=
  ab_con_of (own := RX0) (rt := 0) (tb := tbX0i) (ini := true) (ca := ca_X0_init) (by decide +kernel) rfl (fun _ => rfl) rfl lw_wd_ok wtbX0i lw_ar cm_X0_init
    (fun p e R s m args below meth c K hcx => by
      obtain ⟨hx, hb, hml, hown, hF, rfl⟩ := hcx
      exact ab_lk_all (ab_all_c (ab_tc_O hx hb hml hown lw_wd_ok hF (lw_wi (by decide +kernel) (by decide +kernel)) (lw_wi (by decide +kernel) (by decide +kernel)) (lw_wi (by decide +kernel) (by decide +kernel)) (by decide) (by decide)) (ab_all_n)))
    (by intro as h K ht; unfold Tr_X0_init at ht; split at ht <;> first | exact ht.elim | exact Nat.le_of_ble_eq_true rfl) (sem_X0_init base)
noncomputable def Tr_X2_init : ATr := fun as h K => match as with
  | [.inr (.inl (some a))] => (∃ fs, h a = some (.inl (2, fs)) ∧ fs.length = 4) ∧ ∀ h' A, ab_tab h' a = some (A, ((fun _ => 0), (fun _ => 0), (fun _ => 0), (fun _ => 0))) → (∀ q ∈ [A.1, A.2.1, A.2.2.1, A.2.2.2], h q = none) → ab_fr h h' (a :: [A.1, A.2.1, A.2.2.1, A.2.2.2]) → K none h'
  | _ => False
theorem mo_X2_init : ab_mo Tr_X2_init := by
  intro as h K K' hk ht
  unfold Tr_X2_init at ht ⊢
  split at ht
  · exact ⟨ht.1, fun h' A e1 e2 e3 => hk _ _ (ht.2 h' A e1 e2 e3)⟩
  · exact ht.elim
theorem ar_X2_init : ∀ as h K, Tr_X2_init as h K → ∃ b As, as = .inr (.inl (some b)) :: As := by
  intro as h K ht
  unfold Tr_X2_init at ht
  split at ht
  · exact ⟨_, _, rfl⟩
  · exact ht.elim
def ca_X2_init : Nat → Option ACS := ab_lk [(3, (1, 0, 1, 0, 0, ab_Oi))]
theorem ca_X2_init_3 : ca_X2_init 3 = some (1, 0, 1, 0, 0, ab_Oi) := rfl
theorem cm_X2_init : ∀ i q, ca_X2_init i = some q → ab_moq i q := ab_lk_all (ab_all_c ab_Oi_mo (ab_all_n))
set_option maxRecDepth 100000 in
set_option maxHeartbeats 4000000 in
theorem sem_X2_init (base : Nat) : ab_Sem tbX2i lw_ts base cX2_init ca_X2_init 0 1 4 28 (fun as => ab_en as 1) Tr_X2_init := by
  intro as h K hT V hV
  unfold Tr_X2_init at hT
  split at hT
  · rename_i a
    obtain ⟨⟨fs, c, hl⟩, hK⟩ := hT
    obtain ⟨w0, w1, w2, w3, rfl⟩ : ∃ w0 w1 w2 w3, fs = [w0, w1, w2, w3] := by
      match fs, hl with
      | [w0, w1, w2, w3], _ => exact ⟨w0, w1, w2, w3, rfl⟩
    have hN : True := trivial
    show V 0 [some (.inr (.inl (some a)))] [] h 0 0
    refine hV (fun p => p == 9) 80 _ _ _ _ _ _ ?_
    simp only [c, ab_Oi, ab_up_ap, ab_at_i, ab_at_b, ae_aload_n, ae_bipush, ae_invokespecial, ae_newarray, dX2_init_0, dX2_init_1, dX2_init_4, dX2_init_5, dX2_init_7, ca_X2_init_3, ab_wp0, ab_wps, ab_stp, ab_g, ab_st, ab_k2, ab_cl, ab_pop, ab_sz, ab_2, ab_ret, ab_f4, ab_tg, ab_I, ab_II, ab_A, ab_Rf, ab_VR, ab_IR, ab_VIR, ab_1, ab_LL, ab_DD, ab_ob, ab_pr, ab_qr, ab_ln, ab_so, ab_vI, ab_vA, ab_vD, ab_vL, ab_v2, ab_c, ab_fit, ab_rv, ab_tsw, ab_lsw, ab_up_eq, Fin.isValue, ab_f0, ab_f1, ab_f2, ab_f3, List.getElem?_cons_zero, List.getElem?_cons_succ, List.set_cons_zero, List.set_cons_succ, List.length_cons, List.length_nil, List.size_toArray, List.head?_cons, List.tail_cons, Option.map_some, cond_true, cond_false, true_and, and_true, false_and, and_false, not_true_eq_false, not_false_eq_true, true_imp_iff, false_imp_iff, if_true, if_false, ite_true, ite_false, ↓reduceIte, Nat.reduceAdd, Nat.reduceEqDiff, Nat.reduceLeDiff, Nat.reduceLT, Nat.reduceBEq, Nat.reduceBNe, Int.reduceAdd, Int.reduceNeg, Int.reduceSub, Int.reduceLE, Int.reduceLT, Int.reduceToNat, Int.reduceEq, Int.reduceMul, Int.cast_ofNat_Int, Nat.zero_add, Nat.add_zero, Nat.le_refl, eq_self, ne_eq, reduceCtorEq, or_true, true_or, or_false, false_or, Bool.or_true, Bool.or_false, Bool.true_or, Bool.false_or, Nat.zero_le, Int.le_refl, Int.ofNat_zero, Int.ofNat_one, Bool.false_eq_true]
    refine ⟨by decide, fun n0 f0 _ => ?_⟩
    have hn0 := f0
    have e0 := ab_none_ne c f0
    refine hV (fun p => p == 17) 80 _ _ _ _ _ _ ?_
    simp only [c, ab_Oi, ab_up_ap, e0, f0, ab_at_i, ab_at_b, ae_aload_n, ae_bipush, ae_newarray, ae_putfield, dX2_init_9, dX2_init_12, dX2_init_13, dX2_init_15, tbX2i_p9, ca_X2_init_3, ab_wp0, ab_wps, ab_stp, ab_g, ab_st, ab_k2, ab_cl, ab_pop, ab_sz, ab_2, ab_ret, ab_f4, ab_tg, ab_I, ab_II, ab_A, ab_Rf, ab_VR, ab_IR, ab_VIR, ab_1, ab_LL, ab_DD, ab_ob, ab_pr, ab_qr, ab_ln, ab_so, ab_vI, ab_vA, ab_vD, ab_vL, ab_v2, ab_c, ab_fit, ab_rv, ab_tsw, ab_lsw, ab_up_eq, Fin.isValue, ab_f0, ab_f1, ab_f2, ab_f3, List.getElem?_cons_zero, List.getElem?_cons_succ, List.set_cons_zero, List.set_cons_succ, List.length_cons, List.length_nil, List.size_toArray, List.head?_cons, List.tail_cons, Option.map_some, cond_true, cond_false, true_and, and_true, false_and, and_false, not_true_eq_false, not_false_eq_true, true_imp_iff, false_imp_iff, if_true, if_false, ite_true, ite_false, ↓reduceIte, Nat.reduceAdd, Nat.reduceEqDiff, Nat.reduceLeDiff, Nat.reduceLT, Nat.reduceBEq, Nat.reduceBNe, Int.reduceAdd, Int.reduceNeg, Int.reduceSub, Int.reduceLE, Int.reduceLT, Int.reduceToNat, Int.reduceEq, Int.reduceMul, Int.cast_ofNat_Int, Nat.zero_add, Nat.add_zero, Nat.le_refl, eq_self, ne_eq, reduceCtorEq, or_true, true_or, or_false, false_or, Bool.or_true, Bool.or_false, Bool.true_or, Bool.false_or, Nat.zero_le, Int.le_refl, Int.ofNat_zero, Int.ofNat_one, Bool.false_eq_true]
    refine ⟨by decide, fun n1 f1 _ => ?_⟩
    simp only [ab_ite_nn] at f1
    have hn1 : h n1 = none := by simp only [f1]
    have e1 := ab_none_ne c hn1
    refine hV (fun p => p == 25) 80 _ _ _ _ _ _ ?_
    simp only [c, ab_Oi, ab_up_ap, e0, f0, e1, f1, ab_at_i, ab_at_b, ae_aload_n, ae_bipush, ae_newarray, ae_putfield, dX2_init_17, dX2_init_20, dX2_init_21, dX2_init_23, tbX2i_p15, ca_X2_init_3, ab_wp0, ab_wps, ab_stp, ab_g, ab_st, ab_k2, ab_cl, ab_pop, ab_sz, ab_2, ab_ret, ab_f4, ab_tg, ab_I, ab_II, ab_A, ab_Rf, ab_VR, ab_IR, ab_VIR, ab_1, ab_LL, ab_DD, ab_ob, ab_pr, ab_qr, ab_ln, ab_so, ab_vI, ab_vA, ab_vD, ab_vL, ab_v2, ab_c, ab_fit, ab_rv, ab_tsw, ab_lsw, ab_up_eq, Fin.isValue, ab_f0, ab_f1, ab_f2, ab_f3, List.getElem?_cons_zero, List.getElem?_cons_succ, List.set_cons_zero, List.set_cons_succ, List.length_cons, List.length_nil, List.size_toArray, List.head?_cons, List.tail_cons, Option.map_some, cond_true, cond_false, true_and, and_true, false_and, and_false, not_true_eq_false, not_false_eq_true, true_imp_iff, false_imp_iff, if_true, if_false, ite_true, ite_false, ↓reduceIte, Nat.reduceAdd, Nat.reduceEqDiff, Nat.reduceLeDiff, Nat.reduceLT, Nat.reduceBEq, Nat.reduceBNe, Int.reduceAdd, Int.reduceNeg, Int.reduceSub, Int.reduceLE, Int.reduceLT, Int.reduceToNat, Int.reduceEq, Int.reduceMul, Int.cast_ofNat_Int, Nat.zero_add, Nat.add_zero, Nat.le_refl, eq_self, ne_eq, reduceCtorEq, or_true, true_or, or_false, false_or, Bool.or_true, Bool.or_false, Bool.true_or, Bool.false_or, Nat.zero_le, Int.le_refl, Int.ofNat_zero, Int.ofNat_one, Bool.false_eq_true]
    refine ⟨by decide, fun n2 f2 _ => ?_⟩
    simp only [ab_ite_nn] at f2
    have hn2 : h n2 = none := by simp only [f2]
    have e2 := ab_none_ne c hn2
    refine hV (fun p => p == 33) 80 _ _ _ _ _ _ ?_
    simp only [c, ab_Oi, ab_up_ap, e0, f0, e1, f1, e2, f2, ab_at_i, ab_at_b, ae_aload_n, ae_bipush, ae_newarray, ae_putfield, dX2_init_25, dX2_init_28, dX2_init_29, dX2_init_31, tbX2i_p19, ca_X2_init_3, ab_wp0, ab_wps, ab_stp, ab_g, ab_st, ab_k2, ab_cl, ab_pop, ab_sz, ab_2, ab_ret, ab_f4, ab_tg, ab_I, ab_II, ab_A, ab_Rf, ab_VR, ab_IR, ab_VIR, ab_1, ab_LL, ab_DD, ab_ob, ab_pr, ab_qr, ab_ln, ab_so, ab_vI, ab_vA, ab_vD, ab_vL, ab_v2, ab_c, ab_fit, ab_rv, ab_tsw, ab_lsw, ab_up_eq, Fin.isValue, ab_f0, ab_f1, ab_f2, ab_f3, List.getElem?_cons_zero, List.getElem?_cons_succ, List.set_cons_zero, List.set_cons_succ, List.length_cons, List.length_nil, List.size_toArray, List.head?_cons, List.tail_cons, Option.map_some, cond_true, cond_false, true_and, and_true, false_and, and_false, not_true_eq_false, not_false_eq_true, true_imp_iff, false_imp_iff, if_true, if_false, ite_true, ite_false, ↓reduceIte, Nat.reduceAdd, Nat.reduceEqDiff, Nat.reduceLeDiff, Nat.reduceLT, Nat.reduceBEq, Nat.reduceBNe, Int.reduceAdd, Int.reduceNeg, Int.reduceSub, Int.reduceLE, Int.reduceLT, Int.reduceToNat, Int.reduceEq, Int.reduceMul, Int.cast_ofNat_Int, Nat.zero_add, Nat.add_zero, Nat.le_refl, eq_self, ne_eq, reduceCtorEq, or_true, true_or, or_false, false_or, Bool.or_true, Bool.or_false, Bool.true_or, Bool.false_or, Nat.zero_le, Int.le_refl, Int.ofNat_zero, Int.ofNat_one, Bool.false_eq_true]
    refine ⟨by decide, fun n3 f3 _ => ?_⟩
    simp only [ab_ite_nn] at f3
    have hn3 : h n3 = none := by simp only [f3]
    have e3 := ab_none_ne c hn3
    refine hV (fun _ => false) 80 _ _ _ _ _ _ ?_
    simp only [c, ab_up_ap, e0, f0, e1, f1, e2, f2, e3, f3, ae_putfield, ae_return_, dX2_init_33, dX2_init_36, tbX2i_p22, ca_X2_init_3, ab_wp0, ab_wps, ab_stp, ab_g, ab_st, ab_k2, ab_cl, ab_pop, ab_sz, ab_2, ab_ret, ab_f4, ab_tg, ab_I, ab_II, ab_A, ab_Rf, ab_VR, ab_IR, ab_VIR, ab_1, ab_LL, ab_DD, ab_ob, ab_pr, ab_qr, ab_ln, ab_so, ab_vI, ab_vA, ab_vD, ab_vL, ab_v2, ab_c, ab_fit, ab_rv, ab_tsw, ab_lsw, ab_up_eq, Fin.isValue, ab_f0, ab_f1, ab_f2, ab_f3, List.getElem?_cons_zero, List.getElem?_cons_succ, List.set_cons_zero, List.set_cons_succ, List.length_cons, List.length_nil, List.size_toArray, List.head?_cons, List.tail_cons, Option.map_some, cond_true, cond_false, true_and, and_true, false_and, and_false, not_true_eq_false, not_false_eq_true, true_imp_iff, false_imp_iff, if_true, if_false, ite_true, ite_false, ↓reduceIte, Nat.reduceAdd, Nat.reduceEqDiff, Nat.reduceLeDiff, Nat.reduceLT, Nat.reduceBEq, Nat.reduceBNe, Int.reduceAdd, Int.reduceNeg, Int.reduceSub, Int.reduceLE, Int.reduceLT, Int.reduceToNat, Int.reduceEq, Int.reduceMul, Int.cast_ofNat_Int, Nat.zero_add, Nat.add_zero, Nat.le_refl, eq_self, ne_eq, reduceCtorEq, or_true, true_or, or_false, false_or, Bool.or_true, Bool.or_false, Bool.true_or, Bool.false_or, Nat.zero_le, Int.le_refl, Int.ofNat_zero, Int.ofNat_one, Bool.false_eq_true]
    refine hK _ (n0, n1, n2, n3) (tab_of ⟨⟨fun _ => ⟨Int.le_refl 0, show (0 : Int) ≤ 20 by decide⟩, fun _ => Or.inl rfl, fun _ => ⟨Int.le_refl 0, show (0 : Int) ≤ 9 by decide⟩, fun _ => ⟨Int.le_refl 0, show (0 : Int) ≤ 9 by decide⟩⟩, by simp [e0, e1, e2, e3, f1, f2, f3], by simp only [ab_up_ap, if_true], ?_, ?_, ?_, ?_⟩) (by simp [hn0, hn1, hn2, hn3]) ((((((((ab_fr.rf.up (by simp)).up (by simp)).up (by simp)).up (by simp)).up (by simp)).up (by simp)).up (by simp)).up (by simp))
    all_goals simp only [ab_up_ap, e0, e1, e2, e3, f1, f2, f3, if_true, if_false]
  · exact hT.elim
set_option maxRecDepth 100000 in
theorem con_X2_init (l : Launch) (D : va_G) (ty : Nat → ClassId) (base : Nat) : ab_Con l D vwCl ty lw_ts base lw_wd yX2_init cX2_init 1 none 1 20 4 28 Tr_X2_init :=
  ab_con_of (own := RX2) (rt := 0) (tb := tbX2i) (ini := true) (ca := ca_X2_init) (by decide +kernel) rfl (fun _ => rfl) rfl lw_wd_ok wtbX2i lw_ar cm_X2_init
    (fun p e R s m args below meth c K hcx => by
      obtain ⟨hx, hb, hml, hown, hF, rfl⟩ := hcx
      exact ab_lk_all (ab_all_c (ab_tc_O hx hb hml hown lw_wd_ok hF (lw_wi (by decide +kernel) (by decide +kernel)) (lw_wi (by decide +kernel) (by decide +kernel)) (lw_wi (by decide +kernel) (by decide +kernel)) (by decide) (by decide)) (ab_all_n)))
    (by intro as h K ht; unfold Tr_X2_init at ht; split at ht <;> first | exact ht.elim | exact Nat.le_of_ble_eq_true rfl) (sem_X2_init base)
def roof0 (k : Int) : RS := ((fun i => if 0 ≤ i ∧ i < k then -1 else 0), (fun _ => 0), (fun _ => 0), (fun _ => 0), (fun _ => 0), (fun _ => 0), (fun _ => 0), (fun _ => 0), (fun _ => 0), 0, 0, 0, 0)
theorem roof0_r (k : Int) : RB (roof0 k) := by
  refine ⟨fun i => ?_, fun i => by show (0 : Int) ≤ 0 ∧ (0 : Int) ≤ 9; decide, fun i => by show (0 : Int) ≤ 0 ∧ (0 : Int) ≤ 7; decide, fun i => by show (0 : Int) ≤ 0 ∧ (0 : Int) ≤ 0 ∧ (0 : Int) ≤ 4 ∧ (0 : Int) + 0 ≤ 12; decide, fun i => by show (0 : Int) ≤ 0 ∧ (0 : Int) ≤ 3; decide, fun i => Or.inl rfl, fun i => Or.inl rfl, fun i => Or.inl rfl, by show (0 : Int) ≤ 0 ∧ (0 : Int) ≤ 2000000000; decide, by show (0 : Int) ≤ 0 ∧ (0 : Int) ≤ 200; decide⟩
  show -1 ≤ (if 0 ≤ i ∧ i < k then (-1 : Int) else 0) ∧ (if 0 ≤ i ∧ i < k then (-1 : Int) else 0) < 200
  split <;> decide
theorem roof0_s (x : Int) (hx : 0 ≤ x) : ab_uf (roof0 x).num x (-1) = (roof0 (x + 1)).num := by
  funext i
  show (if i = x then (-1 : Int) else if 0 ≤ i ∧ i < x then -1 else 0) = if 0 ≤ i ∧ i < x + 1 then -1 else 0
  by_cases h : i = x
  · rw [if_pos h, if_pos (by omega)]
  · rw [if_neg h]
    by_cases h2 : 0 ≤ i ∧ i < x
    · rw [if_pos h2, if_pos (by omega)]
    · rw [if_neg h2, if_neg (by omega)]
theorem roof0_0 : (roof0 0).num = fun _ => 0 := by
  funext i
  show (if 0 ≤ i ∧ i < 0 then (-1 : Int) else 0) = 0
  rw [if_neg (by omega)]
noncomputable def Tr_X1_init : ATr := fun as h K => match as with
  | [.inr (.inl (some a))] => (∃ fs, h a = some (.inl (1, fs)) ∧ fs = [.inr (.inl none), .inr (.inl none), .inr (.inl none), .inr (.inl none), .inr (.inl none), .inr (.inl none), .inr (.inl none), .inr (.inl none), .inr (.inl none), .inl 0, .inl 0, .inl 0, .inl 0]) ∧ ∀ h' A, ab_roof h' a = some (A, roof0 96) → (∀ q ∈ A, h q = none) → ab_fr h h' (a :: A) → K none h'
  | _ => False
theorem mo_X1_init : ab_mo Tr_X1_init := by
  intro as h K K' hk ht
  unfold Tr_X1_init at ht ⊢
  split at ht
  · exact ⟨ht.1, fun h' A e1 e2 e3 => hk _ _ (ht.2 h' A e1 e2 e3)⟩
  · exact ht.elim
theorem ar_X1_init : ∀ as h K, Tr_X1_init as h K → ∃ b As, as = .inr (.inl (some b)) :: As := by
  intro as h K ht
  unfold Tr_X1_init at ht
  split at ht
  · exact ⟨_, _, rfl⟩
  · exact ht.elim
def ca_X1_init : Nat → Option ACS := ab_lk [(3, (1, 0, 1, 0, 0, ab_Oi))]
theorem ca_X1_init_3 : ca_X1_init 3 = some (1, 0, 1, 0, 0, ab_Oi) := rfl
theorem cm_X1_init : ∀ i q, ca_X1_init i = some q → ab_moq i q := ab_lk_all (ab_all_c ab_Oi_mo (ab_all_n))
set_option maxRecDepth 100000 in
set_option maxHeartbeats 4000000 in
theorem sem_X1_init (base : Nat) : ab_Sem tbX1i lw_ts base cX1_init ca_X1_init 0 2 9 1592 (fun as => ab_en as 2) Tr_X1_init := by
  intro as h K hT V hV
  unfold Tr_X1_init at hT
  split at hT
  · rename_i a
    obtain ⟨⟨fs, c, hl⟩, hK⟩ := hT
    subst hl
    have loop : ∀ (ns : List Nat) (n : Nat) (x : Int) (h1 : AH), (∀ q ∈ ns, h q = none) → x + n = 96 → 0 ≤ x → roofCells h1 a ns (roof0 x) → ab_fr h h1 (a :: ns) → V 85 [some (.inr (.inl (some a))), some (.inl x)] [] h1 9 1592 := by
      intro ns n
      induction n with
      | zero =>
        intro x h1 hns hx h0 hC2 fr
        have he : x = 96 := by omega
        subst he
        have hk3 := hK h1 ns (roof_of ⟨roof0_r _, hC2⟩) hns fr
        refine hV (fun p => p == 85) 80 _ _ _ _ _ _ ?_
        simp only [bI_in, bI_0, bI_1, bI_t, bI_f, bI_01, ae_aload_n, ae_bipush, ae_getfield, ae_goto, ae_iastore, ae_iconst, ae_if_icmp, ae_iinc, ae_iload_n, ae_return_, dX1_init_85, dX1_init_86, dX1_init_88, dX1_init_91, dX1_init_92, dX1_init_95, dX1_init_96, dX1_init_97, dX1_init_98, dX1_init_101, dX1_init_104, tbX1i_g9, ca_X1_init_3, ab_wp0, ab_wps, ab_stp, ab_g, ab_st, ab_k2, ab_cl, ab_pop, ab_sz, ab_2, ab_ret, ab_f4, ab_tg, ab_I, ab_II, ab_A, ab_Rf, ab_VR, ab_IR, ab_VIR, ab_1, ab_LL, ab_DD, ab_ob, ab_pr, ab_qr, ab_ln, ab_so, ab_vI, ab_vA, ab_vD, ab_vL, ab_v2, ab_c, ab_fit, ab_rv, ab_tsw, ab_lsw, ab_up_eq, Fin.isValue, ab_f0, ab_f1, ab_f2, ab_f3, List.getElem?_cons_zero, List.getElem?_cons_succ, List.set_cons_zero, List.set_cons_succ, List.length_cons, List.length_nil, List.size_toArray, List.head?_cons, List.tail_cons, Option.map_some, cond_true, cond_false, true_and, and_true, false_and, and_false, not_true_eq_false, not_false_eq_true, true_imp_iff, false_imp_iff, if_true, if_false, ite_true, ite_false, ↓reduceIte, Nat.reduceAdd, Nat.reduceEqDiff, Nat.reduceLeDiff, Nat.reduceLT, Nat.reduceBEq, Nat.reduceBNe, Int.reduceAdd, Int.reduceNeg, Int.reduceSub, Int.reduceLE, Int.reduceLT, Int.reduceToNat, Int.reduceEq, Int.reduceMul, Int.cast_ofNat_Int, Nat.zero_add, Nat.add_zero, Nat.le_refl, eq_self, ne_eq, reduceCtorEq, or_true, true_or, or_false, false_or, Bool.or_true, Bool.or_false, Bool.true_or, Bool.false_or, Nat.zero_le, Int.le_refl, Int.ofNat_zero, Int.ofNat_one, Bool.false_eq_true]
        simp only [ab_in]
        (repeat' (first | intro _ | refine And.intro ?_ ?_)) <;> (first | exact hk3 | contradiction | omega | (exfalso; omega))
      | succ n ih =>
        intro x h1 hns hx h0 hC2 fr
        have he : ¬ 96 ≤ x := by omega
        obtain ⟨n0, n1, n2, n3, n4, n5, n6, n7, n8, rfl, -, d, d0, -⟩ := id hC2
        have ih1 := ih (x + 1) _ hns (by omega) (by omega) (rc_num hC2 (roof0 (x + 1)).num) (fr.up (by simp))
        rw [← roof0_s x h0] at ih1
        refine hV (fun p => p == 85) 80 _ _ _ _ _ _ ?_
        simp only [d, d0, he, bI_in, bI_0, bI_1, bI_t, bI_f, bI_01, ae_aload_n, ae_bipush, ae_getfield, ae_goto, ae_iastore, ae_iconst, ae_if_icmp, ae_iinc, ae_iload_n, dX1_init_85, dX1_init_86, dX1_init_88, dX1_init_91, dX1_init_92, dX1_init_95, dX1_init_96, dX1_init_97, dX1_init_98, dX1_init_101, tbX1i_g9, ca_X1_init_3, ab_wp0, ab_wps, ab_stp, ab_g, ab_st, ab_k2, ab_cl, ab_pop, ab_sz, ab_2, ab_ret, ab_f4, ab_tg, ab_I, ab_II, ab_A, ab_Rf, ab_VR, ab_IR, ab_VIR, ab_1, ab_LL, ab_DD, ab_ob, ab_pr, ab_qr, ab_ln, ab_so, ab_vI, ab_vA, ab_vD, ab_vL, ab_v2, ab_c, ab_fit, ab_rv, ab_tsw, ab_lsw, ab_up_eq, Fin.isValue, ab_f0, ab_f1, ab_f2, ab_f3, List.getElem?_cons_zero, List.getElem?_cons_succ, List.set_cons_zero, List.set_cons_succ, List.length_cons, List.length_nil, List.size_toArray, List.head?_cons, List.tail_cons, Option.map_some, cond_true, cond_false, true_and, and_true, false_and, and_false, not_true_eq_false, not_false_eq_true, true_imp_iff, false_imp_iff, if_true, if_false, ite_true, ite_false, ↓reduceIte, Nat.reduceAdd, Nat.reduceEqDiff, Nat.reduceLeDiff, Nat.reduceLT, Nat.reduceBEq, Nat.reduceBNe, Int.reduceAdd, Int.reduceNeg, Int.reduceSub, Int.reduceLE, Int.reduceLT, Int.reduceToNat, Int.reduceEq, Int.reduceMul, Int.cast_ofNat_Int, Nat.zero_add, Nat.add_zero, Nat.le_refl, eq_self, ne_eq, reduceCtorEq, or_true, true_or, or_false, false_or, Bool.or_true, Bool.or_false, Bool.true_or, Bool.false_or, Nat.zero_le, Int.le_refl, Int.ofNat_zero, Int.ofNat_one, Bool.false_eq_true]
        simp only [ab_in]
        (repeat' (first | intro _ | refine And.intro ?_ ?_)) <;> (first | exact ih1 | contradiction | omega | (exfalso; omega))
    have hN : True := trivial
    show V 0 [some (.inr (.inl (some a))), none] [] h 0 0
    refine hV (fun p => p == 9) 80 _ _ _ _ _ _ ?_
    simp only [c, ab_Oi, ab_up_ap, ab_at_i, ab_at_b, ae_aload_n, ae_bipush, ae_invokespecial, ae_newarray, dX1_init_0, dX1_init_1, dX1_init_4, dX1_init_5, dX1_init_7, ca_X1_init_3, ab_wp0, ab_wps, ab_stp, ab_g, ab_st, ab_k2, ab_cl, ab_pop, ab_sz, ab_2, ab_ret, ab_f4, ab_tg, ab_I, ab_II, ab_A, ab_Rf, ab_VR, ab_IR, ab_VIR, ab_1, ab_LL, ab_DD, ab_ob, ab_pr, ab_qr, ab_ln, ab_so, ab_vI, ab_vA, ab_vD, ab_vL, ab_v2, ab_c, ab_fit, ab_rv, ab_tsw, ab_lsw, ab_up_eq, Fin.isValue, ab_f0, ab_f1, ab_f2, ab_f3, List.getElem?_cons_zero, List.getElem?_cons_succ, List.set_cons_zero, List.set_cons_succ, List.length_cons, List.length_nil, List.size_toArray, List.head?_cons, List.tail_cons, Option.map_some, cond_true, cond_false, true_and, and_true, false_and, and_false, not_true_eq_false, not_false_eq_true, true_imp_iff, false_imp_iff, if_true, if_false, ite_true, ite_false, ↓reduceIte, Nat.reduceAdd, Nat.reduceEqDiff, Nat.reduceLeDiff, Nat.reduceLT, Nat.reduceBEq, Nat.reduceBNe, Int.reduceAdd, Int.reduceNeg, Int.reduceSub, Int.reduceLE, Int.reduceLT, Int.reduceToNat, Int.reduceEq, Int.reduceMul, Int.cast_ofNat_Int, Nat.zero_add, Nat.add_zero, Nat.le_refl, eq_self, ne_eq, reduceCtorEq, or_true, true_or, or_false, false_or, Bool.or_true, Bool.or_false, Bool.true_or, Bool.false_or, Nat.zero_le, Int.le_refl, Int.ofNat_zero, Int.ofNat_one, Bool.false_eq_true]
    refine ⟨by decide, fun n0 f0 _ => ?_⟩
    have hn0 := f0
    have e0 := ab_none_ne c f0
    refine hV (fun p => p == 17) 80 _ _ _ _ _ _ ?_
    simp only [c, ab_Oi, ab_up_ap, e0, f0, ab_at_i, ab_at_b, ae_aload_n, ae_bipush, ae_newarray, ae_putfield, dX1_init_9, dX1_init_12, dX1_init_13, dX1_init_15, tbX1i_p9, ca_X1_init_3, ab_wp0, ab_wps, ab_stp, ab_g, ab_st, ab_k2, ab_cl, ab_pop, ab_sz, ab_2, ab_ret, ab_f4, ab_tg, ab_I, ab_II, ab_A, ab_Rf, ab_VR, ab_IR, ab_VIR, ab_1, ab_LL, ab_DD, ab_ob, ab_pr, ab_qr, ab_ln, ab_so, ab_vI, ab_vA, ab_vD, ab_vL, ab_v2, ab_c, ab_fit, ab_rv, ab_tsw, ab_lsw, ab_up_eq, Fin.isValue, ab_f0, ab_f1, ab_f2, ab_f3, List.getElem?_cons_zero, List.getElem?_cons_succ, List.set_cons_zero, List.set_cons_succ, List.length_cons, List.length_nil, List.size_toArray, List.head?_cons, List.tail_cons, Option.map_some, cond_true, cond_false, true_and, and_true, false_and, and_false, not_true_eq_false, not_false_eq_true, true_imp_iff, false_imp_iff, if_true, if_false, ite_true, ite_false, ↓reduceIte, Nat.reduceAdd, Nat.reduceEqDiff, Nat.reduceLeDiff, Nat.reduceLT, Nat.reduceBEq, Nat.reduceBNe, Int.reduceAdd, Int.reduceNeg, Int.reduceSub, Int.reduceLE, Int.reduceLT, Int.reduceToNat, Int.reduceEq, Int.reduceMul, Int.cast_ofNat_Int, Nat.zero_add, Nat.add_zero, Nat.le_refl, eq_self, ne_eq, reduceCtorEq, or_true, true_or, or_false, false_or, Bool.or_true, Bool.or_false, Bool.true_or, Bool.false_or, Nat.zero_le, Int.le_refl, Int.ofNat_zero, Int.ofNat_one, Bool.false_eq_true]
    refine ⟨by decide, fun n1 f1 _ => ?_⟩
    simp only [ab_ite_nn] at f1
    have hn1 : h n1 = none := by simp only [f1]
    have e1 := ab_none_ne c hn1
    refine hV (fun p => p == 26) 80 _ _ _ _ _ _ ?_
    simp only [c, ab_Oi, ab_up_ap, e0, f0, e1, f1, ab_at_i, ab_at_b, ae_aload_n, ae_newarray, ae_putfield, ae_sipush, dX1_init_17, dX1_init_20, dX1_init_21, dX1_init_24, tbX1i_p15, ca_X1_init_3, ab_wp0, ab_wps, ab_stp, ab_g, ab_st, ab_k2, ab_cl, ab_pop, ab_sz, ab_2, ab_ret, ab_f4, ab_tg, ab_I, ab_II, ab_A, ab_Rf, ab_VR, ab_IR, ab_VIR, ab_1, ab_LL, ab_DD, ab_ob, ab_pr, ab_qr, ab_ln, ab_so, ab_vI, ab_vA, ab_vD, ab_vL, ab_v2, ab_c, ab_fit, ab_rv, ab_tsw, ab_lsw, ab_up_eq, Fin.isValue, ab_f0, ab_f1, ab_f2, ab_f3, List.getElem?_cons_zero, List.getElem?_cons_succ, List.set_cons_zero, List.set_cons_succ, List.length_cons, List.length_nil, List.size_toArray, List.head?_cons, List.tail_cons, Option.map_some, cond_true, cond_false, true_and, and_true, false_and, and_false, not_true_eq_false, not_false_eq_true, true_imp_iff, false_imp_iff, if_true, if_false, ite_true, ite_false, ↓reduceIte, Nat.reduceAdd, Nat.reduceEqDiff, Nat.reduceLeDiff, Nat.reduceLT, Nat.reduceBEq, Nat.reduceBNe, Int.reduceAdd, Int.reduceNeg, Int.reduceSub, Int.reduceLE, Int.reduceLT, Int.reduceToNat, Int.reduceEq, Int.reduceMul, Int.cast_ofNat_Int, Nat.zero_add, Nat.add_zero, Nat.le_refl, eq_self, ne_eq, reduceCtorEq, or_true, true_or, or_false, false_or, Bool.or_true, Bool.or_false, Bool.true_or, Bool.false_or, Nat.zero_le, Int.le_refl, Int.ofNat_zero, Int.ofNat_one, Bool.false_eq_true]
    refine ⟨by decide, fun n2 f2 _ => ?_⟩
    simp only [ab_ite_nn] at f2
    have hn2 : h n2 = none := by simp only [f2]
    have e2 := ab_none_ne c hn2
    refine hV (fun p => p == 35) 80 _ _ _ _ _ _ ?_
    simp only [c, ab_Oi, ab_up_ap, e0, f0, e1, f1, e2, f2, ab_at_i, ab_at_b, ae_aload_n, ae_newarray, ae_putfield, ae_sipush, dX1_init_26, dX1_init_29, dX1_init_30, dX1_init_33, tbX1i_p18, ca_X1_init_3, ab_wp0, ab_wps, ab_stp, ab_g, ab_st, ab_k2, ab_cl, ab_pop, ab_sz, ab_2, ab_ret, ab_f4, ab_tg, ab_I, ab_II, ab_A, ab_Rf, ab_VR, ab_IR, ab_VIR, ab_1, ab_LL, ab_DD, ab_ob, ab_pr, ab_qr, ab_ln, ab_so, ab_vI, ab_vA, ab_vD, ab_vL, ab_v2, ab_c, ab_fit, ab_rv, ab_tsw, ab_lsw, ab_up_eq, Fin.isValue, ab_f0, ab_f1, ab_f2, ab_f3, List.getElem?_cons_zero, List.getElem?_cons_succ, List.set_cons_zero, List.set_cons_succ, List.length_cons, List.length_nil, List.size_toArray, List.head?_cons, List.tail_cons, Option.map_some, cond_true, cond_false, true_and, and_true, false_and, and_false, not_true_eq_false, not_false_eq_true, true_imp_iff, false_imp_iff, if_true, if_false, ite_true, ite_false, ↓reduceIte, Nat.reduceAdd, Nat.reduceEqDiff, Nat.reduceLeDiff, Nat.reduceLT, Nat.reduceBEq, Nat.reduceBNe, Int.reduceAdd, Int.reduceNeg, Int.reduceSub, Int.reduceLE, Int.reduceLT, Int.reduceToNat, Int.reduceEq, Int.reduceMul, Int.cast_ofNat_Int, Nat.zero_add, Nat.add_zero, Nat.le_refl, eq_self, ne_eq, reduceCtorEq, or_true, true_or, or_false, false_or, Bool.or_true, Bool.or_false, Bool.true_or, Bool.false_or, Nat.zero_le, Int.le_refl, Int.ofNat_zero, Int.ofNat_one, Bool.false_eq_true]
    refine ⟨by decide, fun n3 f3 _ => ?_⟩
    simp only [ab_ite_nn] at f3
    have hn3 : h n3 = none := by simp only [f3]
    have e3 := ab_none_ne c hn3
    refine hV (fun p => p == 44) 80 _ _ _ _ _ _ ?_
    simp only [c, ab_Oi, ab_up_ap, e0, f0, e1, f1, e2, f2, e3, f3, ab_at_i, ab_at_b, ae_aload_n, ae_newarray, ae_putfield, ae_sipush, dX1_init_35, dX1_init_38, dX1_init_39, dX1_init_42, tbX1i_p21, ca_X1_init_3, ab_wp0, ab_wps, ab_stp, ab_g, ab_st, ab_k2, ab_cl, ab_pop, ab_sz, ab_2, ab_ret, ab_f4, ab_tg, ab_I, ab_II, ab_A, ab_Rf, ab_VR, ab_IR, ab_VIR, ab_1, ab_LL, ab_DD, ab_ob, ab_pr, ab_qr, ab_ln, ab_so, ab_vI, ab_vA, ab_vD, ab_vL, ab_v2, ab_c, ab_fit, ab_rv, ab_tsw, ab_lsw, ab_up_eq, Fin.isValue, ab_f0, ab_f1, ab_f2, ab_f3, List.getElem?_cons_zero, List.getElem?_cons_succ, List.set_cons_zero, List.set_cons_succ, List.length_cons, List.length_nil, List.size_toArray, List.head?_cons, List.tail_cons, Option.map_some, cond_true, cond_false, true_and, and_true, false_and, and_false, not_true_eq_false, not_false_eq_true, true_imp_iff, false_imp_iff, if_true, if_false, ite_true, ite_false, ↓reduceIte, Nat.reduceAdd, Nat.reduceEqDiff, Nat.reduceLeDiff, Nat.reduceLT, Nat.reduceBEq, Nat.reduceBNe, Int.reduceAdd, Int.reduceNeg, Int.reduceSub, Int.reduceLE, Int.reduceLT, Int.reduceToNat, Int.reduceEq, Int.reduceMul, Int.cast_ofNat_Int, Nat.zero_add, Nat.add_zero, Nat.le_refl, eq_self, ne_eq, reduceCtorEq, or_true, true_or, or_false, false_or, Bool.or_true, Bool.or_false, Bool.true_or, Bool.false_or, Nat.zero_le, Int.le_refl, Int.ofNat_zero, Int.ofNat_one, Bool.false_eq_true]
    refine ⟨by decide, fun n4 f4 _ => ?_⟩
    simp only [ab_ite_nn] at f4
    have hn4 : h n4 = none := by simp only [f4]
    have e4 := ab_none_ne c hn4
    refine hV (fun p => p == 53) 80 _ _ _ _ _ _ ?_
    simp only [c, ab_Oi, ab_up_ap, e0, f0, e1, f1, e2, f2, e3, f3, e4, f4, ab_at_i, ab_at_b, ae_aload_n, ae_newarray, ae_putfield, ae_sipush, dX1_init_44, dX1_init_47, dX1_init_48, dX1_init_51, tbX1i_p24, ca_X1_init_3, ab_wp0, ab_wps, ab_stp, ab_g, ab_st, ab_k2, ab_cl, ab_pop, ab_sz, ab_2, ab_ret, ab_f4, ab_tg, ab_I, ab_II, ab_A, ab_Rf, ab_VR, ab_IR, ab_VIR, ab_1, ab_LL, ab_DD, ab_ob, ab_pr, ab_qr, ab_ln, ab_so, ab_vI, ab_vA, ab_vD, ab_vL, ab_v2, ab_c, ab_fit, ab_rv, ab_tsw, ab_lsw, ab_up_eq, Fin.isValue, ab_f0, ab_f1, ab_f2, ab_f3, List.getElem?_cons_zero, List.getElem?_cons_succ, List.set_cons_zero, List.set_cons_succ, List.length_cons, List.length_nil, List.size_toArray, List.head?_cons, List.tail_cons, Option.map_some, cond_true, cond_false, true_and, and_true, false_and, and_false, not_true_eq_false, not_false_eq_true, true_imp_iff, false_imp_iff, if_true, if_false, ite_true, ite_false, ↓reduceIte, Nat.reduceAdd, Nat.reduceEqDiff, Nat.reduceLeDiff, Nat.reduceLT, Nat.reduceBEq, Nat.reduceBNe, Int.reduceAdd, Int.reduceNeg, Int.reduceSub, Int.reduceLE, Int.reduceLT, Int.reduceToNat, Int.reduceEq, Int.reduceMul, Int.cast_ofNat_Int, Nat.zero_add, Nat.add_zero, Nat.le_refl, eq_self, ne_eq, reduceCtorEq, or_true, true_or, or_false, false_or, Bool.or_true, Bool.or_false, Bool.true_or, Bool.false_or, Nat.zero_le, Int.le_refl, Int.ofNat_zero, Int.ofNat_one, Bool.false_eq_true]
    refine ⟨by decide, fun n5 f5 _ => ?_⟩
    simp only [ab_ite_nn] at f5
    have hn5 : h n5 = none := by simp only [f5]
    have e5 := ab_none_ne c hn5
    refine hV (fun p => p == 62) 80 _ _ _ _ _ _ ?_
    simp only [c, ab_Oi, ab_up_ap, e0, f0, e1, f1, e2, f2, e3, f3, e4, f4, e5, f5, ab_at_i, ab_at_b, ae_aload_n, ae_newarray, ae_putfield, ae_sipush, dX1_init_53, dX1_init_56, dX1_init_57, dX1_init_60, tbX1i_p27, ca_X1_init_3, ab_wp0, ab_wps, ab_stp, ab_g, ab_st, ab_k2, ab_cl, ab_pop, ab_sz, ab_2, ab_ret, ab_f4, ab_tg, ab_I, ab_II, ab_A, ab_Rf, ab_VR, ab_IR, ab_VIR, ab_1, ab_LL, ab_DD, ab_ob, ab_pr, ab_qr, ab_ln, ab_so, ab_vI, ab_vA, ab_vD, ab_vL, ab_v2, ab_c, ab_fit, ab_rv, ab_tsw, ab_lsw, ab_up_eq, Fin.isValue, ab_f0, ab_f1, ab_f2, ab_f3, List.getElem?_cons_zero, List.getElem?_cons_succ, List.set_cons_zero, List.set_cons_succ, List.length_cons, List.length_nil, List.size_toArray, List.head?_cons, List.tail_cons, Option.map_some, cond_true, cond_false, true_and, and_true, false_and, and_false, not_true_eq_false, not_false_eq_true, true_imp_iff, false_imp_iff, if_true, if_false, ite_true, ite_false, ↓reduceIte, Nat.reduceAdd, Nat.reduceEqDiff, Nat.reduceLeDiff, Nat.reduceLT, Nat.reduceBEq, Nat.reduceBNe, Int.reduceAdd, Int.reduceNeg, Int.reduceSub, Int.reduceLE, Int.reduceLT, Int.reduceToNat, Int.reduceEq, Int.reduceMul, Int.cast_ofNat_Int, Nat.zero_add, Nat.add_zero, Nat.le_refl, eq_self, ne_eq, reduceCtorEq, or_true, true_or, or_false, false_or, Bool.or_true, Bool.or_false, Bool.true_or, Bool.false_or, Nat.zero_le, Int.le_refl, Int.ofNat_zero, Int.ofNat_one, Bool.false_eq_true]
    refine ⟨by decide, fun n6 f6 _ => ?_⟩
    simp only [ab_ite_nn] at f6
    have hn6 : h n6 = none := by simp only [f6]
    have e6 := ab_none_ne c hn6
    refine hV (fun p => p == 71) 80 _ _ _ _ _ _ ?_
    simp only [c, ab_Oi, ab_up_ap, e0, f0, e1, f1, e2, f2, e3, f3, e4, f4, e5, f5, e6, f6, ab_at_i, ab_at_b, ae_aload_n, ae_newarray, ae_putfield, ae_sipush, dX1_init_62, dX1_init_65, dX1_init_66, dX1_init_69, tbX1i_p30, ca_X1_init_3, ab_wp0, ab_wps, ab_stp, ab_g, ab_st, ab_k2, ab_cl, ab_pop, ab_sz, ab_2, ab_ret, ab_f4, ab_tg, ab_I, ab_II, ab_A, ab_Rf, ab_VR, ab_IR, ab_VIR, ab_1, ab_LL, ab_DD, ab_ob, ab_pr, ab_qr, ab_ln, ab_so, ab_vI, ab_vA, ab_vD, ab_vL, ab_v2, ab_c, ab_fit, ab_rv, ab_tsw, ab_lsw, ab_up_eq, Fin.isValue, ab_f0, ab_f1, ab_f2, ab_f3, List.getElem?_cons_zero, List.getElem?_cons_succ, List.set_cons_zero, List.set_cons_succ, List.length_cons, List.length_nil, List.size_toArray, List.head?_cons, List.tail_cons, Option.map_some, cond_true, cond_false, true_and, and_true, false_and, and_false, not_true_eq_false, not_false_eq_true, true_imp_iff, false_imp_iff, if_true, if_false, ite_true, ite_false, ↓reduceIte, Nat.reduceAdd, Nat.reduceEqDiff, Nat.reduceLeDiff, Nat.reduceLT, Nat.reduceBEq, Nat.reduceBNe, Int.reduceAdd, Int.reduceNeg, Int.reduceSub, Int.reduceLE, Int.reduceLT, Int.reduceToNat, Int.reduceEq, Int.reduceMul, Int.cast_ofNat_Int, Nat.zero_add, Nat.add_zero, Nat.le_refl, eq_self, ne_eq, reduceCtorEq, or_true, true_or, or_false, false_or, Bool.or_true, Bool.or_false, Bool.true_or, Bool.false_or, Nat.zero_le, Int.le_refl, Int.ofNat_zero, Int.ofNat_one, Bool.false_eq_true]
    refine ⟨by decide, fun n7 f7 _ => ?_⟩
    simp only [ab_ite_nn] at f7
    have hn7 : h n7 = none := by simp only [f7]
    have e7 := ab_none_ne c hn7
    refine hV (fun p => p == 80) 80 _ _ _ _ _ _ ?_
    simp only [c, ab_Oi, ab_up_ap, e0, f0, e1, f1, e2, f2, e3, f3, e4, f4, e5, f5, e6, f6, e7, f7, ab_at_i, ab_at_b, ae_aload_n, ae_newarray, ae_putfield, ae_sipush, dX1_init_71, dX1_init_74, dX1_init_75, dX1_init_78, tbX1i_p34, ca_X1_init_3, ab_wp0, ab_wps, ab_stp, ab_g, ab_st, ab_k2, ab_cl, ab_pop, ab_sz, ab_2, ab_ret, ab_f4, ab_tg, ab_I, ab_II, ab_A, ab_Rf, ab_VR, ab_IR, ab_VIR, ab_1, ab_LL, ab_DD, ab_ob, ab_pr, ab_qr, ab_ln, ab_so, ab_vI, ab_vA, ab_vD, ab_vL, ab_v2, ab_c, ab_fit, ab_rv, ab_tsw, ab_lsw, ab_up_eq, Fin.isValue, ab_f0, ab_f1, ab_f2, ab_f3, List.getElem?_cons_zero, List.getElem?_cons_succ, List.set_cons_zero, List.set_cons_succ, List.length_cons, List.length_nil, List.size_toArray, List.head?_cons, List.tail_cons, Option.map_some, cond_true, cond_false, true_and, and_true, false_and, and_false, not_true_eq_false, not_false_eq_true, true_imp_iff, false_imp_iff, if_true, if_false, ite_true, ite_false, ↓reduceIte, Nat.reduceAdd, Nat.reduceEqDiff, Nat.reduceLeDiff, Nat.reduceLT, Nat.reduceBEq, Nat.reduceBNe, Int.reduceAdd, Int.reduceNeg, Int.reduceSub, Int.reduceLE, Int.reduceLT, Int.reduceToNat, Int.reduceEq, Int.reduceMul, Int.cast_ofNat_Int, Nat.zero_add, Nat.add_zero, Nat.le_refl, eq_self, ne_eq, reduceCtorEq, or_true, true_or, or_false, false_or, Bool.or_true, Bool.or_false, Bool.true_or, Bool.false_or, Nat.zero_le, Int.le_refl, Int.ofNat_zero, Int.ofNat_one, Bool.false_eq_true]
    refine ⟨by decide, fun n8 f8 _ => ?_⟩
    simp only [ab_ite_nn] at f8
    have hn8 : h n8 = none := by simp only [f8]
    have e8 := ab_none_ne c hn8
    refine hV (fun p => p == 85) 80 _ _ _ _ _ _ ?_
    simp only [c, ab_up_ap, e0, e1, e2, e3, e4, e5, e6, e7, e8, f0, f1, f2, f3, f4, f5, f6, f7, f8, ae_iconst, ae_istore_n, ae_putfield, dX1_init_80, dX1_init_83, dX1_init_84, tbX1i_p37, ca_X1_init_3, ab_wp0, ab_wps, ab_stp, ab_g, ab_st, ab_k2, ab_cl, ab_pop, ab_sz, ab_2, ab_ret, ab_f4, ab_tg, ab_I, ab_II, ab_A, ab_Rf, ab_VR, ab_IR, ab_VIR, ab_1, ab_LL, ab_DD, ab_ob, ab_pr, ab_qr, ab_ln, ab_so, ab_vI, ab_vA, ab_vD, ab_vL, ab_v2, ab_c, ab_fit, ab_rv, ab_tsw, ab_lsw, ab_up_eq, Fin.isValue, ab_f0, ab_f1, ab_f2, ab_f3, List.getElem?_cons_zero, List.getElem?_cons_succ, List.set_cons_zero, List.set_cons_succ, List.length_cons, List.length_nil, List.size_toArray, List.head?_cons, List.tail_cons, Option.map_some, cond_true, cond_false, true_and, and_true, false_and, and_false, not_true_eq_false, not_false_eq_true, true_imp_iff, false_imp_iff, if_true, if_false, ite_true, ite_false, ↓reduceIte, Nat.reduceAdd, Nat.reduceEqDiff, Nat.reduceLeDiff, Nat.reduceLT, Nat.reduceBEq, Nat.reduceBNe, Int.reduceAdd, Int.reduceNeg, Int.reduceSub, Int.reduceLE, Int.reduceLT, Int.reduceToNat, Int.reduceEq, Int.reduceMul, Int.cast_ofNat_Int, Nat.zero_add, Nat.add_zero, Nat.le_refl, eq_self, ne_eq, reduceCtorEq, or_true, true_or, or_false, false_or, Bool.or_true, Bool.or_false, Bool.true_or, Bool.false_or, Nat.zero_le, Int.le_refl, Int.ofNat_zero, Int.ofNat_one, Bool.false_eq_true]
    refine loop [n0, n1, n2, n3, n4, n5, n6, n7, n8] 96 0 _ (by simp [hn0, hn1, hn2, hn3, hn4, hn5, hn6, hn7, hn8]) (by omega) (by omega) ⟨n0, n1, n2, n3, n4, n5, n6, n7, n8, rfl, by simp [e0, e1, e2, e3, e4, e5, e6, e7, e8, f1, f2, f3, f4, f5, f6, f7, f8], by simp only [ab_up_ap, if_true]; rfl, ?_, ?_, ?_, ?_, ?_, ?_, ?_, ?_, ?_⟩ ?_
    · rw [roof0_0]; simp only [ab_up_ap, e0, e1, e2, e3, e4, e5, e6, e7, e8, f1, f2, f3, f4, f5, f6, f7, f8, if_true, if_false]
    all_goals try (simp only [ab_up_ap, e0, e1, e2, e3, e4, e5, e6, e7, e8, f1, f2, f3, f4, f5, f6, f7, f8, if_true, if_false]; rfl)
    repeat' (first | exact ab_fr.rf | refine ab_fr.up ?_ (by simp))
  · exact hT.elim
set_option maxRecDepth 100000 in
theorem con_X1_init (l : Launch) (D : va_G) (ty : Nat → ClassId) (base : Nat) : ab_Con l D vwCl ty lw_ts base lw_wd yX1_init cX1_init 2 none 1 20 9 1592 Tr_X1_init :=
  ab_con_of (own := RX1) (rt := 0) (tb := tbX1i) (ini := true) (ca := ca_X1_init) (by decide +kernel) rfl (fun _ => rfl) rfl lw_wd_ok wtbX1i lw_ar cm_X1_init
    (fun p e R s m args below meth c K hcx => by
      obtain ⟨hx, hb, hml, hown, hF, rfl⟩ := hcx
      exact ab_lk_all (ab_all_c (ab_tc_O hx hb hml hown lw_wd_ok hF (lw_wi (by decide +kernel) (by decide +kernel)) (lw_wi (by decide +kernel) (by decide +kernel)) (lw_wi (by decide +kernel) (by decide +kernel)) (by decide) (by decide)) (ab_all_n)))
    (by intro as h K ht; unfold Tr_X1_init at ht; split at ht <;> first | exact ht.elim | exact Nat.le_of_ble_eq_true rfl) (sem_X1_init base)
