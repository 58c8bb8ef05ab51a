/-! ===== the reference: its constructor; where best ===== -/
noncomputable def Tr_X4_init : ATr := fun as h K => match as with
  | [.inr (.inl (some a))] => (h a = some (.inl (4, [.inl 0, .inl 0, .inr (.inl none), .inr (.inl none), .inr (.inl none), .inr (.inl none), .inr (.inl none), .inr (.inl none)]) : AC)) ∧ ∀ h' B v, ab_md h' a = some (B, v) → (bareV v ∧ v.fnm 0 = 0) → (∀ b, h b ≠ none → b ≠ a → h' b = h b) → (∀ b ∈ mdL a B, b = a ∨ h b = none) → K none h'
  | _ => False
theorem mo_X4_init : ab_mo Tr_X4_init := by
  intro as h K K' hk ht
  unfold Tr_X4_init at ht ⊢
  split at ht
  · exact ⟨ht.1, fun h' A v e1 e2 e3 e4 => hk _ _ (ht.2 h' A v e1 e2 e3 e4)⟩
  · exact ht.elim
theorem ar_X4_init : ∀ as h K, Tr_X4_init as h K → ∃ b As, as = .inr (.inl (some b)) :: As := by
  intro as h K ht
  unfold Tr_X4_init at ht
  split at ht
  · exact ⟨_, _, rfl⟩
  · exact ht.elim
def ca_X4_init : Nat → Option ACS := ab_lk [(1, (1, 0, 1, 0, 0, ab_Oi))]
theorem ca_X4_init_1 : ca_X4_init 1 = some (1, 0, 1, 0, 0, ab_Oi) := rfl
theorem cm_X4_init : ∀ i q, ca_X4_init i = some q → ab_moq i q := ab_lk_all (ab_all_c ab_Oi_mo (ab_all_n))
set_option maxRecDepth 100000 in
set_option maxHeartbeats 4000000 in
theorem sem_X4_init (base : Nat) : ab_Sem tbX4i lw_ts base cX4_init ca_X4_init 0 2 6 1622 (fun as => ab_en as 2) Tr_X4_init := by
  intro as h K hT V hV
  unfold Tr_X4_init at hT
  split at hT
  · rename_i a
    obtain ⟨c, hK⟩ := hT
    show V 0 [some (.inr (.inl (some a))), none] [] h 0 0
    have loop : ∀ (n : Nat) (k : Int) (hh : AH) (b0 b1 b2 b3 b4 b5 : Nat) (f : Int → Int), k + n = 96 → 0 ≤ k → mdAt hh a ((b0, b1, b2, b3, b4, b5), (0, 0, (fun _ => 0), f, (fun _ => 0), (fun _ => 0), (fun _ => 0), (fun _ => 0))) → (∀ i, 0 ≤ i → i < k → f i = -1) → (∀ b, h b ≠ none → b ≠ a → hh b = h b) → (∀ b ∈ mdL a (b0, b1, b2, b3, b4, b5), b = a ∨ h b = none) → V 55 [some (.inr (.inl (some a))), some (.inl k)] [] hh 6 1622 := by
      intro n
      induction n with
      | zero =>
        intro k hh b0 b1 b2 b3 b4 b5 f e1 e2 hm hf hkp hnn
        have hk9 : k = 96 := by omega
        subst hk9
        have hk := hK hh _ _ (md_of hm) ⟨⟨rfl, fun i i1 i2 => hf i i1 i2, fun _ _ _ => rfl, fun _ _ _ => rfl, ⟨Int.le_refl 0, by show (0 : Int) ≤ 1000; decide⟩, rfl⟩, rfl⟩ hkp hnn
        refine hV (fun p => p == 61) 80 _ _ _ _ _ _ ?_
        simp only [ae_aload_n, ae_bipush, ae_getfield, ae_goto, ae_iastore, ae_iconst, ae_if_icmp, ae_iinc, ae_iload_n, ae_return_, dX4_init_55, dX4_init_56, dX4_init_58, dX4_init_61, dX4_init_62, dX4_init_65, dX4_init_66, dX4_init_67, dX4_init_68, dX4_init_71, dX4_init_74, tbX4i_g13, ca_X4_init_1, ab_wp0, ab_wps, ab_stp, ab_g, ab_st, ab_k2, ab_cl, ab_pop, ab_sz, ab_2, ab_ret, ab_f4, ab_tg, ab_I, ab_II, ab_A, ab_Rf, ab_VR, ab_IR, ab_VIR, ab_1, ab_LL, ab_DD, ab_ob, ab_pr, ab_qr, ab_ln, ab_so, ab_vI, ab_vA, ab_vD, ab_vL, ab_v2, ab_c, ab_fit, ab_rv, ab_tsw, ab_lsw, ab_up_eq, Fin.isValue, ab_f0, ab_f1, ab_f2, ab_f3, List.getElem?_cons_zero, List.getElem?_cons_succ, List.set_cons_zero, List.set_cons_succ, List.length_cons, List.length_nil, List.size_toArray, List.head?_cons, List.tail_cons, Option.map_some, cond_true, cond_false, true_and, and_true, false_and, and_false, not_true_eq_false, not_false_eq_true, true_imp_iff, false_imp_iff, if_true, if_false, ite_true, ite_false, ↓reduceIte, Nat.reduceAdd, Nat.reduceEqDiff, Nat.reduceLeDiff, Nat.reduceLT, Nat.reduceBEq, Nat.reduceBNe, Int.reduceAdd, Int.reduceNeg, Int.reduceSub, Int.reduceLE, Int.reduceLT, Int.reduceToNat, Int.reduceEq, Int.reduceMul, Int.cast_ofNat_Int, Nat.zero_add, Nat.add_zero, Nat.le_refl, eq_self, ne_eq, reduceCtorEq, or_true, true_or, or_false, false_or, Bool.or_true, Bool.or_false, Bool.true_or, Bool.false_or, Nat.zero_le, Int.le_refl, Int.ofNat_zero, Int.ofNat_one, Bool.false_eq_true]
        simp only [ab_in]
        (repeat' (first | intro _ | refine And.intro ?_ ?_)) <;> (first | exact hk | contradiction | omega | (exfalso; omega))
      | succ n ih =>
        intro k hh b0 b1 b2 b3 b4 b5 f e1 e2 hm hf hkp hnn
        obtain ⟨d, d0, d1, d2, d3, d4, d5, -⟩ := id hm
        dsimp only [mdC, MV.thr, MV.sl, MV.fst9, MV.fat, MV.frt, MV.ftb, MV.fnm, MV.fmk] at d d1
        have hb1 : h b1 = none := by
          rcases hnn b1 (by simp [mdL]) with e | e
          · rw [e, d] at d1; cases d1
          · exact e
        have ih' := ih (k + 1) (ab_up hh b1 (.inr (.inl (0, 96, ab_uf f k (-1))))) b0 b1 b2 b3 b4 b5 (ab_uf f k (-1)) (by omega) (by omega) (md_s1 hm (ab_uf f k (-1))) (fun i i1 i2 => by
          unfold ab_uf
          by_cases hi : i = k
          · rw [if_pos hi]
          · rw [if_neg hi]; exact hf i i1 (by omega)) (fun b w1 w2 => by
          rw [ab_up_ap, if_neg (fun z => w1 (by rw [z]; exact hb1))]
          exact hkp b w1 w2) hnn
        have l61 : V 61 [some (.inr (.inl (some a))), some (.inl k)] [] hh 6 1622 := by
          refine hV (fun p => p == 55) 80 _ _ _ _ _ _ ?_
          simp only [d, d1, ae_aload_n, ae_getfield, ae_goto, ae_iastore, ae_iconst, ae_iinc, ae_iload_n, dX4_init_61, dX4_init_62, dX4_init_65, dX4_init_66, dX4_init_67, dX4_init_68, dX4_init_71, tbX4i_g13, ca_X4_init_1, ab_wp0, ab_wps, ab_stp, ab_g, ab_st, ab_k2, ab_cl, ab_pop, ab_sz, ab_2, ab_ret, ab_f4, ab_tg, ab_I, ab_II, ab_A, ab_Rf, ab_VR, ab_IR, ab_VIR, ab_1, ab_LL, ab_DD, ab_ob, ab_pr, ab_qr, ab_ln, ab_so, ab_vI, ab_vA, ab_vD, ab_vL, ab_v2, ab_c, ab_fit, ab_rv, ab_tsw, ab_lsw, ab_up_eq, Fin.isValue, ab_f0, ab_f1, ab_f2, ab_f3, List.getElem?_cons_zero, List.getElem?_cons_succ, List.set_cons_zero, List.set_cons_succ, List.length_cons, List.length_nil, List.size_toArray, List.head?_cons, List.tail_cons, Option.map_some, cond_true, cond_false, true_and, and_true, false_and, and_false, not_true_eq_false, not_false_eq_true, true_imp_iff, false_imp_iff, if_true, if_false, ite_true, ite_false, ↓reduceIte, Nat.reduceAdd, Nat.reduceEqDiff, Nat.reduceLeDiff, Nat.reduceLT, Nat.reduceBEq, Nat.reduceBNe, Int.reduceAdd, Int.reduceNeg, Int.reduceSub, Int.reduceLE, Int.reduceLT, Int.reduceToNat, Int.reduceEq, Int.reduceMul, Int.cast_ofNat_Int, Nat.zero_add, Nat.add_zero, Nat.le_refl, eq_self, ne_eq, reduceCtorEq, or_true, true_or, or_false, false_or, Bool.or_true, Bool.or_false, Bool.true_or, Bool.false_or, Nat.zero_le, Int.le_refl, Int.ofNat_zero, Int.ofNat_one, Bool.false_eq_true]
          (repeat' (first | intro _ | refine And.intro ?_ ?_)) <;> (first | exact ih' | contradiction | omega | (exfalso; omega))
        refine hV (fun p => bif p == 61 then true else p == 74) 80 _ _ _ _ _ _ ?_
        simp only [ae_bipush, ae_if_icmp, ae_iload_n, dX4_init_55, dX4_init_56, dX4_init_58, ca_X4_init_1, ab_wp0, ab_wps, ab_stp, ab_g, ab_st, ab_k2, ab_cl, ab_pop, ab_sz, ab_2, ab_ret, ab_f4, ab_tg, ab_I, ab_II, ab_A, ab_Rf, ab_VR, ab_IR, ab_VIR, ab_1, ab_LL, ab_DD, ab_ob, ab_pr, ab_qr, ab_ln, ab_so, ab_vI, ab_vA, ab_vD, ab_vL, ab_v2, ab_c, ab_fit, ab_rv, ab_tsw, ab_lsw, ab_up_eq, Fin.isValue, ab_f0, ab_f1, ab_f2, ab_f3, List.getElem?_cons_zero, List.getElem?_cons_succ, List.set_cons_zero, List.set_cons_succ, List.length_cons, List.length_nil, List.size_toArray, List.head?_cons, List.tail_cons, Option.map_some, cond_true, cond_false, true_and, and_true, false_and, and_false, not_true_eq_false, not_false_eq_true, true_imp_iff, false_imp_iff, if_true, if_false, ite_true, ite_false, ↓reduceIte, Nat.reduceAdd, Nat.reduceEqDiff, Nat.reduceLeDiff, Nat.reduceLT, Nat.reduceBEq, Nat.reduceBNe, Int.reduceAdd, Int.reduceNeg, Int.reduceSub, Int.reduceLE, Int.reduceLT, Int.reduceToNat, Int.reduceEq, Int.reduceMul, Int.cast_ofNat_Int, Nat.zero_add, Nat.add_zero, Nat.le_refl, eq_self, ne_eq, reduceCtorEq, or_true, true_or, or_false, false_or, Bool.or_true, Bool.or_false, Bool.true_or, Bool.false_or, Nat.zero_le, Int.le_refl, Int.ofNat_zero, Int.ofNat_one, Bool.false_eq_true]
        simp only [ab_in]
        (repeat' (first | intro _ | refine And.intro ?_ ?_)) <;> (first | exact l61 | contradiction | omega | (exfalso; omega))
    refine hV (fun p => p == 10) 80 _ _ _ _ _ _ ?_
    simp only [c, ab_Oi, ab_up_ap, ab_at_i, ab_at_b, ae_aload_n, ae_invokespecial, ae_newarray, ae_sipush, dX4_init_0, dX4_init_1, dX4_init_4, dX4_init_5, dX4_init_8, ca_X4_init_1, ab_wp0, ab_wps, ab_stp, ab_g, ab_st, ab_k2, ab_cl, ab_pop, ab_sz, ab_2, ab_ret, ab_f4, ab_tg, ab_I, ab_II, ab_A, ab_Rf, ab_VR, ab_IR, ab_VIR, ab_1, ab_LL, ab_DD, ab_ob, ab_pr, ab_qr, ab_ln, ab_so, ab_vI, ab_vA, ab_vD, ab_vL, ab_v2, ab_c, ab_fit, ab_rv, ab_tsw, ab_lsw, ab_up_eq, Fin.isValue, ab_f0, ab_f1, ab_f2, ab_f3, List.getElem?_cons_zero, List.getElem?_cons_succ, List.set_cons_zero, List.set_cons_succ, List.length_cons, List.length_nil, List.size_toArray, List.head?_cons, List.tail_cons, Option.map_some, cond_true, cond_false, true_and, and_true, false_and, and_false, not_true_eq_false, not_false_eq_true, true_imp_iff, false_imp_iff, if_true, if_false, ite_true, ite_false, ↓reduceIte, Nat.reduceAdd, Nat.reduceEqDiff, Nat.reduceLeDiff, Nat.reduceLT, Nat.reduceBEq, Nat.reduceBNe, Int.reduceAdd, Int.reduceNeg, Int.reduceSub, Int.reduceLE, Int.reduceLT, Int.reduceToNat, Int.reduceEq, Int.reduceMul, Int.cast_ofNat_Int, Nat.zero_add, Nat.add_zero, Nat.le_refl, eq_self, ne_eq, reduceCtorEq, or_true, true_or, or_false, false_or, Bool.or_true, Bool.or_false, Bool.true_or, Bool.false_or, Nat.zero_le, Int.le_refl, Int.ofNat_zero, Int.ofNat_one, Bool.false_eq_true]
    refine ⟨by decide, fun n0 f0 _ => ?_⟩
    have hn0 := f0
    have e0 := ab_none_ne c hn0
    refine hV (fun p => p == 18) 80 _ _ _ _ _ _ ?_
    simp only [c, ab_Oi, ab_up_ap, ab_at_i, ab_at_b, e0, f0, ae_aload_n, ae_bipush, ae_newarray, ae_putfield, dX4_init_10, dX4_init_13, dX4_init_14, dX4_init_16, tbX4i_p9, ca_X4_init_1, ab_wp0, ab_wps, ab_stp, ab_g, ab_st, ab_k2, ab_cl, ab_pop, ab_sz, ab_2, ab_ret, ab_f4, ab_tg, ab_I, ab_II, ab_A, ab_Rf, ab_VR, ab_IR, ab_VIR, ab_1, ab_LL, ab_DD, ab_ob, ab_pr, ab_qr, ab_ln, ab_so, ab_vI, ab_vA, ab_vD, ab_vL, ab_v2, ab_c, ab_fit, ab_rv, ab_tsw, ab_lsw, ab_up_eq, Fin.isValue, ab_f0, ab_f1, ab_f2, ab_f3, List.getElem?_cons_zero, List.getElem?_cons_succ, List.set_cons_zero, List.set_cons_succ, List.length_cons, List.length_nil, List.size_toArray, List.head?_cons, List.tail_cons, Option.map_some, cond_true, cond_false, true_and, and_true, false_and, and_false, not_true_eq_false, not_false_eq_true, true_imp_iff, false_imp_iff, if_true, if_false, ite_true, ite_false, ↓reduceIte, Nat.reduceAdd, Nat.reduceEqDiff, Nat.reduceLeDiff, Nat.reduceLT, Nat.reduceBEq, Nat.reduceBNe, Int.reduceAdd, Int.reduceNeg, Int.reduceSub, Int.reduceLE, Int.reduceLT, Int.reduceToNat, Int.reduceEq, Int.reduceMul, Int.cast_ofNat_Int, Nat.zero_add, Nat.add_zero, Nat.le_refl, eq_self, ne_eq, reduceCtorEq, or_true, true_or, or_false, false_or, Bool.or_true, Bool.or_false, Bool.true_or, Bool.false_or, Nat.zero_le, Int.le_refl, Int.ofNat_zero, Int.ofNat_one, Bool.false_eq_true]
    refine ⟨by decide, fun n1 f1 _ => ?_⟩
    simp only [ab_ite_nn] at f1
    have hn1 : h n1 = none := by simp only [f1]
    have e1 := ab_none_ne c hn1
    refine hV (fun p => p == 26) 80 _ _ _ _ _ _ ?_
    simp only [c, ab_Oi, ab_up_ap, ab_at_i, ab_at_b, e0, f0, e1, f1, ae_aload_n, ae_bipush, ae_newarray, ae_putfield, dX4_init_18, dX4_init_21, dX4_init_22, dX4_init_24, tbX4i_p13, ca_X4_init_1, ab_wp0, ab_wps, ab_stp, ab_g, ab_st, ab_k2, ab_cl, ab_pop, ab_sz, ab_2, ab_ret, ab_f4, ab_tg, ab_I, ab_II, ab_A, ab_Rf, ab_VR, ab_IR, ab_VIR, ab_1, ab_LL, ab_DD, ab_ob, ab_pr, ab_qr, ab_ln, ab_so, ab_vI, ab_vA, ab_vD, ab_vL, ab_v2, ab_c, ab_fit, ab_rv, ab_tsw, ab_lsw, ab_up_eq, Fin.isValue, ab_f0, ab_f1, ab_f2, ab_f3, List.getElem?_cons_zero, List.getElem?_cons_succ, List.set_cons_zero, List.set_cons_succ, List.length_cons, List.length_nil, List.size_toArray, List.head?_cons, List.tail_cons, Option.map_some, cond_true, cond_false, true_and, and_true, false_and, and_false, not_true_eq_false, not_false_eq_true, true_imp_iff, false_imp_iff, if_true, if_false, ite_true, ite_false, ↓reduceIte, Nat.reduceAdd, Nat.reduceEqDiff, Nat.reduceLeDiff, Nat.reduceLT, Nat.reduceBEq, Nat.reduceBNe, Int.reduceAdd, Int.reduceNeg, Int.reduceSub, Int.reduceLE, Int.reduceLT, Int.reduceToNat, Int.reduceEq, Int.reduceMul, Int.cast_ofNat_Int, Nat.zero_add, Nat.add_zero, Nat.le_refl, eq_self, ne_eq, reduceCtorEq, or_true, true_or, or_false, false_or, Bool.or_true, Bool.or_false, Bool.true_or, Bool.false_or, Nat.zero_le, Int.le_refl, Int.ofNat_zero, Int.ofNat_one, Bool.false_eq_true]
    refine ⟨by decide, fun n2 f2 _ => ?_⟩
    simp only [ab_ite_nn] at f2
    have hn2 : h n2 = none := by simp only [f2]
    have e2 := ab_none_ne c hn2
    refine hV (fun p => p == 34) 80 _ _ _ _ _ _ ?_
    simp only [c, ab_Oi, ab_up_ap, ab_at_i, ab_at_b, e0, f0, e1, f1, e2, f2, ae_aload_n, ae_bipush, ae_newarray, ae_putfield, dX4_init_26, dX4_init_29, dX4_init_30, dX4_init_32, tbX4i_p16, ca_X4_init_1, ab_wp0, ab_wps, ab_stp, ab_g, ab_st, ab_k2, ab_cl, ab_pop, ab_sz, ab_2, ab_ret, ab_f4, ab_tg, ab_I, ab_II, ab_A, ab_Rf, ab_VR, ab_IR, ab_VIR, ab_1, ab_LL, ab_DD, ab_ob, ab_pr, ab_qr, ab_ln, ab_so, ab_vI, ab_vA, ab_vD, ab_vL, ab_v2, ab_c, ab_fit, ab_rv, ab_tsw, ab_lsw, ab_up_eq, Fin.isValue, ab_f0, ab_f1, ab_f2, ab_f3, List.getElem?_cons_zero, List.getElem?_cons_succ, List.set_cons_zero, List.set_cons_succ, List.length_cons, List.length_nil, List.size_toArray, List.head?_cons, List.tail_cons, Option.map_some, cond_true, cond_false, true_and, and_true, false_and, and_false, not_true_eq_false, not_false_eq_true, true_imp_iff, false_imp_iff, if_true, if_false, ite_true, ite_false, ↓reduceIte, Nat.reduceAdd, Nat.reduceEqDiff, Nat.reduceLeDiff, Nat.reduceLT, Nat.reduceBEq, Nat.reduceBNe, Int.reduceAdd, Int.reduceNeg, Int.reduceSub, Int.reduceLE, Int.reduceLT, Int.reduceToNat, Int.reduceEq, Int.reduceMul, Int.cast_ofNat_Int, Nat.zero_add, Nat.add_zero, Nat.le_refl, eq_self, ne_eq, reduceCtorEq, or_true, true_or, or_false, false_or, Bool.or_true, Bool.or_false, Bool.true_or, Bool.false_or, Nat.zero_le, Int.le_refl, Int.ofNat_zero, Int.ofNat_one, Bool.false_eq_true]
    refine ⟨by decide, fun n3 f3 _ => ?_⟩
    simp only [ab_ite_nn] at f3
    have hn3 : h n3 = none := by simp only [f3]
    have e3 := ab_none_ne c hn3
    refine hV (fun p => p == 41) 80 _ _ _ _ _ _ ?_
    simp only [c, ab_Oi, ab_up_ap, ab_at_i, ab_at_b, e0, f0, e1, f1, e2, f2, e3, f3, ae_aload_n, ae_iconst, ae_newarray, ae_putfield, dX4_init_34, dX4_init_37, dX4_init_38, dX4_init_39, tbX4i_p19, ca_X4_init_1, ab_wp0, ab_wps, ab_stp, ab_g, ab_st, ab_k2, ab_cl, ab_pop, ab_sz, ab_2, ab_ret, ab_f4, ab_tg, ab_I, ab_II, ab_A, ab_Rf, ab_VR, ab_IR, ab_VIR, ab_1, ab_LL, ab_DD, ab_ob, ab_pr, ab_qr, ab_ln, ab_so, ab_vI, ab_vA, ab_vD, ab_vL, ab_v2, ab_c, ab_fit, ab_rv, ab_tsw, ab_lsw, ab_up_eq, Fin.isValue, ab_f0, ab_f1, ab_f2, ab_f3, List.getElem?_cons_zero, List.getElem?_cons_succ, List.set_cons_zero, List.set_cons_succ, List.length_cons, List.length_nil, List.size_toArray, List.head?_cons, List.tail_cons, Option.map_some, cond_true, cond_false, true_and, and_true, false_and, and_false, not_true_eq_false, not_false_eq_true, true_imp_iff, false_imp_iff, if_true, if_false, ite_true, ite_false, ↓reduceIte, Nat.reduceAdd, Nat.reduceEqDiff, Nat.reduceLeDiff, Nat.reduceLT, Nat.reduceBEq, Nat.reduceBNe, Int.reduceAdd, Int.reduceNeg, Int.reduceSub, Int.reduceLE, Int.reduceLT, Int.reduceToNat, Int.reduceEq, Int.reduceMul, Int.cast_ofNat_Int, Nat.zero_add, Nat.add_zero, Nat.le_refl, eq_self, ne_eq, reduceCtorEq, or_true, true_or, or_false, false_or, Bool.or_true, Bool.or_false, Bool.true_or, Bool.false_or, Nat.zero_le, Int.le_refl, Int.ofNat_zero, Int.ofNat_one, Bool.false_eq_true]
    refine ⟨by decide, fun n4 f4 _ => ?_⟩
    simp only [ab_ite_nn] at f4
    have hn4 : h n4 = none := by simp only [f4]
    have e4 := ab_none_ne c hn4
    refine hV (fun p => p == 50) 80 _ _ _ _ _ _ ?_
    simp only [c, ab_Oi, ab_up_ap, ab_at_i, ab_at_b, e0, f0, e1, f1, e2, f2, e3, f3, e4, f4, ae_aload_n, ae_newarray, ae_putfield, ae_sipush, dX4_init_41, dX4_init_44, dX4_init_45, dX4_init_48, tbX4i_p22, ca_X4_init_1, ab_wp0, ab_wps, ab_stp, ab_g, ab_st, ab_k2, ab_cl, ab_pop, ab_sz, ab_2, ab_ret, ab_f4, ab_tg, ab_I, ab_II, ab_A, ab_Rf, ab_VR, ab_IR, ab_VIR, ab_1, ab_LL, ab_DD, ab_ob, ab_pr, ab_qr, ab_ln, ab_so, ab_vI, ab_vA, ab_vD, ab_vL, ab_v2, ab_c, ab_fit, ab_rv, ab_tsw, ab_lsw, ab_up_eq, Fin.isValue, ab_f0, ab_f1, ab_f2, ab_f3, List.getElem?_cons_zero, List.getElem?_cons_succ, List.set_cons_zero, List.set_cons_succ, List.length_cons, List.length_nil, List.size_toArray, List.head?_cons, List.tail_cons, Option.map_some, cond_true, cond_false, true_and, and_true, false_and, and_false, not_true_eq_false, not_false_eq_true, true_imp_iff, false_imp_iff, if_true, if_false, ite_true, ite_false, ↓reduceIte, Nat.reduceAdd, Nat.reduceEqDiff, Nat.reduceLeDiff, Nat.reduceLT, Nat.reduceBEq, Nat.reduceBNe, Int.reduceAdd, Int.reduceNeg, Int.reduceSub, Int.reduceLE, Int.reduceLT, Int.reduceToNat, Int.reduceEq, Int.reduceMul, Int.cast_ofNat_Int, Nat.zero_add, Nat.add_zero, Nat.le_refl, eq_self, ne_eq, reduceCtorEq, or_true, true_or, or_false, false_or, Bool.or_true, Bool.or_false, Bool.true_or, Bool.false_or, Nat.zero_le, Int.le_refl, Int.ofNat_zero, Int.ofNat_one, Bool.false_eq_true]
    refine ⟨by decide, fun n5 f5 _ => ?_⟩
    simp only [ab_ite_nn] at f5
    have hn5 : h n5 = none := by simp only [f5]
    have e5 := ab_none_ne c hn5
    refine hV (fun p => p == 55) 80 _ _ _ _ _ _ ?_
    simp only [c, ab_up_ap, e0, f0, e1, f1, e2, f2, e3, f3, e4, f4, e5, f5, ae_iconst, ae_istore_n, ae_putfield, dX4_init_50, dX4_init_53, dX4_init_54, tbX4i_p25, ca_X4_init_1, ab_wp0, ab_wps, ab_stp, ab_g, ab_st, ab_k2, ab_cl, ab_pop, ab_sz, ab_2, ab_ret, ab_f4, ab_tg, ab_I, ab_II, ab_A, ab_Rf, ab_VR, ab_IR, ab_VIR, ab_1, ab_LL, ab_DD, ab_ob, ab_pr, ab_qr, ab_ln, ab_so, ab_vI, ab_vA, ab_vD, ab_vL, ab_v2, ab_c, ab_fit, ab_rv, ab_tsw, ab_lsw, ab_up_eq, Fin.isValue, ab_f0, ab_f1, ab_f2, ab_f3, List.getElem?_cons_zero, List.getElem?_cons_succ, List.set_cons_zero, List.set_cons_succ, List.length_cons, List.length_nil, List.size_toArray, List.head?_cons, List.tail_cons, Option.map_some, cond_true, cond_false, true_and, and_true, false_and, and_false, not_true_eq_false, not_false_eq_true, true_imp_iff, false_imp_iff, if_true, if_false, ite_true, ite_false, ↓reduceIte, Nat.reduceAdd, Nat.reduceEqDiff, Nat.reduceLeDiff, Nat.reduceLT, Nat.reduceBEq, Nat.reduceBNe, Int.reduceAdd, Int.reduceNeg, Int.reduceSub, Int.reduceLE, Int.reduceLT, Int.reduceToNat, Int.reduceEq, Int.reduceMul, Int.cast_ofNat_Int, Nat.zero_add, Nat.add_zero, Nat.le_refl, eq_self, ne_eq, reduceCtorEq, or_true, true_or, or_false, false_or, Bool.or_true, Bool.or_false, Bool.true_or, Bool.false_or, Nat.zero_le, Int.le_refl, Int.ofNat_zero, Int.ofNat_one, Bool.false_eq_true]
    refine loop 96 0 _ n0 n1 n2 n3 n4 n5 (fun _ => 0) (by omega) (by omega) ⟨?_, ?_, ?_, ?_, ?_, ?_, ?_, ?_⟩ (fun i i1 i2 => by omega) (fun b w1 w2 => ?_) (fun b hb => ?_)
    any_goals (dsimp only [mdC, MV.thr, MV.sl, MV.fst9, MV.fat, MV.frt, MV.ftb, MV.fnm, MV.fmk]; simp only [ab_up_ap, e0, e1, e2, e3, e4, e5, f1, f2, f3, f4, f5, if_true, if_false]; done)
    · intro z
      have z' : n1 = n2 := z
      rw [z'] at f2
      simp at f2
    · have q0 : ¬ b = n0 := fun z => w1 (by rw [z]; exact hn0)
      have q1 : ¬ b = n1 := fun z => w1 (by rw [z]; exact hn1)
      have q2 : ¬ b = n2 := fun z => w1 (by rw [z]; exact hn2)
      have q3 : ¬ b = n3 := fun z => w1 (by rw [z]; exact hn3)
      have q4 : ¬ b = n4 := fun z => w1 (by rw [z]; exact hn4)
      have q5 : ¬ b = n5 := fun z => w1 (by rw [z]; exact hn5)
      have q6 : ¬ b = a := w2
      simp only [ab_up_ap, q0, q1, q2, q3, q4, q5, q6, if_false]
    · simp only [mdL, List.mem_cons, List.not_mem_nil, or_false] at hb
      rcases hb with rfl | rfl | rfl | rfl | rfl | rfl | rfl
      · exact Or.inl rfl
      · exact Or.inr hn0
      · exact Or.inr hn1
      · exact Or.inr hn2
      · exact Or.inr hn3
      · exact Or.inr hn4
      · exact Or.inr hn5
  · exact hT.elim
set_option maxRecDepth 100000 in
theorem con_X4_init (l : Launch) (D : va_G) (ty : Nat → ClassId) (base : Nat) : ab_Con l D vwCl ty lw_ts base lw_wd yX4_init cX4_init 2 none 1 20 6 1622 Tr_X4_init :=
  ab_con_of (own := RX4) (rt := 0) (tb := tbX4i) (ini := true) (ca := ca_X4_init) (by decide +kernel) rfl (fun _ => rfl) rfl lw_wd_ok wtbX4i lw_ar cm_X4_init
    (fun p e R s m args below meth c K hcx => by
      obtain ⟨hx, hb, hml, hown, hF, rfl⟩ := hcx
      exact ab_lk_all (ab_all_c (ab_tc_O hx hb hml hown lw_wd_ok hF (lw_wi (by decide +kernel) (by decide +kernel)) (lw_wi (by decide +kernel) (by decide +kernel)) (lw_wi (by decide +kernel) (by decide +kernel)) (by decide) (by decide)) (ab_all_n)))
    (by intro as h K ht; unfold Tr_X4_init at ht; split at ht <;> first | exact ht.elim | exact Nat.le_of_ble_eq_true rfl) (sem_X4_init base)
noncomputable def Tr_X4_best : ATr := fun as h K => match as with
  | [.inr (.inl (some a))] => ab_so (ab_md h a) fun P => (bareV P.2 ∧ P.2.fnm 0 = 0 ∧ (True)) ∧ (True → ∀ h' v', ab_md h' a = some (P.1, v') → v'.thr = 0 → ab_kp h h' (mdL a P.1) → K (some (.inl (gF.1))) h')
  | _ => False
theorem mo_X4_best : ab_mo Tr_X4_best := by
  intro as h K K' hk ht
  unfold Tr_X4_best at ht ⊢
  split at ht
  · exact ab_so_mo (fun P q => ⟨q.1, fun e h' v' e1 e2 e3 => hk _ _ (q.2 e h' v' e1 e2 e3)⟩) ht
  · exact ht.elim
def ca_X4_best : Nat → Option ACS := ab_lk [(158, (0, 4, 2, 0, 0, Tr_X4_allIn)), (66, (0, 4, 4, 0, 0, Tr_X4_isFree)), (161, (0, 4, 3, 0, 0, Tr_X4_with))]
theorem ca_X4_best_158 : ca_X4_best 158 = some (0, 4, 2, 0, 0, Tr_X4_allIn) := rfl
theorem ca_X4_best_66 : ca_X4_best 66 = some (0, 4, 4, 0, 0, Tr_X4_isFree) := rfl
theorem ca_X4_best_161 : ca_X4_best 161 = some (0, 4, 3, 0, 0, Tr_X4_with) := rfl
theorem cm_X4_best : ∀ i q, ca_X4_best i = some q → ab_moq i q := ab_lk_all (ab_all_c mo_X4_allIn (ab_all_c mo_X4_isFree (ab_all_c mo_X4_with (ab_all_n))))
set_option maxRecDepth 100000 in
set_option maxHeartbeats 4000000 in
theorem sem_X4_best (base : Nat) : ab_Sem tbX4 lw_ts base cX4_best ca_X4_best 1 6 0 0 (fun as => ab_en as 6) Tr_X4_best := by
  intro as h K hT V hV
  unfold Tr_X4_best at hT
  split at hT
  · rename_i a
    obtain ⟨⟨⟨b0, b1, b2, b3, b4, b5⟩, th, sl, f0, f1, f2, f3, f4, f5⟩, hP, ⟨hb, hs⟩, hK⟩ := ab_so_el hT
    obtain ⟨g0, g1, g2, g3, g4, g5⟩ := id hb
    dsimp only [MV.thr, MV.sl, MV.fst9, MV.fat, MV.frt, MV.ftb, MV.fnm, MV.fmk] at g0 g1 g2 g3 g4 g5 hK hs
    subst g0
    have hm := md_el hP
    obtain ⟨c, c0, c1, c2, c3, c4, c5, -⟩ := id hm
    dsimp only [mdC, MV.thr, MV.sl, MV.fst9, MV.fat, MV.frt, MV.ftb, MV.fnm, MV.fmk] at c c0 c1 c2 c3 c4 c5
    show V 0 [some (.inr (.inl (some a))), none, none, none, none, none] [] h 0 0
    obtain ⟨g6, hs⟩ := hs
    have hK0 := hK
    have body : ∀ h1, ab_md h1 a = some ((b0, b1, b2, b3, b4, b5), (0, 0, f0, f1, f2, f3, f4, f5)) → ab_fr h h1 (mdL a (b0, b1, b2, b3, b4, b5)) → V 5 [some (.inr (.inl (some a))), none, none, none, none, none] [] h1 0 0 := by
      intro h1 hP1 fr1
      have hm1 := md_el hP1
      have hb1 : bareV (0, 0, f0, f1, f2, f3, f4, f5) := hb
      obtain ⟨c', c0', c1', c2', c3', c4', c5', -⟩ := id hm1
      dsimp only [mdC, MV.thr, MV.sl, MV.fst9, MV.fat, MV.frt, MV.ftb, MV.fnm, MV.fmk] at c' c0' c1' c2' c3' c4' c5'
      have y0 : True → K (some (.inl (gF.1))) h1 := fun e => hK0 e h1 _ hP1 rfl (ab_kp.of_fr fr1)
      have hw : ∀ r x, 0 ≤ wF r x ∧ wF r x ≤ 1728 := wF_r
      have inner : ∀ (n : Nat) (row x : Int) (G : Int × Int) (u5 : Option AV), (0 ≤ row ∧ row < 8) → x + n = 9 → 0 ≤ x → (0 ≤ G.2 ∧ G.2 ≤ 2000 ∧ -1 ≤ G.1 ∧ G.1 ≤ 800) → (∀ u5, V 83 [some (.inr (.inl (some a))), some (.inl ((gL row n x G).1)), some (.inl ((gL row n x G).2)), some (.inl row), some (.inl 9), u5] [] h1 0 0) → V 25 [some (.inr (.inl (some a))), some (.inl (G.1)), some (.inl (G.2)), some (.inl row), some (.inl x), u5] [] h1 0 0 := by
        intro n
        induction n with
        | zero =>
          intro row x G u5 e0 e1 e2 e3 hn
          have hx : x = 9 := by omega
          subst hx
          have hn' := hn u5
          simp only [gL] at hn'
          refine hV (fun p => bif p == 83 then true else p == 34) 80 _ _ _ _ _ _ ?_
          simp only [ae_bipush, ae_iadd, ae_iconst, ae_if_icmp, ae_iload, dX4_best_25, dX4_best_27, dX4_best_28, dX4_best_29, dX4_best_31, ca_X4_best_158, ca_X4_best_66, ca_X4_best_161, ab_wp0, ab_wps, ab_stp, ab_g, ab_st, ab_k2, ab_cl, ab_pop, ab_sz, ab_2, ab_ret, ab_f4, ab_tg, ab_I, ab_II, ab_A, ab_Rf, ab_VR, ab_IR, ab_VIR, ab_1, ab_LL, ab_DD, ab_ob, ab_pr, ab_qr, ab_ln, ab_so, ab_vI, ab_vA, ab_vD, ab_vL, ab_v2, ab_c, ab_fit, ab_rv, ab_tsw, ab_lsw, ab_up_eq, Fin.isValue, ab_f0, ab_f1, ab_f2, ab_f3, List.getElem?_cons_zero, List.getElem?_cons_succ, List.set_cons_zero, List.set_cons_succ, List.length_cons, List.length_nil, List.size_toArray, List.head?_cons, List.tail_cons, Option.map_some, cond_true, cond_false, true_and, and_true, false_and, and_false, not_true_eq_false, not_false_eq_true, true_imp_iff, false_imp_iff, if_true, if_false, ite_true, ite_false, ↓reduceIte, Nat.reduceAdd, Nat.reduceEqDiff, Nat.reduceLeDiff, Nat.reduceLT, Nat.reduceBEq, Nat.reduceBNe, Int.reduceAdd, Int.reduceNeg, Int.reduceSub, Int.reduceLE, Int.reduceLT, Int.reduceToNat, Int.reduceEq, Int.reduceMul, Int.cast_ofNat_Int, Nat.zero_add, Nat.add_zero, Nat.le_refl, eq_self, ne_eq, reduceCtorEq, or_true, true_or, or_false, false_or, Bool.or_true, Bool.or_false, Bool.true_or, Bool.false_or, Nat.zero_le, Int.le_refl, Int.ofNat_zero, Int.ofNat_one, Bool.false_eq_true]
          simp only [ab_in]
          (repeat' (first | intro _ | refine And.intro ?_ ?_)) <;> (first | exact hn' | contradiction | omega | (exfalso; omega))
        | succ n ih =>
          intro row x G u5 e0 e1 e2 e3 hn
          have hwx := hw row x
          have hr : 0 ≤ (if wF row x < G.2 then (100 * row + x, wF row x) else G).2 ∧ (if wF row x < G.2 then (100 * row + x, wF row x) else G).2 ≤ 2000 ∧ -1 ≤ (if wF row x < G.2 then (100 * row + x, wF row x) else G).1 ∧ (if wF row x < G.2 then (100 * row + x, wF row x) else G).1 ≤ 800 := by
            split
            · refine ⟨by omega, by omega, ?_, ?_⟩ <;> dsimp only <;> omega
            · exact e3
          have ih' := ih row (x + 1) _ (some (.inl (wF row x))) e0 (by omega) (by omega) hr (fun u5 => by have := hn u5; simp only [gL] at this; exact this)
          have l34 : V 34 [some (.inr (.inl (some a))), some (.inl (G.1)), some (.inl (G.2)), some (.inl row), some (.inl x), u5] [] h1 0 0 := by
            by_cases hlt : wF row x < G.2
            · rw [if_pos hlt] at ih'
              dsimp only at ih'
              refine hV (fun p => bif p == 25 then true else p == 45) 80 _ _ _ _ _ _ ?_
              simp only [c', hP1, hb1, bI_in, bI_0, bI_1, bI_t, bI_f, bI_01, Tr_X4_isFree, Tr_X4_with, ae_aload_n, ae_bipush, ae_goto, ae_iadd, ae_iconst, ae_ifCond, ae_if_icmp, ae_iinc, ae_iload, ae_iload_n, ae_imul, ae_invokevirtual, ae_istore, ae_istore_n, dX4_best_34, dX4_best_35, dX4_best_36, dX4_best_38, dX4_best_39, dX4_best_42, dX4_best_45, dX4_best_48, dX4_best_49, dX4_best_50, dX4_best_52, dX4_best_55, dX4_best_57, dX4_best_59, dX4_best_60, dX4_best_63, dX4_best_66, dX4_best_68, dX4_best_69, dX4_best_70, dX4_best_72, dX4_best_73, dX4_best_74, dX4_best_76, dX4_best_77, dX4_best_80, ca_X4_best_158, ca_X4_best_66, ca_X4_best_161, ab_wp0, ab_wps, ab_stp, ab_g, ab_st, ab_k2, ab_cl, ab_pop, ab_sz, ab_2, ab_ret, ab_f4, ab_tg, ab_I, ab_II, ab_A, ab_Rf, ab_VR, ab_IR, ab_VIR, ab_1, ab_LL, ab_DD, ab_ob, ab_pr, ab_qr, ab_ln, ab_so, ab_vI, ab_vA, ab_vD, ab_vL, ab_v2, ab_c, ab_fit, ab_rv, ab_tsw, ab_lsw, ab_up_eq, Fin.isValue, ab_f0, ab_f1, ab_f2, ab_f3, List.getElem?_cons_zero, List.getElem?_cons_succ, List.set_cons_zero, List.set_cons_succ, List.length_cons, List.length_nil, List.size_toArray, List.head?_cons, List.tail_cons, Option.map_some, cond_true, cond_false, true_and, and_true, false_and, and_false, not_true_eq_false, not_false_eq_true, true_imp_iff, false_imp_iff, if_true, if_false, ite_true, ite_false, ↓reduceIte, Nat.reduceAdd, Nat.reduceEqDiff, Nat.reduceLeDiff, Nat.reduceLT, Nat.reduceBEq, Nat.reduceBNe, Int.reduceAdd, Int.reduceNeg, Int.reduceSub, Int.reduceLE, Int.reduceLT, Int.reduceToNat, Int.reduceEq, Int.reduceMul, Int.cast_ofNat_Int, Nat.zero_add, Nat.add_zero, Nat.le_refl, eq_self, ne_eq, reduceCtorEq, or_true, true_or, or_false, false_or, Bool.or_true, Bool.or_false, Bool.true_or, Bool.false_or, Nat.zero_le, Int.le_refl, Int.ofNat_zero, Int.ofNat_one, Bool.false_eq_true]
              simp only [ab_in]
              (repeat' (first | intro _ | refine And.intro ?_ ?_)) <;> (first | exact ih' | contradiction | omega | (exfalso; omega))
            · rw [if_neg hlt] at ih'
              refine hV (fun p => bif p == 25 then true else p == 45) 80 _ _ _ _ _ _ ?_
              simp only [c', hP1, hb1, bI_in, bI_0, bI_1, bI_t, bI_f, bI_01, Tr_X4_isFree, Tr_X4_with, ae_aload_n, ae_bipush, ae_goto, ae_iadd, ae_iconst, ae_ifCond, ae_if_icmp, ae_iinc, ae_iload, ae_iload_n, ae_imul, ae_invokevirtual, ae_istore, ae_istore_n, dX4_best_34, dX4_best_35, dX4_best_36, dX4_best_38, dX4_best_39, dX4_best_42, dX4_best_45, dX4_best_48, dX4_best_49, dX4_best_50, dX4_best_52, dX4_best_55, dX4_best_57, dX4_best_59, dX4_best_60, dX4_best_63, dX4_best_66, dX4_best_68, dX4_best_69, dX4_best_70, dX4_best_72, dX4_best_73, dX4_best_74, dX4_best_76, dX4_best_77, dX4_best_80, ca_X4_best_158, ca_X4_best_66, ca_X4_best_161, ab_wp0, ab_wps, ab_stp, ab_g, ab_st, ab_k2, ab_cl, ab_pop, ab_sz, ab_2, ab_ret, ab_f4, ab_tg, ab_I, ab_II, ab_A, ab_Rf, ab_VR, ab_IR, ab_VIR, ab_1, ab_LL, ab_DD, ab_ob, ab_pr, ab_qr, ab_ln, ab_so, ab_vI, ab_vA, ab_vD, ab_vL, ab_v2, ab_c, ab_fit, ab_rv, ab_tsw, ab_lsw, ab_up_eq, Fin.isValue, ab_f0, ab_f1, ab_f2, ab_f3, List.getElem?_cons_zero, List.getElem?_cons_succ, List.set_cons_zero, List.set_cons_succ, List.length_cons, List.length_nil, List.size_toArray, List.head?_cons, List.tail_cons, Option.map_some, cond_true, cond_false, true_and, and_true, false_and, and_false, not_true_eq_false, not_false_eq_true, true_imp_iff, false_imp_iff, if_true, if_false, ite_true, ite_false, ↓reduceIte, Nat.reduceAdd, Nat.reduceEqDiff, Nat.reduceLeDiff, Nat.reduceLT, Nat.reduceBEq, Nat.reduceBNe, Int.reduceAdd, Int.reduceNeg, Int.reduceSub, Int.reduceLE, Int.reduceLT, Int.reduceToNat, Int.reduceEq, Int.reduceMul, Int.cast_ofNat_Int, Nat.zero_add, Nat.add_zero, Nat.le_refl, eq_self, ne_eq, reduceCtorEq, or_true, true_or, or_false, false_or, Bool.or_true, Bool.or_false, Bool.true_or, Bool.false_or, Nat.zero_le, Int.le_refl, Int.ofNat_zero, Int.ofNat_one, Bool.false_eq_true]
              simp only [ab_in]
              (repeat' (first | intro _ | refine And.intro ?_ ?_)) <;> (first | exact ih' | contradiction | omega | (exfalso; omega))
          refine hV (fun p => bif p == 83 then true else p == 34) 80 _ _ _ _ _ _ ?_
          simp only [ae_bipush, ae_iadd, ae_iconst, ae_if_icmp, ae_iload, dX4_best_25, dX4_best_27, dX4_best_28, dX4_best_29, dX4_best_31, ca_X4_best_158, ca_X4_best_66, ca_X4_best_161, ab_wp0, ab_wps, ab_stp, ab_g, ab_st, ab_k2, ab_cl, ab_pop, ab_sz, ab_2, ab_ret, ab_f4, ab_tg, ab_I, ab_II, ab_A, ab_Rf, ab_VR, ab_IR, ab_VIR, ab_1, ab_LL, ab_DD, ab_ob, ab_pr, ab_qr, ab_ln, ab_so, ab_vI, ab_vA, ab_vD, ab_vL, ab_v2, ab_c, ab_fit, ab_rv, ab_tsw, ab_lsw, ab_up_eq, Fin.isValue, ab_f0, ab_f1, ab_f2, ab_f3, List.getElem?_cons_zero, List.getElem?_cons_succ, List.set_cons_zero, List.set_cons_succ, List.length_cons, List.length_nil, List.size_toArray, List.head?_cons, List.tail_cons, Option.map_some, cond_true, cond_false, true_and, and_true, false_and, and_false, not_true_eq_false, not_false_eq_true, true_imp_iff, false_imp_iff, if_true, if_false, ite_true, ite_false, ↓reduceIte, Nat.reduceAdd, Nat.reduceEqDiff, Nat.reduceLeDiff, Nat.reduceLT, Nat.reduceBEq, Nat.reduceBNe, Int.reduceAdd, Int.reduceNeg, Int.reduceSub, Int.reduceLE, Int.reduceLT, Int.reduceToNat, Int.reduceEq, Int.reduceMul, Int.cast_ofNat_Int, Nat.zero_add, Nat.add_zero, Nat.le_refl, eq_self, ne_eq, reduceCtorEq, or_true, true_or, or_false, false_or, Bool.or_true, Bool.or_false, Bool.true_or, Bool.false_or, Nat.zero_le, Int.le_refl, Int.ofNat_zero, Int.ofNat_one, Bool.false_eq_true]
          simp only [ab_in]
          (repeat' (first | intro _ | refine And.intro ?_ ?_)) <;> (first | exact l34 | contradiction | omega | (exfalso; omega))
      have gLr : ∀ (n : Nat) (row x : Int) (G : Int × Int), (0 ≤ row ∧ row < 8) → x + n = 9 → 0 ≤ x → (0 ≤ G.2 ∧ G.2 ≤ 2000 ∧ -1 ≤ G.1 ∧ G.1 ≤ 800) → (0 ≤ (gL row n x G).2 ∧ (gL row n x G).2 ≤ 2000 ∧ -1 ≤ (gL row n x G).1 ∧ (gL row n x G).1 ≤ 800) := by
        intro n
        induction n with
        | zero => intro row x G _ _ _ h; exact h
        | succ n ih =>
          intro row x G e0 e1 e2 e3
          have hwx := hw row x
          simp only [gL]
          refine ih row (x + 1) _ e0 (by omega) (by omega) ?_
          split
          · refine ⟨by omega, by omega, ?_, ?_⟩ <;> dsimp only <;> omega
          · exact e3
      have outer : ∀ (n : Nat) (y : Int) (G : Int × Int) (u4 u5 : Option AV), y + n = 8 → 0 ≤ y → (0 ≤ G.2 ∧ G.2 ≤ 2000 ∧ -1 ≤ G.1 ∧ G.1 ≤ 800) → K (some (.inl (gM n y G).1)) h1 → V 16 [some (.inr (.inl (some a))), some (.inl (G.1)), some (.inl (G.2)), some (.inl y), u4, u5] [] h1 0 0 := by
        intro n
        induction n with
        | zero =>
          intro y G u4 u5 e1 e2 e3 hK
          simp only [gM] at hK
          refine hV (fun p => p == 22) 80 _ _ _ _ _ _ ?_
          simp only [ae_bipush, ae_if_icmp, ae_iload_n, dX4_best_16, dX4_best_17, dX4_best_19, ca_X4_best_158, ca_X4_best_66, ca_X4_best_161, ab_wp0, ab_wps, ab_stp, ab_g, ab_st, ab_k2, ab_cl, ab_pop, ab_sz, ab_2, ab_ret, ab_f4, ab_tg, ab_I, ab_II, ab_A, ab_Rf, ab_VR, ab_IR, ab_VIR, ab_1, ab_LL, ab_DD, ab_ob, ab_pr, ab_qr, ab_ln, ab_so, ab_vI, ab_vA, ab_vD, ab_vL, ab_v2, ab_c, ab_fit, ab_rv, ab_tsw, ab_lsw, ab_up_eq, Fin.isValue, ab_f0, ab_f1, ab_f2, ab_f3, List.getElem?_cons_zero, List.getElem?_cons_succ, List.set_cons_zero, List.set_cons_succ, List.length_cons, List.length_nil, List.size_toArray, List.head?_cons, List.tail_cons, Option.map_some, cond_true, cond_false, true_and, and_true, false_and, and_false, not_true_eq_false, not_false_eq_true, true_imp_iff, false_imp_iff, if_true, if_false, ite_true, ite_false, ↓reduceIte, Nat.reduceAdd, Nat.reduceEqDiff, Nat.reduceLeDiff, Nat.reduceLT, Nat.reduceBEq, Nat.reduceBNe, Int.reduceAdd, Int.reduceNeg, Int.reduceSub, Int.reduceLE, Int.reduceLT, Int.reduceToNat, Int.reduceEq, Int.reduceMul, Int.cast_ofNat_Int, Nat.zero_add, Nat.add_zero, Nat.le_refl, eq_self, ne_eq, reduceCtorEq, or_true, true_or, or_false, false_or, Bool.or_true, Bool.or_false, Bool.true_or, Bool.false_or, Nat.zero_le, Int.le_refl, Int.ofNat_zero, Int.ofNat_one, Bool.false_eq_true, ae_iload_n, ae_ireturn, dX4_best_89, dX4_best_90, ca_X4_best_158, ca_X4_best_66, ca_X4_best_161, ab_wp0, ab_wps, ab_stp, ab_g, ab_st, ab_k2, ab_cl, ab_pop, ab_sz, ab_2, ab_ret, ab_f4, ab_tg, ab_I, ab_II, ab_A, ab_Rf, ab_VR, ab_IR, ab_VIR, ab_1, ab_LL, ab_DD, ab_ob, ab_pr, ab_qr, ab_ln, ab_so, ab_vI, ab_vA, ab_vD, ab_vL, ab_v2, ab_c, ab_fit, ab_rv, ab_tsw, ab_lsw, ab_up_eq, Fin.isValue, ab_f0, ab_f1, ab_f2, ab_f3, List.getElem?_cons_zero, List.getElem?_cons_succ, List.set_cons_zero, List.set_cons_succ, List.length_cons, List.length_nil, List.size_toArray, List.head?_cons, List.tail_cons, Option.map_some, cond_true, cond_false, true_and, and_true, false_and, and_false, not_true_eq_false, not_false_eq_true, true_imp_iff, false_imp_iff, if_true, if_false, ite_true, ite_false, ↓reduceIte, Nat.reduceAdd, Nat.reduceEqDiff, Nat.reduceLeDiff, Nat.reduceLT, Nat.reduceBEq, Nat.reduceBNe, Int.reduceAdd, Int.reduceNeg, Int.reduceSub, Int.reduceLE, Int.reduceLT, Int.reduceToNat, Int.reduceEq, Int.reduceMul, Int.cast_ofNat_Int, Nat.zero_add, Nat.add_zero, Nat.le_refl, eq_self, ne_eq, reduceCtorEq, or_true, true_or, or_false, false_or, Bool.or_true, Bool.or_false, Bool.true_or, Bool.false_or, Nat.zero_le, Int.le_refl, Int.ofNat_zero, Int.ofNat_one, Bool.false_eq_true]
          simp only [ab_in]
          (repeat' (first | intro _ | refine And.intro ?_ ?_)) <;> (first | exact hK | contradiction | omega | (exfalso; omega))
        | succ n ih =>
          intro y G u4 u5 e1 e2 e3 hK
          simp only [gM] at hK
          have ih' := fun u5 => ih (y + 1) (gL y 9 0 G) (some (.inl 9)) u5 (by omega) (by omega) (gLr 9 y 0 G (by omega) (by omega) (by omega) e3) hK
          have l83 : ∀ u5, V 83 [some (.inr (.inl (some a))), some (.inl ((gL y 9 0 G).1)), some (.inl ((gL y 9 0 G).2)), some (.inl y), some (.inl 9), u5] [] h1 0 0 := by
            intro u5
            have ih2 := ih' u5
            refine hV (fun p => p == 16) 80 _ _ _ _ _ _ ?_
            simp only [ae_goto, ae_iinc, dX4_best_83, dX4_best_86, ca_X4_best_158, ca_X4_best_66, ca_X4_best_161, ab_wp0, ab_wps, ab_stp, ab_g, ab_st, ab_k2, ab_cl, ab_pop, ab_sz, ab_2, ab_ret, ab_f4, ab_tg, ab_I, ab_II, ab_A, ab_Rf, ab_VR, ab_IR, ab_VIR, ab_1, ab_LL, ab_DD, ab_ob, ab_pr, ab_qr, ab_ln, ab_so, ab_vI, ab_vA, ab_vD, ab_vL, ab_v2, ab_c, ab_fit, ab_rv, ab_tsw, ab_lsw, ab_up_eq, Fin.isValue, ab_f0, ab_f1, ab_f2, ab_f3, List.getElem?_cons_zero, List.getElem?_cons_succ, List.set_cons_zero, List.set_cons_succ, List.length_cons, List.length_nil, List.size_toArray, List.head?_cons, List.tail_cons, Option.map_some, cond_true, cond_false, true_and, and_true, false_and, and_false, not_true_eq_false, not_false_eq_true, true_imp_iff, false_imp_iff, if_true, if_false, ite_true, ite_false, ↓reduceIte, Nat.reduceAdd, Nat.reduceEqDiff, Nat.reduceLeDiff, Nat.reduceLT, Nat.reduceBEq, Nat.reduceBNe, Int.reduceAdd, Int.reduceNeg, Int.reduceSub, Int.reduceLE, Int.reduceLT, Int.reduceToNat, Int.reduceEq, Int.reduceMul, Int.cast_ofNat_Int, Nat.zero_add, Nat.add_zero, Nat.le_refl, eq_self, ne_eq, reduceCtorEq, or_true, true_or, or_false, false_or, Bool.or_true, Bool.or_false, Bool.true_or, Bool.false_or, Nat.zero_le, Int.le_refl, Int.ofNat_zero, Int.ofNat_one, Bool.false_eq_true]
            exact ih2
          have l25 := inner 9 y 0 G u5 (by omega) (by omega) (by omega) e3 l83
          refine hV (fun p => bif p == 25 then true else p == 89) 80 _ _ _ _ _ _ ?_
          simp only [ae_bipush, ae_iconst, ae_if_icmp, ae_iload_n, ae_istore, dX4_best_16, dX4_best_17, dX4_best_19, dX4_best_22, dX4_best_23, ca_X4_best_158, ca_X4_best_66, ca_X4_best_161, ab_wp0, ab_wps, ab_stp, ab_g, ab_st, ab_k2, ab_cl, ab_pop, ab_sz, ab_2, ab_ret, ab_f4, ab_tg, ab_I, ab_II, ab_A, ab_Rf, ab_VR, ab_IR, ab_VIR, ab_1, ab_LL, ab_DD, ab_ob, ab_pr, ab_qr, ab_ln, ab_so, ab_vI, ab_vA, ab_vD, ab_vL, ab_v2, ab_c, ab_fit, ab_rv, ab_tsw, ab_lsw, ab_up_eq, Fin.isValue, ab_f0, ab_f1, ab_f2, ab_f3, List.getElem?_cons_zero, List.getElem?_cons_succ, List.set_cons_zero, List.set_cons_succ, List.length_cons, List.length_nil, List.size_toArray, List.head?_cons, List.tail_cons, Option.map_some, cond_true, cond_false, true_and, and_true, false_and, and_false, not_true_eq_false, not_false_eq_true, true_imp_iff, false_imp_iff, if_true, if_false, ite_true, ite_false, ↓reduceIte, Nat.reduceAdd, Nat.reduceEqDiff, Nat.reduceLeDiff, Nat.reduceLT, Nat.reduceBEq, Nat.reduceBNe, Int.reduceAdd, Int.reduceNeg, Int.reduceSub, Int.reduceLE, Int.reduceLT, Int.reduceToNat, Int.reduceEq, Int.reduceMul, Int.cast_ofNat_Int, Nat.zero_add, Nat.add_zero, Nat.le_refl, eq_self, ne_eq, reduceCtorEq, or_true, true_or, or_false, false_or, Bool.or_true, Bool.or_false, Bool.true_or, Bool.false_or, Nat.zero_le, Int.le_refl, Int.ofNat_zero, Int.ofNat_one, Bool.false_eq_true]
          simp only [ab_in]
          (repeat' (first | intro _ | refine And.intro ?_ ?_)) <;> (first | exact l25 | contradiction | omega | (exfalso; omega))
      have hall : 0 ≤ allIF 9 ∧ allIF 9 ≤ 2000 := by decide +kernel
      have l0 := outer 8 0 (-1, allIF 9) none none (by omega) (by omega) ⟨hall.1, hall.2, by decide, by decide⟩ (y0 trivial)
      dsimp only at l0
      refine hV (fun p => p == 16) 80 _ _ _ _ _ _ ?_
      simp only [c', hP1, hb1, bI_in, bI_0, bI_1, bI_t, bI_f, bI_01, Tr_X4_allIn, ae_aload_n, ae_bipush, ae_iconst, ae_invokevirtual, ae_istore_n, dX4_best_5, dX4_best_6, dX4_best_7, dX4_best_8, dX4_best_10, dX4_best_13, dX4_best_14, dX4_best_15, ca_X4_best_158, ca_X4_best_66, ca_X4_best_161, ab_wp0, ab_wps, ab_stp, ab_g, ab_st, ab_k2, ab_cl, ab_pop, ab_sz, ab_2, ab_ret, ab_f4, ab_tg, ab_I, ab_II, ab_A, ab_Rf, ab_VR, ab_IR, ab_VIR, ab_1, ab_LL, ab_DD, ab_ob, ab_pr, ab_qr, ab_ln, ab_so, ab_vI, ab_vA, ab_vD, ab_vL, ab_v2, ab_c, ab_fit, ab_rv, ab_tsw, ab_lsw, ab_up_eq, Fin.isValue, ab_f0, ab_f1, ab_f2, ab_f3, List.getElem?_cons_zero, List.getElem?_cons_succ, List.set_cons_zero, List.set_cons_succ, List.length_cons, List.length_nil, List.size_toArray, List.head?_cons, List.tail_cons, Option.map_some, cond_true, cond_false, true_and, and_true, false_and, and_false, not_true_eq_false, not_false_eq_true, true_imp_iff, false_imp_iff, if_true, if_false, ite_true, ite_false, ↓reduceIte, Nat.reduceAdd, Nat.reduceEqDiff, Nat.reduceLeDiff, Nat.reduceLT, Nat.reduceBEq, Nat.reduceBNe, Int.reduceAdd, Int.reduceNeg, Int.reduceSub, Int.reduceLE, Int.reduceLT, Int.reduceToNat, Int.reduceEq, Int.reduceMul, Int.cast_ofNat_Int, Nat.zero_add, Nat.add_zero, Nat.le_refl, eq_self, ne_eq, reduceCtorEq, or_true, true_or, or_false, false_or, Bool.or_true, Bool.or_false, Bool.true_or, Bool.false_or, Nat.zero_le, Int.le_refl, Int.ofNat_zero, Int.ofNat_one, Bool.false_eq_true]
      try simp only [ab_in]
      (repeat' (first | intro _ | refine And.intro ?_ ?_)) <;> (first | exact l0 | contradiction | omega | (exfalso; omega))
    have hb0 := body _ (md_of (md_thr hm 0)) (ab_fr.rf.up md_inL.1)
    dsimp only [mdC] at hb0
    refine hV (fun p => p == 5) 80 _ _ _ _ _ _ ?_
    simp only [c, ae_aload_n, ae_iconst, ae_putfield, dX4_best_0, dX4_best_1, dX4_best_2, tbX4_p29, ca_X4_best_158, ca_X4_best_66, ca_X4_best_161, ab_wp0, ab_wps, ab_stp, ab_g, ab_st, ab_k2, ab_cl, ab_pop, ab_sz, ab_2, ab_ret, ab_f4, ab_tg, ab_I, ab_II, ab_A, ab_Rf, ab_VR, ab_IR, ab_VIR, ab_1, ab_LL, ab_DD, ab_ob, ab_pr, ab_qr, ab_ln, ab_so, ab_vI, ab_vA, ab_vD, ab_vL, ab_v2, ab_c, ab_fit, ab_rv, ab_tsw, ab_lsw, ab_up_eq, Fin.isValue, ab_f0, ab_f1, ab_f2, ab_f3, List.getElem?_cons_zero, List.getElem?_cons_succ, List.set_cons_zero, List.set_cons_succ, List.length_cons, List.length_nil, List.size_toArray, List.head?_cons, List.tail_cons, Option.map_some, cond_true, cond_false, true_and, and_true, false_and, and_false, not_true_eq_false, not_false_eq_true, true_imp_iff, false_imp_iff, if_true, if_false, ite_true, ite_false, ↓reduceIte, Nat.reduceAdd, Nat.reduceEqDiff, Nat.reduceLeDiff, Nat.reduceLT, Nat.reduceBEq, Nat.reduceBNe, Int.reduceAdd, Int.reduceNeg, Int.reduceSub, Int.reduceLE, Int.reduceLT, Int.reduceToNat, Int.reduceEq, Int.reduceMul, Int.cast_ofNat_Int, Nat.zero_add, Nat.add_zero, Nat.le_refl, eq_self, ne_eq, reduceCtorEq, or_true, true_or, or_false, false_or, Bool.or_true, Bool.or_false, Bool.true_or, Bool.false_or, Nat.zero_le, Int.le_refl, Int.ofNat_zero, Int.ofNat_one, Bool.false_eq_true]
    exact hb0
  · exact hT.elim
set_option maxRecDepth 100000 in
theorem con_X4_best (l : Launch) (D : va_G) (ty : Nat → ClassId) (base : Nat) : ab_Con l D vwCl ty lw_ts base lw_wd yX4_best cX4_best 6 (some .int) 7 157 0 0 Tr_X4_best :=
  ab_con_of (own := RX4) (rt := 1) (tb := tbX4) (ini := false) (ca := ca_X4_best) (by decide +kernel) rfl (fun h => by cases h) rfl lw_wd_ok wtbX4 lw_ar cm_X4_best
    (fun p e R s m args below meth c K hcx => by
      obtain ⟨hx, hb, hml, hown, hF, rfl⟩ := hcx
      exact ab_lk_all (ab_all_c (ab_tc_V hx hb hml hown lw_wd_ok hF ⟨rfl, rfl⟩ (con_X4_allIn l D ty base) rfl (lw_wi (by decide +kernel) (by decide +kernel)) (lw_wi (by decide +kernel) (by decide +kernel)) (lw_wi (by decide +kernel) (by decide +kernel)) (lw_wi (by decide +kernel) (by decide +kernel)) (lw_wi (by decide +kernel) (by decide +kernel)) (by decide +kernel) ⟨by decide, by decide⟩) (ab_all_c (ab_tc_V hx hb hml hown lw_wd_ok hF ⟨rfl, rfl⟩ (con_X4_isFree l D ty base) rfl (lw_wi (by decide +kernel) (by decide +kernel)) (lw_wi (by decide +kernel) (by decide +kernel)) (lw_wi (by decide +kernel) (by decide +kernel)) (lw_wi (by decide +kernel) (by decide +kernel)) (lw_wi (by decide +kernel) (by decide +kernel)) (by decide +kernel) ⟨by decide, by decide⟩) (ab_all_c (ab_tc_V hx hb hml hown lw_wd_ok hF ⟨rfl, rfl⟩ (con_X4_with l D ty base) rfl (lw_wi (by decide +kernel) (by decide +kernel)) (lw_wi (by decide +kernel) (by decide +kernel)) (lw_wi (by decide +kernel) (by decide +kernel)) (lw_wi (by decide +kernel) (by decide +kernel)) (lw_wi (by decide +kernel) (by decide +kernel)) (by decide +kernel) ⟨by decide, by decide⟩) (ab_all_n)))))
    (by intro as h K ht; unfold Tr_X4_best at ht; split at ht <;> first | exact ht.elim | exact Nat.le_of_ble_eq_true rfl) (sem_X4_best base)
