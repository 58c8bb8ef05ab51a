/-! ===== where a slate had best be laid ===== -/
theorem inS_r {f : Int → Int} {rain x : Int} (h1 : 0 ≤ rain ∧ rain ≤ 9) : ∀ (n : Nat) (row acc : Int), 0 ≤ acc ∧ acc ≤ 18 → 0 ≤ inS f rain x n row acc ∧ inS f rain x n row acc ≤ 18 * n := by
  intro n
  induction n with
  | zero => intro row acc _; simp [inS]
  | succ n ih =>
    intro row acc h2
    have h3 := inF_r (f := f) (x := x) (y := row) h1 h2
    have h4 := ih (row - 1) _ h3
    simp only [inS]
    omega
theorem sumR_rM {g : Int → Int} {M : Int} (h : ∀ i, 0 ≤ g i ∧ g i ≤ M) : ∀ (n : Nat) (x : Int), 0 ≤ sumR g n x ∧ sumR g n x ≤ M * n := by
  intro n
  induction n with
  | zero => intro x; simp [sumR]
  | succ n ih =>
    intro x
    have h1 := ih (x + 1)
    have h2 := h x
    have h3 : M * ((n + 1 : Nat) : Int) = M * n + M := by rw [Int.natCast_add, Int.mul_add]; simp
    simp only [sumR]
    omega
theorem inAllF_r {f : Int → Int} {rain : Int} (h1 : 0 ≤ rain ∧ rain ≤ 9) : 0 ≤ inAllF f rain ∧ inAllF f rain ≤ 1728 := by
  have := sumR_rM (g := fun x => inS f rain x 8 7 0) (M := 144) (fun i => by have := inS_r (f := f) (x := i) h1 8 7 0 (by omega); omega) 12 0
  unfold inAllF
  omega
/-- the least that comes in, where, what is covered -/
abbrev BS : Type := Int × Int × (Int → Int)
def bestOne (S : RS) (row x : Int) (B : BS) : BS := bif isFreeF S row x 4 then (if inAllF (ciwC S B.2.2 row x 4) 9 < B.1 then (inAllF (ciwC S B.2.2 row x 4) 9, 100 * row + x, ciwC S B.2.2 row x 4) else (B.1, B.2.1, ciwC S B.2.2 row x 4)) else B
def bestL (S : RS) (row : Int) : Nat → Int → BS → BS
  | 0, _, B => B
  | n + 1, x, B => bestL S row n (x + 1) (bestOne S row x B)
def bestM (S : RS) : Nat → Int → BS → BS
  | 0, _, B => B
  | n + 1, y, B => bestM S n (y + 1) (bestL S y 9 0 B)
def bestF (S : RS) (f : Int → Int) : BS := bestM S 8 0 (inAllF (rdL S f 96) 9, -1, rdL S f 96)
noncomputable def Tr_X3_best : ATr := fun as h K => match as with
  | [.inr (.inl (some a))] => ab_so (ab_sr h a) fun P => (True) ∧ ∀ h', ab_sr h' a = some (P.1, (P.2.1, P.2.2.1, (bestF P.2.1 P.2.2.2.1).2.2, P.2.2.2.2)) → ab_fr h h' ([P.1.2.2.1.1, P.1.2.2.1.2]) → K (some (.inl ((bestF P.2.1 P.2.2.2.1).2.1))) h'
  | _ => False
theorem mo_X3_best : ab_mo Tr_X3_best := by
  intro as h K K' hk ht
  unfold Tr_X3_best at ht ⊢
  split at ht
  · exact ab_so_mo (fun P q => ⟨q.1, fun h' e1 e2 => hk _ _ (q.2 h' e1 e2)⟩) ht
  · exact ht.elim
def ca_X3_best : Nat → Option ACS := ab_lk [(181, (0, 0, 2, 0, 0, Tr_X0_readFrom)), (188, (0, 0, 2, 0, 0, Tr_X0_comesInAtAll)), (55, (0, 1, 4, 0, 0, Tr_X1_isFree)), (196, (0, 3, 4, 0, 0, Tr_X3_comesInWith))]
theorem ca_X3_best_181 : ca_X3_best 181 = some (0, 0, 2, 0, 0, Tr_X0_readFrom) := rfl
theorem ca_X3_best_188 : ca_X3_best 188 = some (0, 0, 2, 0, 0, Tr_X0_comesInAtAll) := rfl
theorem ca_X3_best_55 : ca_X3_best 55 = some (0, 1, 4, 0, 0, Tr_X1_isFree) := rfl
theorem ca_X3_best_196 : ca_X3_best 196 = some (0, 3, 4, 0, 0, Tr_X3_comesInWith) := rfl
theorem cm_X3_best : ∀ i q, ca_X3_best i = some q → ab_moq i q := ab_lk_all (ab_all_c mo_X0_readFrom (ab_all_c mo_X0_comesInAtAll (ab_all_c mo_X1_isFree (ab_all_c mo_X3_comesInWith (ab_all_n)))))
set_option maxRecDepth 100000 in
set_option maxHeartbeats 4000000 in
theorem sem_X3_best (base : Nat) : ab_Sem tbX3 lw_ts base cX3_best ca_X3_best 1 6 0 0 (fun as => ab_en as 6) Tr_X3_best := by
  intro as h K hT V hV
  unfold Tr_X3_best at hT
  split at hT
  · rename_i a
    obtain ⟨⟨⟨⟨r, ns⟩, ⟨t, ms⟩, ⟨c, n⟩, b, q0, q1, q2, q3⟩, S, O, f, T⟩, hP, hs, hK⟩ := ab_so_el hT
    have hA := sr_el hP
    obtain ⟨D, D0, D1, D2, D3, -⟩ := id hA
    dsimp only at D D0 D1 D2 D3
    try dsimp only at hK hs
    show V 0 [some (.inr (.inl (some a))), none, none, none, none, none] [] h 0 0
    have inner : ∀ (y : Int), 0 ≤ y → y < 8 → ∀ (R : BS), (∀ h2 u, (u = none ∨ ∃ v, u = some (.inl v)) → (0 ≤ R.1 ∧ R.1 ≤ 1728) → srAt h2 a (((r, ns), (t, ms), (c, n), b, q0, q1, q2, q3), (S, O, R.2.2, T)) → ab_fr h h2 [c, n] → V 88 [some (.inr (.inl (some a))), some (.inl R.1), some (.inl R.2.1), some (.inl y), some (.inl 9), u] [] h2 0 0) → ∀ (k : Nat) (x : Int) (h1 : AH) (B : BS) (u : Option AV), (u = none ∨ ∃ v, u = some (.inl v)) → x + k = 9 → 0 ≤ x → (0 ≤ B.1 ∧ B.1 ≤ 1728) → srAt h1 a (((r, ns), (t, ms), (c, n), b, q0, q1, q2, q3), (S, O, B.2.2, T)) → ab_fr h h1 [c, n] → bestL S y k x B = R → V 34 [some (.inr (.inl (some a))), some (.inl B.1), some (.inl B.2.1), some (.inl y), some (.inl x), u] [] h1 0 0 := by
      intro y hy0 hy R hk2 k
      induction k with
      | zero =>
        intro x h1 B u hu hx h0 hb g fr hr
        have he : x = 9 := by omega
        subst he
        simp only [bestL] at hr
        subst hr
        have hk3 := hk2 h1 u hu hb g fr
        rcases hu with rfl | ⟨v, rfl⟩
        all_goals (refine hV (fun p => bif p == 34 then true else p == 88) 80 _ _ _ _ _ _ ?_; simp only [bI_in, bI_0, bI_1, bI_t, bI_f, bI_01, ae_bipush, ae_if_icmp, ae_iload, dX3_best_34, dX3_best_36, dX3_best_38, ca_X3_best_181, ca_X3_best_188, ca_X3_best_55, ca_X3_best_196, ab_wp0, ab_wps, ab_stp, ab_g, ab_st, ab_k2, ab_cl, ab_pop, ab_sz, ab_2, ab_ret, ab_f4, ab_tg, ab_I, ab_II, ab_A, ab_Rf, ab_VR, ab_IR, ab_VIR, ab_1, ab_LL, ab_DD, ab_ob, ab_pr, ab_qr, ab_ln, ab_so, ab_vI, ab_vA, ab_vD, ab_vL, ab_v2, ab_c, ab_fit, ab_rv, ab_tsw, ab_lsw, ab_up_eq, Fin.isValue, ab_f0, ab_f1, ab_f2, ab_f3, List.getElem?_cons_zero, List.getElem?_cons_succ, List.set_cons_zero, List.set_cons_succ, List.length_cons, List.length_nil, List.size_toArray, List.head?_cons, List.tail_cons, Option.map_some, cond_true, cond_false, true_and, and_true, false_and, and_false, not_true_eq_false, not_false_eq_true, true_imp_iff, false_imp_iff, if_true, if_false, ite_true, ite_false, ↓reduceIte, Nat.reduceAdd, Nat.reduceEqDiff, Nat.reduceLeDiff, Nat.reduceLT, Nat.reduceBEq, Nat.reduceBNe, Int.reduceAdd, Int.reduceNeg, Int.reduceSub, Int.reduceLE, Int.reduceLT, Int.reduceToNat, Int.reduceEq, Int.reduceMul, Int.cast_ofNat_Int, Nat.zero_add, Nat.add_zero, Nat.le_refl, eq_self, ne_eq, reduceCtorEq, or_true, true_or, or_false, false_or, Bool.or_true, Bool.or_false, Bool.true_or, Bool.false_or, Nat.zero_le, Int.le_refl, Int.ofNat_zero, Int.ofNat_one, Bool.false_eq_true]; simp only [ab_in]; (repeat' (first | intro _ | refine And.intro ?_ ?_)) <;> (first | exact hk3 | contradiction | omega | (exfalso; omega)))
      | succ k ih =>
        intro x h1 B u hu hx h0 hb g fr hr
        have he : ¬ 8 < x := by omega
        simp only [bestL] at hr
        have hin := inAllF_r (f := ciwC S B.2.2 y x 4) (rain := 9) (by omega)
        have g' := g
        obtain ⟨d, d0, -, -, -, -⟩ := g
        dsimp only at d d0
        obtain ⟨-, m0, m1, m2, m3, m4, m5, m6, m7, m8, -, -, e9, -⟩ := roof_el d0
        by_cases hf : isFreeF S y x 4 = true
        · have aft : ∀ h2, srAt h2 a (((r, ns), (t, ms), (c, n), b, q0, q1, q2, q3), (S, O, ciwC S B.2.2 y x 4, T)) → ab_fr h h2 [c, n] → V 63 [some (.inr (.inl (some a))), some (.inl B.1), some (.inl B.2.1), some (.inl y), some (.inl x), u] [.inl (inAllF (ciwC S B.2.2 y x 4) 9)] h2 0 0 := by
            intro h2 g2 fr2
            by_cases hlt : inAllF (ciwC S B.2.2 y x 4) 9 < B.1
            · have hb1 : bestOne S y x B = (inAllF (ciwC S B.2.2 y x 4) 9, 100 * y + x, ciwC S B.2.2 y x 4) := by simp only [bestOne, hf, cond_true, hlt, if_true]
              have ih1 := ih (x + 1) h2 (bestOne S y x B) (some (.inl (inAllF (ciwC S B.2.2 y x 4) 9))) (Or.inr ⟨_, rfl⟩) (by omega) (by omega) (by rw [hb1]; exact hin) (by rw [hb1]; exact g2) fr2 hr
              rw [hb1] at ih1
              dsimp only at ih1
              rcases hu with rfl | ⟨v, rfl⟩
              all_goals (refine hV (fun p => p == 34) 80 _ _ _ _ _ _ ?_; simp only [hlt, ae_bipush, ae_goto, ae_iadd, ae_if_icmp, ae_iinc, ae_iload, ae_iload_n, ae_imul, ae_istore, ae_istore_n, dX3_best_63, dX3_best_65, dX3_best_67, dX3_best_68, dX3_best_71, dX3_best_73, dX3_best_74, dX3_best_76, dX3_best_77, dX3_best_78, dX3_best_80, dX3_best_81, dX3_best_82, dX3_best_85, ca_X3_best_181, ca_X3_best_188, ca_X3_best_55, ca_X3_best_196, ab_wp0, ab_wps, ab_stp, ab_g, ab_st, ab_k2, ab_cl, ab_pop, ab_sz, ab_2, ab_ret, ab_f4, ab_tg, ab_I, ab_II, ab_A, ab_Rf, ab_VR, ab_IR, ab_VIR, ab_1, ab_LL, ab_DD, ab_ob, ab_pr, ab_qr, ab_ln, ab_so, ab_vI, ab_vA, ab_vD, ab_vL, ab_v2, ab_c, ab_fit, ab_rv, ab_tsw, ab_lsw, ab_up_eq, Fin.isValue, ab_f0, ab_f1, ab_f2, ab_f3, List.getElem?_cons_zero, List.getElem?_cons_succ, List.set_cons_zero, List.set_cons_succ, List.length_cons, List.length_nil, List.size_toArray, List.head?_cons, List.tail_cons, Option.map_some, cond_true, cond_false, true_and, and_true, false_and, and_false, not_true_eq_false, not_false_eq_true, true_imp_iff, false_imp_iff, if_true, if_false, ite_true, ite_false, ↓reduceIte, Nat.reduceAdd, Nat.reduceEqDiff, Nat.reduceLeDiff, Nat.reduceLT, Nat.reduceBEq, Nat.reduceBNe, Int.reduceAdd, Int.reduceNeg, Int.reduceSub, Int.reduceLE, Int.reduceLT, Int.reduceToNat, Int.reduceEq, Int.reduceMul, Int.cast_ofNat_Int, Nat.zero_add, Nat.add_zero, Nat.le_refl, eq_self, ne_eq, reduceCtorEq, or_true, true_or, or_false, false_or, Bool.or_true, Bool.or_false, Bool.true_or, Bool.false_or, Nat.zero_le, Int.le_refl, Int.ofNat_zero, Int.ofNat_one, Bool.false_eq_true]; simp only [ab_in]; (repeat' (first | intro _ | refine And.intro ?_ ?_)) <;> (first | exact ih1 | contradiction | omega | (exfalso; omega)))
            · have hb1 : bestOne S y x B = (B.1, B.2.1, ciwC S B.2.2 y x 4) := by simp only [bestOne, hf, cond_true, hlt, if_false]
              have ih1 := ih (x + 1) h2 (bestOne S y x B) (some (.inl (inAllF (ciwC S B.2.2 y x 4) 9))) (Or.inr ⟨_, rfl⟩) (by omega) (by omega) (by rw [hb1]; exact hb) (by rw [hb1]; exact g2) fr2 hr
              rw [hb1] at ih1
              dsimp only at ih1
              rcases hu with rfl | ⟨v, rfl⟩
              all_goals (refine hV (fun p => p == 34) 80 _ _ _ _ _ _ ?_; simp only [hlt, ae_bipush, ae_goto, ae_iadd, ae_if_icmp, ae_iinc, ae_iload, ae_iload_n, ae_imul, ae_istore, ae_istore_n, dX3_best_63, dX3_best_65, dX3_best_67, dX3_best_68, dX3_best_71, dX3_best_73, dX3_best_74, dX3_best_76, dX3_best_77, dX3_best_78, dX3_best_80, dX3_best_81, dX3_best_82, dX3_best_85, ca_X3_best_181, ca_X3_best_188, ca_X3_best_55, ca_X3_best_196, ab_wp0, ab_wps, ab_stp, ab_g, ab_st, ab_k2, ab_cl, ab_pop, ab_sz, ab_2, ab_ret, ab_f4, ab_tg, ab_I, ab_II, ab_A, ab_Rf, ab_VR, ab_IR, ab_VIR, ab_1, ab_LL, ab_DD, ab_ob, ab_pr, ab_qr, ab_ln, ab_so, ab_vI, ab_vA, ab_vD, ab_vL, ab_v2, ab_c, ab_fit, ab_rv, ab_tsw, ab_lsw, ab_up_eq, Fin.isValue, ab_f0, ab_f1, ab_f2, ab_f3, List.getElem?_cons_zero, List.getElem?_cons_succ, List.set_cons_zero, List.set_cons_succ, List.length_cons, List.length_nil, List.size_toArray, List.head?_cons, List.tail_cons, Option.map_some, cond_true, cond_false, true_and, and_true, false_and, and_false, not_true_eq_false, not_false_eq_true, true_imp_iff, false_imp_iff, if_true, if_false, ite_true, ite_false, ↓reduceIte, Nat.reduceAdd, Nat.reduceEqDiff, Nat.reduceLeDiff, Nat.reduceLT, Nat.reduceBEq, Nat.reduceBNe, Int.reduceAdd, Int.reduceNeg, Int.reduceSub, Int.reduceLE, Int.reduceLT, Int.reduceToNat, Int.reduceEq, Int.reduceMul, Int.cast_ofNat_Int, Nat.zero_add, Nat.add_zero, Nat.le_refl, eq_self, ne_eq, reduceCtorEq, or_true, true_or, or_false, false_or, Bool.or_true, Bool.or_false, Bool.true_or, Bool.false_or, Nat.zero_le, Int.le_refl, Int.ofNat_zero, Int.ofNat_one, Bool.false_eq_true]; simp only [ab_in]; (repeat' (first | intro _ | refine And.intro ?_ ?_)) <;> (first | exact ih1 | contradiction | omega | (exfalso; omega)))
          have hsr := sr_of g'
          have aft' := fun h3 q5 q6 => aft h3 (sr_el q5) (fr.tr q6)
          refine hV (fun p => bif p == 34 then true else p == 63) 80 _ _ _ _ _ _ ?_
          simp only [d, d0, e9, he, hf, hsr, bI_in, bI_0, bI_1, bI_t, bI_f, bI_01, Tr_X1_isFree, Tr_X3_comesInWith, ae_aload_n, ae_bipush, ae_getfield, ae_iconst, ae_ifCond, ae_if_icmp, ae_iload, ae_iload_n, ae_invokevirtual, dX3_best_34, dX3_best_36, dX3_best_38, dX3_best_41, dX3_best_42, dX3_best_45, dX3_best_46, dX3_best_48, dX3_best_49, dX3_best_52, dX3_best_55, dX3_best_56, dX3_best_57, dX3_best_59, dX3_best_60, tbX3_g12, ca_X3_best_181, ca_X3_best_188, ca_X3_best_55, ca_X3_best_196, ab_wp0, ab_wps, ab_stp, ab_g, ab_st, ab_k2, ab_cl, ab_pop, ab_sz, ab_2, ab_ret, ab_f4, ab_tg, ab_I, ab_II, ab_A, ab_Rf, ab_VR, ab_IR, ab_VIR, ab_1, ab_LL, ab_DD, ab_ob, ab_pr, ab_qr, ab_ln, ab_so, ab_vI, ab_vA, ab_vD, ab_vL, ab_v2, ab_c, ab_fit, ab_rv, ab_tsw, ab_lsw, ab_up_eq, Fin.isValue, ab_f0, ab_f1, ab_f2, ab_f3, List.getElem?_cons_zero, List.getElem?_cons_succ, List.set_cons_zero, List.set_cons_succ, List.length_cons, List.length_nil, List.size_toArray, List.head?_cons, List.tail_cons, Option.map_some, cond_true, cond_false, true_and, and_true, false_and, and_false, not_true_eq_false, not_false_eq_true, true_imp_iff, false_imp_iff, if_true, if_false, ite_true, ite_false, ↓reduceIte, Nat.reduceAdd, Nat.reduceEqDiff, Nat.reduceLeDiff, Nat.reduceLT, Nat.reduceBEq, Nat.reduceBNe, Int.reduceAdd, Int.reduceNeg, Int.reduceSub, Int.reduceLE, Int.reduceLT, Int.reduceToNat, Int.reduceEq, Int.reduceMul, Int.cast_ofNat_Int, Nat.zero_add, Nat.add_zero, Nat.le_refl, eq_self, ne_eq, reduceCtorEq, or_true, true_or, or_false, false_or, Bool.or_true, Bool.or_false, Bool.true_or, Bool.false_or, Nat.zero_le, Int.le_refl, Int.ofNat_zero, Int.ofNat_one, Bool.false_eq_true]
          simp only [ab_in]
          (repeat' (first | intro _ | refine And.intro ?_ ?_)) <;> (first | exact aft' _ (by assumption) (by assumption) | contradiction | omega | (exfalso; omega))
        · have hb1 : bestOne S y x B = B := by simp only [bestOne, hf, cond_false]
          have ih1 := ih (x + 1) h1 (bestOne S y x B) u hu (by omega) (by omega) (by rw [hb1]; exact hb) (by rw [hb1]; exact g') fr hr
          rw [hb1] at ih1
          rcases hu with rfl | ⟨v, rfl⟩
          all_goals (refine hV (fun p => bif p == 34 then true else p == 63) 80 _ _ _ _ _ _ ?_; simp only [d, d0, e9, he, hf, bI_in, bI_0, bI_1, bI_t, bI_f, bI_01, Tr_X1_isFree, ae_aload_n, ae_bipush, ae_getfield, ae_goto, ae_iadd, ae_iconst, ae_ifCond, ae_if_icmp, ae_iinc, ae_iload, ae_iload_n, ae_imul, ae_invokevirtual, ae_istore, ae_istore_n, dX3_best_34, dX3_best_36, dX3_best_38, dX3_best_41, dX3_best_42, dX3_best_45, dX3_best_46, dX3_best_48, dX3_best_49, dX3_best_52, dX3_best_55, dX3_best_56, dX3_best_57, dX3_best_59, dX3_best_60, dX3_best_63, dX3_best_65, dX3_best_67, dX3_best_68, dX3_best_71, dX3_best_73, dX3_best_74, dX3_best_76, dX3_best_77, dX3_best_78, dX3_best_80, dX3_best_81, dX3_best_82, dX3_best_85, tbX3_g12, ca_X3_best_181, ca_X3_best_188, ca_X3_best_55, ca_X3_best_196, ab_wp0, ab_wps, ab_stp, ab_g, ab_st, ab_k2, ab_cl, ab_pop, ab_sz, ab_2, ab_ret, ab_f4, ab_tg, ab_I, ab_II, ab_A, ab_Rf, ab_VR, ab_IR, ab_VIR, ab_1, ab_LL, ab_DD, ab_ob, ab_pr, ab_qr, ab_ln, ab_so, ab_vI, ab_vA, ab_vD, ab_vL, ab_v2, ab_c, ab_fit, ab_rv, ab_tsw, ab_lsw, ab_up_eq, Fin.isValue, ab_f0, ab_f1, ab_f2, ab_f3, List.getElem?_cons_zero, List.getElem?_cons_succ, List.set_cons_zero, List.set_cons_succ, List.length_cons, List.length_nil, List.size_toArray, List.head?_cons, List.tail_cons, Option.map_some, cond_true, cond_false, true_and, and_true, false_and, and_false, not_true_eq_false, not_false_eq_true, true_imp_iff, false_imp_iff, if_true, if_false, ite_true, ite_false, ↓reduceIte, Nat.reduceAdd, Nat.reduceEqDiff, Nat.reduceLeDiff, Nat.reduceLT, Nat.reduceBEq, Nat.reduceBNe, Int.reduceAdd, Int.reduceNeg, Int.reduceSub, Int.reduceLE, Int.reduceLT, Int.reduceToNat, Int.reduceEq, Int.reduceMul, Int.cast_ofNat_Int, Nat.zero_add, Nat.add_zero, Nat.le_refl, eq_self, ne_eq, reduceCtorEq, or_true, true_or, or_false, false_or, Bool.or_true, Bool.or_false, Bool.true_or, Bool.false_or, Nat.zero_le, Int.le_refl, Int.ofNat_zero, Int.ofNat_one, Bool.false_eq_true]; simp only [ab_in]; (repeat' (first | intro _ | refine And.intro ?_ ?_)) <;> (first | exact ih1 | contradiction | omega | (exfalso; omega)))
    have outer : ∀ (k : Nat) (y : Int) (h1 : AH) (B : BS) (w u : Option AV), (w = none ∨ ∃ v, w = some (.inl v)) → (u = none ∨ ∃ v, u = some (.inl v)) → y + k = 8 → 0 ≤ y → (0 ≤ B.1 ∧ B.1 ≤ 1728) → srAt h1 a (((r, ns), (t, ms), (c, n), b, q0, q1, q2, q3), (S, O, B.2.2, T)) → ab_fr h h1 [c, n] → bestM S k y B = bestF S f → V 25 [some (.inr (.inl (some a))), some (.inl B.1), some (.inl B.2.1), some (.inl y), w, u] [] h1 0 0 := by
      intro k
      induction k with
      | zero =>
        intro y h1 B w u hw hu hy h0 hb g fr hr
        have he : y = 8 := by omega
        subst he
        simp only [bestM] at hr
        rw [← hr] at hK
        have hk3 := hK h1 (sr_of g) fr
        refine hV (fun p => bif p == 25 then true else p == 34) 80 _ _ _ _ _ _ ?_
        simp only [bI_in, bI_0, bI_1, bI_t, bI_f, bI_01, ae_aload_n, ae_bipush, ae_getfield, ae_goto, ae_iadd, ae_iconst, ae_ifCond, ae_if_icmp, ae_iinc, ae_iload, ae_iload_n, ae_imul, ae_invokevirtual, ae_ireturn, ae_istore, ae_istore_n, dX3_best_25, dX3_best_26, dX3_best_28, dX3_best_31, dX3_best_32, dX3_best_34, dX3_best_36, dX3_best_38, dX3_best_41, dX3_best_42, dX3_best_45, dX3_best_46, dX3_best_48, dX3_best_49, dX3_best_52, dX3_best_55, dX3_best_56, dX3_best_57, dX3_best_59, dX3_best_60, dX3_best_63, dX3_best_65, dX3_best_67, dX3_best_68, dX3_best_71, dX3_best_73, dX3_best_74, dX3_best_76, dX3_best_77, dX3_best_78, dX3_best_80, dX3_best_81, dX3_best_82, dX3_best_85, dX3_best_88, dX3_best_91, dX3_best_94, dX3_best_95, tbX3_g12, ca_X3_best_181, ca_X3_best_188, ca_X3_best_55, ca_X3_best_196, ab_wp0, ab_wps, ab_stp, ab_g, ab_st, ab_k2, ab_cl, ab_pop, ab_sz, ab_2, ab_ret, ab_f4, ab_tg, ab_I, ab_II, ab_A, ab_Rf, ab_VR, ab_IR, ab_VIR, ab_1, ab_LL, ab_DD, ab_ob, ab_pr, ab_qr, ab_ln, ab_so, ab_vI, ab_vA, ab_vD, ab_vL, ab_v2, ab_c, ab_fit, ab_rv, ab_tsw, ab_lsw, ab_up_eq, Fin.isValue, ab_f0, ab_f1, ab_f2, ab_f3, List.getElem?_cons_zero, List.getElem?_cons_succ, List.set_cons_zero, List.set_cons_succ, List.length_cons, List.length_nil, List.size_toArray, List.head?_cons, List.tail_cons, Option.map_some, cond_true, cond_false, true_and, and_true, false_and, and_false, not_true_eq_false, not_false_eq_true, true_imp_iff, false_imp_iff, if_true, if_false, ite_true, ite_false, ↓reduceIte, Nat.reduceAdd, Nat.reduceEqDiff, Nat.reduceLeDiff, Nat.reduceLT, Nat.reduceBEq, Nat.reduceBNe, Int.reduceAdd, Int.reduceNeg, Int.reduceSub, Int.reduceLE, Int.reduceLT, Int.reduceToNat, Int.reduceEq, Int.reduceMul, Int.cast_ofNat_Int, Nat.zero_add, Nat.add_zero, Nat.le_refl, eq_self, ne_eq, reduceCtorEq, or_true, true_or, or_false, false_or, Bool.or_true, Bool.or_false, Bool.true_or, Bool.false_or, Nat.zero_le, Int.le_refl, Int.ofNat_zero, Int.ofNat_one, Bool.false_eq_true]
        simp only [ab_in]
        (repeat' (first | intro _ | refine And.intro ?_ ?_)) <;> (first | exact hk3 | contradiction | omega | (exfalso; omega))
      | succ k ih =>
        intro y h1 B w u hw hu hy h0 hb g fr hr
        have he : ¬ 8 ≤ y := by omega
        simp only [bestM] at hr
        have i1 := inner y h0 (by omega) (bestL S y 9 0 B) (by
          intro h2 u hu hb2 g2 fr2
          have ih1 := ih (y + 1) h2 (bestL S y 9 0 B) (some (.inl 9)) u (Or.inr ⟨9, rfl⟩) hu (by omega) (by omega) hb2 g2 fr2 hr
          refine hV (fun p => p == 25) 80 _ _ _ _ _ _ ?_
          simp only [ae_goto, ae_iinc, dX3_best_88, dX3_best_91, ca_X3_best_181, ca_X3_best_188, ca_X3_best_55, ca_X3_best_196, ab_wp0, ab_wps, ab_stp, ab_g, ab_st, ab_k2, ab_cl, ab_pop, ab_sz, ab_2, ab_ret, ab_f4, ab_tg, ab_I, ab_II, ab_A, ab_Rf, ab_VR, ab_IR, ab_VIR, ab_1, ab_LL, ab_DD, ab_ob, ab_pr, ab_qr, ab_ln, ab_so, ab_vI, ab_vA, ab_vD, ab_vL, ab_v2, ab_c, ab_fit, ab_rv, ab_tsw, ab_lsw, ab_up_eq, Fin.isValue, ab_f0, ab_f1, ab_f2, ab_f3, List.getElem?_cons_zero, List.getElem?_cons_succ, List.set_cons_zero, List.set_cons_succ, List.length_cons, List.length_nil, List.size_toArray, List.head?_cons, List.tail_cons, Option.map_some, cond_true, cond_false, true_and, and_true, false_and, and_false, not_true_eq_false, not_false_eq_true, true_imp_iff, false_imp_iff, if_true, if_false, ite_true, ite_false, ↓reduceIte, Nat.reduceAdd, Nat.reduceEqDiff, Nat.reduceLeDiff, Nat.reduceLT, Nat.reduceBEq, Nat.reduceBNe, Int.reduceAdd, Int.reduceNeg, Int.reduceSub, Int.reduceLE, Int.reduceLT, Int.reduceToNat, Int.reduceEq, Int.reduceMul, Int.cast_ofNat_Int, Nat.zero_add, Nat.add_zero, Nat.le_refl, eq_self, ne_eq, reduceCtorEq, or_true, true_or, or_false, false_or, Bool.or_true, Bool.or_false, Bool.true_or, Bool.false_or, Nat.zero_le, Int.le_refl, Int.ofNat_zero, Int.ofNat_one, Bool.false_eq_true]
          exact ih1) 9 0 h1 B u hu (by omega) (by omega) hb g fr rfl
        rcases hw with rfl | ⟨v, rfl⟩
        all_goals (refine hV (fun p => bif p == 25 then true else p == 34) 80 _ _ _ _ _ _ ?_; simp only [he, bI_in, bI_0, bI_1, bI_t, bI_f, bI_01, ae_bipush, ae_iconst, ae_if_icmp, ae_iload_n, ae_istore, dX3_best_25, dX3_best_26, dX3_best_28, dX3_best_31, dX3_best_32, ca_X3_best_181, ca_X3_best_188, ca_X3_best_55, ca_X3_best_196, ab_wp0, ab_wps, ab_stp, ab_g, ab_st, ab_k2, ab_cl, ab_pop, ab_sz, ab_2, ab_ret, ab_f4, ab_tg, ab_I, ab_II, ab_A, ab_Rf, ab_VR, ab_IR, ab_VIR, ab_1, ab_LL, ab_DD, ab_ob, ab_pr, ab_qr, ab_ln, ab_so, ab_vI, ab_vA, ab_vD, ab_vL, ab_v2, ab_c, ab_fit, ab_rv, ab_tsw, ab_lsw, ab_up_eq, Fin.isValue, ab_f0, ab_f1, ab_f2, ab_f3, List.getElem?_cons_zero, List.getElem?_cons_succ, List.set_cons_zero, List.set_cons_succ, List.length_cons, List.length_nil, List.size_toArray, List.head?_cons, List.tail_cons, Option.map_some, cond_true, cond_false, true_and, and_true, false_and, and_false, not_true_eq_false, not_false_eq_true, true_imp_iff, false_imp_iff, if_true, if_false, ite_true, ite_false, ↓reduceIte, Nat.reduceAdd, Nat.reduceEqDiff, Nat.reduceLeDiff, Nat.reduceLT, Nat.reduceBEq, Nat.reduceBNe, Int.reduceAdd, Int.reduceNeg, Int.reduceSub, Int.reduceLE, Int.reduceLT, Int.reduceToNat, Int.reduceEq, Int.reduceMul, Int.cast_ofNat_Int, Nat.zero_add, Nat.add_zero, Nat.le_refl, eq_self, ne_eq, reduceCtorEq, or_true, true_or, or_false, false_or, Bool.or_true, Bool.or_false, Bool.true_or, Bool.false_or, Nat.zero_le, Int.le_refl, Int.ofNat_zero, Int.ofNat_one, Bool.false_eq_true]; simp only [ab_in]; (repeat' (first | intro _ | refine And.intro ?_ ?_)) <;> (first | exact i1 | contradiction | omega | (exfalso; omega)))
    have hin0 := inAllF_r (f := rdL S f 96) (rain := 9) (by omega)
    have aft0 : ∀ h2, srAt h2 a (((r, ns), (t, ms), (c, n), b, q0, q1, q2, q3), (S, O, rdL S f 96, T)) → ab_fr h h2 [c, n] → V 11 [some (.inr (.inl (some a))), none, none, none, none, none] [] h2 0 0 := by
      intro h2 g2 fr2
      have l0 := outer 8 0 h2 (inAllF (rdL S f 96) 9, -1, rdL S f 96) none none (Or.inl rfl) (Or.inl rfl) (by omega) (by omega) hin0 g2 fr2 rfl
      dsimp only at l0
      obtain ⟨d, d0, d1, d2, -, -⟩ := g2
      dsimp only at d d2
      obtain ⟨-, -, e8, -⟩ := cov_el d2
      dsimp only at e8
      refine hV (fun p => p == 25) 80 _ _ _ _ _ _ ?_
      simp only [d, d2, e8, bI_in, bI_0, bI_1, bI_t, bI_f, bI_01, Tr_X0_comesInAtAll, ae_aload_n, ae_bipush, ae_getfield, ae_iconst, ae_invokevirtual, ae_istore_n, dX3_best_11, dX3_best_12, dX3_best_15, dX3_best_17, dX3_best_20, dX3_best_21, dX3_best_22, dX3_best_23, dX3_best_24, tbX3_g22, ca_X3_best_181, ca_X3_best_188, ca_X3_best_55, ca_X3_best_196, ab_wp0, ab_wps, ab_stp, ab_g, ab_st, ab_k2, ab_cl, ab_pop, ab_sz, ab_2, ab_ret, ab_f4, ab_tg, ab_I, ab_II, ab_A, ab_Rf, ab_VR, ab_IR, ab_VIR, ab_1, ab_LL, ab_DD, ab_ob, ab_pr, ab_qr, ab_ln, ab_so, ab_vI, ab_vA, ab_vD, ab_vL, ab_v2, ab_c, ab_fit, ab_rv, ab_tsw, ab_lsw, ab_up_eq, Fin.isValue, ab_f0, ab_f1, ab_f2, ab_f3, List.getElem?_cons_zero, List.getElem?_cons_succ, List.set_cons_zero, List.set_cons_succ, List.length_cons, List.length_nil, List.size_toArray, List.head?_cons, List.tail_cons, Option.map_some, cond_true, cond_false, true_and, and_true, false_and, and_false, not_true_eq_false, not_false_eq_true, true_imp_iff, false_imp_iff, if_true, if_false, ite_true, ite_false, ↓reduceIte, Nat.reduceAdd, Nat.reduceEqDiff, Nat.reduceLeDiff, Nat.reduceLT, Nat.reduceBEq, Nat.reduceBNe, Int.reduceAdd, Int.reduceNeg, Int.reduceSub, Int.reduceLE, Int.reduceLT, Int.reduceToNat, Int.reduceEq, Int.reduceMul, Int.cast_ofNat_Int, Nat.zero_add, Nat.add_zero, Nat.le_refl, eq_self, ne_eq, reduceCtorEq, or_true, true_or, or_false, false_or, Bool.or_true, Bool.or_false, Bool.true_or, Bool.false_or, Nat.zero_le, Int.le_refl, Int.ofNat_zero, Int.ofNat_one, Bool.false_eq_true]
      (repeat' (first | intro _ | refine And.intro ?_ ?_)) <;> (first | exact l0 | contradiction | omega | (exfalso; omega))
    have aft0' := fun h3 q5 q6 => aft0 h3 (sr_cov hA q5 q6) q6
    obtain ⟨-, -, e8, -⟩ := cov_el D2
    dsimp only at e8
    refine hV (fun p => p == 11) 80 _ _ _ _ _ _ ?_
    simp only [D, D0, D2, e8, bI_in, bI_0, bI_1, bI_t, bI_f, bI_01, Tr_X0_readFrom, ae_aload_n, ae_getfield, ae_invokevirtual, dX3_best_0, dX3_best_1, dX3_best_4, dX3_best_5, dX3_best_8, tbX3_g12, tbX3_g22, ca_X3_best_181, ca_X3_best_188, ca_X3_best_55, ca_X3_best_196, ab_wp0, ab_wps, ab_stp, ab_g, ab_st, ab_k2, ab_cl, ab_pop, ab_sz, ab_2, ab_ret, ab_f4, ab_tg, ab_I, ab_II, ab_A, ab_Rf, ab_VR, ab_IR, ab_VIR, ab_1, ab_LL, ab_DD, ab_ob, ab_pr, ab_qr, ab_ln, ab_so, ab_vI, ab_vA, ab_vD, ab_vL, ab_v2, ab_c, ab_fit, ab_rv, ab_tsw, ab_lsw, ab_up_eq, Fin.isValue, ab_f0, ab_f1, ab_f2, ab_f3, List.getElem?_cons_zero, List.getElem?_cons_succ, List.set_cons_zero, List.set_cons_succ, List.length_cons, List.length_nil, List.size_toArray, List.head?_cons, List.tail_cons, Option.map_some, cond_true, cond_false, true_and, and_true, false_and, and_false, not_true_eq_false, not_false_eq_true, true_imp_iff, false_imp_iff, if_true, if_false, ite_true, ite_false, ↓reduceIte, Nat.reduceAdd, Nat.reduceEqDiff, Nat.reduceLeDiff, Nat.reduceLT, Nat.reduceBEq, Nat.reduceBNe, Int.reduceAdd, Int.reduceNeg, Int.reduceSub, Int.reduceLE, Int.reduceLT, Int.reduceToNat, Int.reduceEq, Int.reduceMul, Int.cast_ofNat_Int, Nat.zero_add, Nat.add_zero, Nat.le_refl, eq_self, ne_eq, reduceCtorEq, or_true, true_or, or_false, false_or, Bool.or_true, Bool.or_false, Bool.true_or, Bool.false_or, Nat.zero_le, Int.le_refl, Int.ofNat_zero, Int.ofNat_one, Bool.false_eq_true]
    (repeat' (first | intro _ | refine And.intro ?_ ?_)) <;> (first | exact aft0' _ (by assumption) (by assumption) | contradiction | omega | (exfalso; omega))
  · exact hT.elim
set_option maxRecDepth 100000 in
theorem con_X3_best (l : Launch) (D : va_G) (ty : Nat → ClassId) (base : Nat) : ab_Con l D vwCl ty lw_ts base lw_wd yX3_best cX3_best 6 (some .int) 5 113 0 0 Tr_X3_best :=
  ab_con_of (own := RX3) (rt := 1) (tb := tbX3) (ini := false) (ca := ca_X3_best) (by decide +kernel) rfl (fun h => by cases h) rfl lw_wd_ok wtbX3 lw_ar cm_X3_best
    (fun p e R s m args below meth c K hcx => by
      obtain ⟨hx, hb, hml, hown, hF, rfl⟩ := hcx
      exact ab_lk_all (ab_all_c (ab_tc_V hx hb hml hown lw_wd_ok hF ⟨rfl, rfl⟩ (con_X0_readFrom l D ty base) rfl (lw_wi (by decide +kernel) (by decide +kernel)) (lw_wi (by decide +kernel) (by decide +kernel)) (lw_wi (by decide +kernel) (by decide +kernel)) (lw_wi (by decide +kernel) (by decide +kernel)) (lw_wi (by decide +kernel) (by decide +kernel)) (by decide +kernel) ⟨by decide, by decide⟩) (ab_all_c (ab_tc_V hx hb hml hown lw_wd_ok hF ⟨rfl, rfl⟩ (con_X0_comesInAtAll l D ty base) rfl (lw_wi (by decide +kernel) (by decide +kernel)) (lw_wi (by decide +kernel) (by decide +kernel)) (lw_wi (by decide +kernel) (by decide +kernel)) (lw_wi (by decide +kernel) (by decide +kernel)) (lw_wi (by decide +kernel) (by decide +kernel)) (by decide +kernel) ⟨by decide, by decide⟩) (ab_all_c (ab_tc_V hx hb hml hown lw_wd_ok hF ⟨rfl, rfl⟩ (con_X1_isFree l D ty base) rfl (lw_wi (by decide +kernel) (by decide +kernel)) (lw_wi (by decide +kernel) (by decide +kernel)) (lw_wi (by decide +kernel) (by decide +kernel)) (lw_wi (by decide +kernel) (by decide +kernel)) (lw_wi (by decide +kernel) (by decide +kernel)) (by decide +kernel) ⟨by decide, by decide⟩) (ab_all_c (ab_tc_V hx hb hml hown lw_wd_ok hF ⟨rfl, rfl⟩ (con_X3_comesInWith l D ty base) rfl (lw_wi (by decide +kernel) (by decide +kernel)) (lw_wi (by decide +kernel) (by decide +kernel)) (lw_wi (by decide +kernel) (by decide +kernel)) (lw_wi (by decide +kernel) (by decide +kernel)) (lw_wi (by decide +kernel) (by decide +kernel)) (by decide +kernel) ⟨by decide, by decide⟩) (ab_all_n))))))
    (by intro as h K ht; unfold Tr_X3_best at ht; split at ht <;> first | exact ht.elim | exact Nat.le_of_ble_eq_true rfl) (sem_X3_best base)
