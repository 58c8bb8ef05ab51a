/-! ===== Roof: what is in the way ===== -/
def clrG (k : Int) (f : Int → Int) : Int → Int := fun i => if 0 ≤ i ∧ i < k then 0 else f i
theorem clrG_0 (f : Int → Int) : clrG 0 f = f := by
  funext i
  unfold clrG
  rw [if_neg (by omega)]
theorem clrG_s (f : Int → Int) (x : Int) (hx : 0 ≤ x) : ab_uf (clrG x f) x 0 = clrG (x + 1) f := by
  funext i
  unfold ab_uf clrG
  by_cases h : i = x
  · rw [if_pos h, if_pos (by omega)]
  · rw [if_neg h]
    by_cases h2 : 0 ≤ i ∧ i < x
    · rw [if_pos h2, if_pos (by omega)]
    · rw [if_neg h2, if_neg (by omega)]
theorem clrG_r {f : Int → Int} (hf : ∀ i, f i = 0 ∨ f i = 1) (k : Int) : ∀ i, clrG k f i = 0 ∨ clrG k f i = 1 := by
  intro i
  unfold clrG
  split
  · exact Or.inl rfl
  · exact hf i
def goingF (S : RS) (s : Int) : Bool := isKnownF S s && decide (S.goe s = 1)
/-- one more that has to go -/
def wayOne (P : Int × RS) (x y : Int) : Int × RS := (P.1 + bI (letsF P.2 (numberAtF P.2 x y)), letGoF P.2 (numberAtF P.2 x y))
def wayB (row : Int) : Nat → Int → Int × RS → Int × RS
  | 0, _, P => P
  | n + 1, x, P => wayB row n (x + 1) (wayOne (wayOne P x row) x (row + 1))
def wayC (y : Int) : Nat → Int → Int × RS → Int × RS
  | 0, _, P => P
  | n + 1, x, P => wayC y n (x + 1) (bif goingF P.2 (numberAtF P.2 x y) then wayOne P x (y + 1) else P)
def wayD : Nat → Int → Int × RS → Int × RS
  | 0, _, P => P
  | n + 1, y, P => wayD n (y + 1) (wayC y 12 0 P)
def wayF (S : RS) (row from9 wide : Int) : Int × RS := wayD (8 - row).toNat row (wayB row wide.toNat from9 (0, S.s_goe (clrG 200 S.goe)))
noncomputable def Tr_X1_inTheWay : ATr := fun as h K => match as with
  | [.inr (.inl (some a)), .inl row, .inl from9, .inl wide] => ab_so (ab_roof h a) fun P => ((0 ≤ row ∧ row ≤ 7) ∧ (0 ≤ from9 ∧ from9 ≤ 12) ∧ (0 ≤ wide ∧ wide ≤ 4)) ∧ ∀ h', ab_roof h' a = some (P.1, (wayF P.2 row from9 wide).2) → ab_fr h h' (a :: P.1) → K (some (.inl ((wayF P.2 row from9 wide).1))) h'
  | _ => False
theorem mo_X1_inTheWay : ab_mo Tr_X1_inTheWay := by
  intro as h K K' hk ht
  unfold Tr_X1_inTheWay at ht ⊢
  split at ht
  · exact ab_so_mo (fun P q => ⟨q.1, fun h' e1 e2 => hk _ _ (q.2 h' e1 e2)⟩) ht
  · exact ht.elim
def ca_X1_inTheWay : Nat → Option ACS := ab_lk [(68, (0, 1, 3, 0, 0, Tr_X1_numberAt)), (125, (0, 1, 2, 0, 0, Tr_X1_letGo)), (128, (0, 1, 2, 0, 0, Tr_X1_isGoing))]
theorem ca_X1_inTheWay_68 : ca_X1_inTheWay 68 = some (0, 1, 3, 0, 0, Tr_X1_numberAt) := rfl
theorem ca_X1_inTheWay_125 : ca_X1_inTheWay 125 = some (0, 1, 2, 0, 0, Tr_X1_letGo) := rfl
theorem ca_X1_inTheWay_128 : ca_X1_inTheWay 128 = some (0, 1, 2, 0, 0, Tr_X1_isGoing) := rfl
theorem cm_X1_inTheWay : ∀ i q, ca_X1_inTheWay i = some q → ab_moq i q := ab_lk_all (ab_all_c mo_X1_numberAt (ab_all_c mo_X1_letGo (ab_all_c mo_X1_isGoing (ab_all_n))))
set_option maxRecDepth 100000 in
set_option maxHeartbeats 2000000 in
theorem sem_X1_inTheWay (base : Nat) : ab_Sem tbX1 lw_ts base cX1_inTheWay ca_X1_inTheWay 1 7 0 0 (fun as => ab_en as 7) Tr_X1_inTheWay := by
  intro as h K hT V hV
  unfold Tr_X1_inTheWay at hT
  split at hT
  · rename_i a row from9 wide
    obtain ⟨⟨ns, S⟩, hP, hs, hK⟩ := ab_so_el hT
    obtain ⟨hB, hC⟩ := roof_el hP
    obtain ⟨n0, n1, n2, n3, n4, n5, n6, n7, n8, rfl, nd, c, c0, c1, c2, c3, c4, c5, c6, c7, c8⟩ := id hC

    dsimp only at hK hs
    show V 0 [some (.inr (.inl (some a))), some (.inl row), some (.inl from9), some (.inl wide), none, none, none] [] h 0 0
    have innerC : ∀ (y : Int), 0 ≤ y → y < 8 → ∀ (R : Int × RS), (∀ h2, ab_roof h2 a = some ([n0, n1, n2, n3, n4, n5, n6, n7, n8], R.2) → ab_fr h h2 (a :: [n0, n1, n2, n3, n4, n5, n6, n7, n8]) → V 139 [some (.inr (.inl (some a))), some (.inl row), some (.inl from9), some (.inl wide), some (.inl R.1), some (.inl y), some (.inl 12)] [] h2 0 0) → ∀ (n : Nat) (x : Int) (h1 : AH) (P : Int × RS), x + n = 12 → 0 ≤ x → ab_roof h1 a = some ([n0, n1, n2, n3, n4, n5, n6, n7, n8], P.2) → ab_fr h h1 (a :: [n0, n1, n2, n3, n4, n5, n6, n7, n8]) → wayC y n x P = R → V 92 [some (.inr (.inl (some a))), some (.inl row), some (.inl from9), some (.inl wide), some (.inl P.1), some (.inl y), some (.inl x)] [] h1 0 0 := by
      intro y hy0 hy R hk2 n
      induction n with
      | zero =>
        intro x h1 P hx h0 hP1 fr hr
        have he : x = 12 := by omega
        subst he
        simp only [wayC] at hr
        subst hr
        have hk3 := hk2 h1 hP1 fr
        refine hV (fun p => bif p == 92 then true else p == 139) 80 _ _ _ _ _ _ ?_
        simp only [bI_in, bI_0, bI_1, bI_t, bI_f, bI_01, ae_aload_n, ae_bipush, ae_goto, ae_iadd, ae_iconst, ae_ifCond, ae_if_icmp, ae_iinc, ae_iload, ae_invokevirtual, ae_istore, dX1_inTheWay_92, dX1_inTheWay_94, dX1_inTheWay_96, dX1_inTheWay_99, dX1_inTheWay_100, dX1_inTheWay_101, dX1_inTheWay_103, dX1_inTheWay_105, dX1_inTheWay_108, dX1_inTheWay_111, dX1_inTheWay_114, dX1_inTheWay_116, dX1_inTheWay_117, dX1_inTheWay_118, dX1_inTheWay_120, dX1_inTheWay_122, dX1_inTheWay_123, dX1_inTheWay_124, dX1_inTheWay_127, dX1_inTheWay_130, dX1_inTheWay_131, dX1_inTheWay_133, dX1_inTheWay_136, ca_X1_inTheWay_68, ca_X1_inTheWay_125, ca_X1_inTheWay_128, ab_wp0, ab_wps, ab_stp, ab_g, ab_st, ab_k2, ab_cl, ab_pop, ab_sz, ab_2, ab_ret, ab_f4, ab_tg, ab_I, ab_II, ab_A, ab_Rf, ab_VR, ab_IR, ab_VIR, ab_1, ab_LL, ab_DD, ab_ob, ab_pr, ab_qr, ab_ln, ab_so, ab_vI, ab_vA, ab_vD, ab_vL, ab_v2, ab_c, ab_fit, ab_rv, ab_tsw, ab_lsw, ab_up_eq, Fin.isValue, ab_f0, ab_f1, ab_f2, ab_f3, List.getElem?_cons_zero, List.getElem?_cons_succ, List.set_cons_zero, List.set_cons_succ, List.length_cons, List.length_nil, List.size_toArray, List.head?_cons, List.tail_cons, Option.map_some, cond_true, cond_false, true_and, and_true, false_and, and_false, not_true_eq_false, not_false_eq_true, true_imp_iff, false_imp_iff, if_true, if_false, ite_true, ite_false, ↓reduceIte, Nat.reduceAdd, Nat.reduceEqDiff, Nat.reduceLeDiff, Nat.reduceLT, Nat.reduceBEq, Nat.reduceBNe, Int.reduceAdd, Int.reduceNeg, Int.reduceSub, Int.reduceLE, Int.reduceLT, Int.reduceToNat, Int.reduceEq, Int.reduceMul, Int.cast_ofNat_Int, Nat.zero_add, Nat.add_zero, Nat.le_refl, eq_self, ne_eq, reduceCtorEq, or_true, true_or, or_false, false_or, Bool.or_true, Bool.or_false, Bool.true_or, Bool.false_or, Nat.zero_le, Int.le_refl, Int.ofNat_zero, Int.ofNat_one, Bool.false_eq_true]
        simp only [ab_in]
        (repeat' (first | intro _ | refine And.intro ?_ ?_)) <;> (first | exact hk3 | contradiction | omega | (exfalso; omega))
      | succ n ih =>
        intro x h1 P hx h0 hP1 fr hr
        have he : ¬ 12 ≤ x := by omega
        simp only [wayC] at hr
        obtain ⟨hB1, m0, m1, m2, m3, m4, m5, m6, m7, m8, -, -, e9, -⟩ := roof_el hP1
        have hn1 := numberAtF_r hB1 x y
        have hn2 := numberAtF_r hB1 x (y + 1)
        by_cases hg : goingF P.2 (numberAtF P.2 x y) = true
        · simp only [hg, cond_true] at hr
          have aft : ∀ h2, ab_roof h2 a = some ([n0, n1, n2, n3, n4, n5, n6, n7, n8], (wayOne P x (y + 1)).2) → ab_fr h h2 (a :: [n0, n1, n2, n3, n4, n5, n6, n7, n8]) → V 130 [some (.inr (.inl (some a))), some (.inl row), some (.inl from9), some (.inl wide), some (.inl P.1), some (.inl y), some (.inl x)] [.inl (bI (letsF P.2 (numberAtF P.2 x (y + 1)))), .inl P.1] h2 0 0 := by
            intro h2 hP2 fr2
            have ih1 := ih (x + 1) h2 (wayOne P x (y + 1)) (by omega) (by omega) hP2 fr2 hr
            refine hV (fun p => p == 92) 80 _ _ _ _ _ _ ?_
            simp only [ae_goto, ae_iadd, ae_iinc, ae_istore, dX1_inTheWay_130, dX1_inTheWay_131, dX1_inTheWay_133, dX1_inTheWay_136, ca_X1_inTheWay_68, ca_X1_inTheWay_125, ca_X1_inTheWay_128, ab_wp0, ab_wps, ab_stp, ab_g, ab_st, ab_k2, ab_cl, ab_pop, ab_sz, ab_2, ab_ret, ab_f4, ab_tg, ab_I, ab_II, ab_A, ab_Rf, ab_VR, ab_IR, ab_VIR, ab_1, ab_LL, ab_DD, ab_ob, ab_pr, ab_qr, ab_ln, ab_so, ab_vI, ab_vA, ab_vD, ab_vL, ab_v2, ab_c, ab_fit, ab_rv, ab_tsw, ab_lsw, ab_up_eq, Fin.isValue, ab_f0, ab_f1, ab_f2, ab_f3, List.getElem?_cons_zero, List.getElem?_cons_succ, List.set_cons_zero, List.set_cons_succ, List.length_cons, List.length_nil, List.size_toArray, List.head?_cons, List.tail_cons, Option.map_some, cond_true, cond_false, true_and, and_true, false_and, and_false, not_true_eq_false, not_false_eq_true, true_imp_iff, false_imp_iff, if_true, if_false, ite_true, ite_false, ↓reduceIte, Nat.reduceAdd, Nat.reduceEqDiff, Nat.reduceLeDiff, Nat.reduceLT, Nat.reduceBEq, Nat.reduceBNe, Int.reduceAdd, Int.reduceNeg, Int.reduceSub, Int.reduceLE, Int.reduceLT, Int.reduceToNat, Int.reduceEq, Int.reduceMul, Int.cast_ofNat_Int, Nat.zero_add, Nat.add_zero, Nat.le_refl, eq_self, ne_eq, reduceCtorEq, or_true, true_or, or_false, false_or, Bool.or_true, Bool.or_false, Bool.true_or, Bool.false_or, Nat.zero_le, Int.le_refl, Int.ofNat_zero, Int.ofNat_one, Bool.false_eq_true]
            exact ih1
          simp only [wayOne] at aft
          have hg2 : (isKnownF P.2 (numberAtF P.2 x y) && decide (P.2.goe (numberAtF P.2 x y) = 1)) = true := hg
          refine hV (fun p => bif p == 92 then true else p == 130) 80 _ _ _ _ _ _ ?_
          simp only [e9, he, hP1, hg2, bI_in, bI_0, bI_1, bI_t, bI_f, bI_01, Tr_X1_numberAt, Tr_X1_isGoing, Tr_X1_letGo, ae_aload_n, ae_bipush, ae_iadd, ae_iconst, ae_ifCond, ae_if_icmp, ae_iload, ae_invokevirtual, dX1_inTheWay_92, dX1_inTheWay_94, dX1_inTheWay_96, dX1_inTheWay_99, dX1_inTheWay_100, dX1_inTheWay_101, dX1_inTheWay_103, dX1_inTheWay_105, dX1_inTheWay_108, dX1_inTheWay_111, dX1_inTheWay_114, dX1_inTheWay_116, dX1_inTheWay_117, dX1_inTheWay_118, dX1_inTheWay_120, dX1_inTheWay_122, dX1_inTheWay_123, dX1_inTheWay_124, dX1_inTheWay_127, ca_X1_inTheWay_68, ca_X1_inTheWay_125, ca_X1_inTheWay_128, ab_wp0, ab_wps, ab_stp, ab_g, ab_st, ab_k2, ab_cl, ab_pop, ab_sz, ab_2, ab_ret, ab_f4, ab_tg, ab_I, ab_II, ab_A, ab_Rf, ab_VR, ab_IR, ab_VIR, ab_1, ab_LL, ab_DD, ab_ob, ab_pr, ab_qr, ab_ln, ab_so, ab_vI, ab_vA, ab_vD, ab_vL, ab_v2, ab_c, ab_fit, ab_rv, ab_tsw, ab_lsw, ab_up_eq, Fin.isValue, ab_f0, ab_f1, ab_f2, ab_f3, List.getElem?_cons_zero, List.getElem?_cons_succ, List.set_cons_zero, List.set_cons_succ, List.length_cons, List.length_nil, List.size_toArray, List.head?_cons, List.tail_cons, Option.map_some, cond_true, cond_false, true_and, and_true, false_and, and_false, not_true_eq_false, not_false_eq_true, true_imp_iff, false_imp_iff, if_true, if_false, ite_true, ite_false, ↓reduceIte, Nat.reduceAdd, Nat.reduceEqDiff, Nat.reduceLeDiff, Nat.reduceLT, Nat.reduceBEq, Nat.reduceBNe, Int.reduceAdd, Int.reduceNeg, Int.reduceSub, Int.reduceLE, Int.reduceLT, Int.reduceToNat, Int.reduceEq, Int.reduceMul, Int.cast_ofNat_Int, Nat.zero_add, Nat.add_zero, Nat.le_refl, eq_self, ne_eq, reduceCtorEq, or_true, true_or, or_false, false_or, Bool.or_true, Bool.or_false, Bool.true_or, Bool.false_or, Nat.zero_le, Int.le_refl, Int.ofNat_zero, Int.ofNat_one, Bool.false_eq_true]
          simp only [ab_in]
          (repeat' (first | intro _ | refine And.intro ?_ ?_)) <;> (first | exact aft _ (by assumption) (fr.tr (by assumption)) | contradiction | omega | (exfalso; omega))
        · simp only [hg, cond_false] at hr
          have ih1 := ih (x + 1) h1 P (by omega) (by omega) hP1 fr hr
          have hg2 : ¬ (isKnownF P.2 (numberAtF P.2 x y) && decide (P.2.goe (numberAtF P.2 x y) = 1)) = true := hg
          refine hV (fun p => bif p == 92 then true else p == 130) 80 _ _ _ _ _ _ ?_
          simp only [e9, he, hP1, hg2, bI_in, bI_0, bI_1, bI_t, bI_f, bI_01, Tr_X1_numberAt, Tr_X1_isGoing, Tr_X1_letGo, ae_aload_n, ae_bipush, ae_goto, ae_iadd, ae_iconst, ae_ifCond, ae_if_icmp, ae_iinc, ae_iload, ae_invokevirtual, ae_istore, dX1_inTheWay_92, dX1_inTheWay_94, dX1_inTheWay_96, dX1_inTheWay_99, dX1_inTheWay_100, dX1_inTheWay_101, dX1_inTheWay_103, dX1_inTheWay_105, dX1_inTheWay_108, dX1_inTheWay_111, dX1_inTheWay_114, dX1_inTheWay_116, dX1_inTheWay_117, dX1_inTheWay_118, dX1_inTheWay_120, dX1_inTheWay_122, dX1_inTheWay_123, dX1_inTheWay_124, dX1_inTheWay_127, dX1_inTheWay_130, dX1_inTheWay_131, dX1_inTheWay_133, dX1_inTheWay_136, ca_X1_inTheWay_68, ca_X1_inTheWay_125, ca_X1_inTheWay_128, ab_wp0, ab_wps, ab_stp, ab_g, ab_st, ab_k2, ab_cl, ab_pop, ab_sz, ab_2, ab_ret, ab_f4, ab_tg, ab_I, ab_II, ab_A, ab_Rf, ab_VR, ab_IR, ab_VIR, ab_1, ab_LL, ab_DD, ab_ob, ab_pr, ab_qr, ab_ln, ab_so, ab_vI, ab_vA, ab_vD, ab_vL, ab_v2, ab_c, ab_fit, ab_rv, ab_tsw, ab_lsw, ab_up_eq, Fin.isValue, ab_f0, ab_f1, ab_f2, ab_f3, List.getElem?_cons_zero, List.getElem?_cons_succ, List.set_cons_zero, List.set_cons_succ, List.length_cons, List.length_nil, List.size_toArray, List.head?_cons, List.tail_cons, Option.map_some, cond_true, cond_false, true_and, and_true, false_and, and_false, not_true_eq_false, not_false_eq_true, true_imp_iff, false_imp_iff, if_true, if_false, ite_true, ite_false, ↓reduceIte, Nat.reduceAdd, Nat.reduceEqDiff, Nat.reduceLeDiff, Nat.reduceLT, Nat.reduceBEq, Nat.reduceBNe, Int.reduceAdd, Int.reduceNeg, Int.reduceSub, Int.reduceLE, Int.reduceLT, Int.reduceToNat, Int.reduceEq, Int.reduceMul, Int.cast_ofNat_Int, Nat.zero_add, Nat.add_zero, Nat.le_refl, eq_self, ne_eq, reduceCtorEq, or_true, true_or, or_false, false_or, Bool.or_true, Bool.or_false, Bool.true_or, Bool.false_or, Nat.zero_le, Int.le_refl, Int.ofNat_zero, Int.ofNat_one, Bool.false_eq_true]
          simp only [ab_in]
          (repeat' (first | intro _ | refine And.intro ?_ ?_)) <;> (first | exact ih1 | contradiction | omega | (exfalso; omega))
    have outerD : ∀ (n : Nat) (y : Int) (h1 : AH) (P : Int × RS) (w : Option AV), (w = none ∨ ∃ v, w = some (.inl v)) → y + n = 8 → 0 ≤ y → ab_roof h1 a = some ([n0, n1, n2, n3, n4, n5, n6, n7, n8], P.2) → ab_fr h h1 (a :: [n0, n1, n2, n3, n4, n5, n6, n7, n8]) → wayD n y P = wayF S row from9 wide → V 82 [some (.inr (.inl (some a))), some (.inl row), some (.inl from9), some (.inl wide), some (.inl P.1), some (.inl y), w] [] h1 0 0 := by
      intro n
      induction n with
      | zero =>
        intro y h1 P w hw hy h0 hP1 fr hr
        have he : y = 8 := by omega
        subst he
        simp only [wayD] at hr
        rw [← hr] at hK
        have hk3 := hK h1 hP1 fr
        refine hV (fun p => bif p == 82 then true else p == 92) 80 _ _ _ _ _ _ ?_
        simp only [bI_in, bI_0, bI_1, bI_t, bI_f, bI_01, ae_aload_n, ae_bipush, ae_goto, ae_iadd, ae_iconst, ae_ifCond, ae_if_icmp, ae_iinc, ae_iload, ae_invokevirtual, ae_ireturn, ae_istore, dX1_inTheWay_82, dX1_inTheWay_84, dX1_inTheWay_86, dX1_inTheWay_89, dX1_inTheWay_90, dX1_inTheWay_92, dX1_inTheWay_94, dX1_inTheWay_96, dX1_inTheWay_99, dX1_inTheWay_100, dX1_inTheWay_101, dX1_inTheWay_103, dX1_inTheWay_105, dX1_inTheWay_108, dX1_inTheWay_111, dX1_inTheWay_114, dX1_inTheWay_116, dX1_inTheWay_117, dX1_inTheWay_118, dX1_inTheWay_120, dX1_inTheWay_122, dX1_inTheWay_123, dX1_inTheWay_124, dX1_inTheWay_127, dX1_inTheWay_130, dX1_inTheWay_131, dX1_inTheWay_133, dX1_inTheWay_136, dX1_inTheWay_139, dX1_inTheWay_142, dX1_inTheWay_145, dX1_inTheWay_147, ca_X1_inTheWay_68, ca_X1_inTheWay_125, ca_X1_inTheWay_128, ab_wp0, ab_wps, ab_stp, ab_g, ab_st, ab_k2, ab_cl, ab_pop, ab_sz, ab_2, ab_ret, ab_f4, ab_tg, ab_I, ab_II, ab_A, ab_Rf, ab_VR, ab_IR, ab_VIR, ab_1, ab_LL, ab_DD, ab_ob, ab_pr, ab_qr, ab_ln, ab_so, ab_vI, ab_vA, ab_vD, ab_vL, ab_v2, ab_c, ab_fit, ab_rv, ab_tsw, ab_lsw, ab_up_eq, Fin.isValue, ab_f0, ab_f1, ab_f2, ab_f3, List.getElem?_cons_zero, List.getElem?_cons_succ, List.set_cons_zero, List.set_cons_succ, List.length_cons, List.length_nil, List.size_toArray, List.head?_cons, List.tail_cons, Option.map_some, cond_true, cond_false, true_and, and_true, false_and, and_false, not_true_eq_false, not_false_eq_true, true_imp_iff, false_imp_iff, if_true, if_false, ite_true, ite_false, ↓reduceIte, Nat.reduceAdd, Nat.reduceEqDiff, Nat.reduceLeDiff, Nat.reduceLT, Nat.reduceBEq, Nat.reduceBNe, Int.reduceAdd, Int.reduceNeg, Int.reduceSub, Int.reduceLE, Int.reduceLT, Int.reduceToNat, Int.reduceEq, Int.reduceMul, Int.cast_ofNat_Int, Nat.zero_add, Nat.add_zero, Nat.le_refl, eq_self, ne_eq, reduceCtorEq, or_true, true_or, or_false, false_or, Bool.or_true, Bool.or_false, Bool.true_or, Bool.false_or, Nat.zero_le, Int.le_refl, Int.ofNat_zero, Int.ofNat_one, Bool.false_eq_true]
        simp only [ab_in]
        (repeat' (first | intro _ | refine And.intro ?_ ?_)) <;> (first | exact hk3 | contradiction | omega | (exfalso; omega))
      | succ n ih =>
        intro y h1 P w hw hy h0 hP1 fr hr
        have he : ¬ 8 ≤ y := by omega
        simp only [wayD] at hr
        have i1 := innerC y h0 (by omega) (wayC y 12 0 P) (by
          intro h2 hP2 fr2
          have ih1 := ih (y + 1) h2 (wayC y 12 0 P) (some (.inl 12)) (Or.inr ⟨12, rfl⟩) (by omega) (by omega) hP2 fr2 hr
          refine hV (fun p => p == 82) 80 _ _ _ _ _ _ ?_
          simp only [ae_goto, ae_iinc, dX1_inTheWay_139, dX1_inTheWay_142, ca_X1_inTheWay_68, ca_X1_inTheWay_125, ca_X1_inTheWay_128, ab_wp0, ab_wps, ab_stp, ab_g, ab_st, ab_k2, ab_cl, ab_pop, ab_sz, ab_2, ab_ret, ab_f4, ab_tg, ab_I, ab_II, ab_A, ab_Rf, ab_VR, ab_IR, ab_VIR, ab_1, ab_LL, ab_DD, ab_ob, ab_pr, ab_qr, ab_ln, ab_so, ab_vI, ab_vA, ab_vD, ab_vL, ab_v2, ab_c, ab_fit, ab_rv, ab_tsw, ab_lsw, ab_up_eq, Fin.isValue, ab_f0, ab_f1, ab_f2, ab_f3, List.getElem?_cons_zero, List.getElem?_cons_succ, List.set_cons_zero, List.set_cons_succ, List.length_cons, List.length_nil, List.size_toArray, List.head?_cons, List.tail_cons, Option.map_some, cond_true, cond_false, true_and, and_true, false_and, and_false, not_true_eq_false, not_false_eq_true, true_imp_iff, false_imp_iff, if_true, if_false, ite_true, ite_false, ↓reduceIte, Nat.reduceAdd, Nat.reduceEqDiff, Nat.reduceLeDiff, Nat.reduceLT, Nat.reduceBEq, Nat.reduceBNe, Int.reduceAdd, Int.reduceNeg, Int.reduceSub, Int.reduceLE, Int.reduceLT, Int.reduceToNat, Int.reduceEq, Int.reduceMul, Int.cast_ofNat_Int, Nat.zero_add, Nat.add_zero, Nat.le_refl, eq_self, ne_eq, reduceCtorEq, or_true, true_or, or_false, false_or, Bool.or_true, Bool.or_false, Bool.true_or, Bool.false_or, Nat.zero_le, Int.le_refl, Int.ofNat_zero, Int.ofNat_one, Bool.false_eq_true]
          exact ih1) 12 0 h1 P (by omega) (by omega) hP1 fr rfl
        rcases hw with rfl | ⟨v, rfl⟩
        all_goals (refine hV (fun p => bif p == 82 then true else p == 92) 80 _ _ _ _ _ _ ?_; simp only [he, bI_in, bI_0, bI_1, bI_t, bI_f, bI_01, ae_bipush, ae_iconst, ae_if_icmp, ae_iload, ae_istore, dX1_inTheWay_82, dX1_inTheWay_84, dX1_inTheWay_86, dX1_inTheWay_89, dX1_inTheWay_90, ca_X1_inTheWay_68, ca_X1_inTheWay_125, ca_X1_inTheWay_128, ab_wp0, ab_wps, ab_stp, ab_g, ab_st, ab_k2, ab_cl, ab_pop, ab_sz, ab_2, ab_ret, ab_f4, ab_tg, ab_I, ab_II, ab_A, ab_Rf, ab_VR, ab_IR, ab_VIR, ab_1, ab_LL, ab_DD, ab_ob, ab_pr, ab_qr, ab_ln, ab_so, ab_vI, ab_vA, ab_vD, ab_vL, ab_v2, ab_c, ab_fit, ab_rv, ab_tsw, ab_lsw, ab_up_eq, Fin.isValue, ab_f0, ab_f1, ab_f2, ab_f3, List.getElem?_cons_zero, List.getElem?_cons_succ, List.set_cons_zero, List.set_cons_succ, List.length_cons, List.length_nil, List.size_toArray, List.head?_cons, List.tail_cons, Option.map_some, cond_true, cond_false, true_and, and_true, false_and, and_false, not_true_eq_false, not_false_eq_true, true_imp_iff, false_imp_iff, if_true, if_false, ite_true, ite_false, ↓reduceIte, Nat.reduceAdd, Nat.reduceEqDiff, Nat.reduceLeDiff, Nat.reduceLT, Nat.reduceBEq, Nat.reduceBNe, Int.reduceAdd, Int.reduceNeg, Int.reduceSub, Int.reduceLE, Int.reduceLT, Int.reduceToNat, Int.reduceEq, Int.reduceMul, Int.cast_ofNat_Int, Nat.zero_add, Nat.add_zero, Nat.le_refl, eq_self, ne_eq, reduceCtorEq, or_true, true_or, or_false, false_or, Bool.or_true, Bool.or_false, Bool.true_or, Bool.false_or, Nat.zero_le, Int.le_refl, Int.ofNat_zero, Int.ofNat_one, Bool.false_eq_true]; simp only [ab_in]; (repeat' (first | intro _ | refine And.intro ?_ ?_)) <;> (first | exact i1 | contradiction | omega | (exfalso; omega)))
    have loopB : ∀ (n : Nat) (x : Int) (h1 : AH) (P : Int × RS), x + n = from9 + wide → 0 ≤ x → ab_roof h1 a = some ([n0, n1, n2, n3, n4, n5, n6, n7, n8], P.2) → ab_fr h h1 (a :: [n0, n1, n2, n3, n4, n5, n6, n7, n8]) → wayB row n x P = wayB row wide.toNat from9 (0, S.s_goe (clrG 200 S.goe)) → V 31 [some (.inr (.inl (some a))), some (.inl row), some (.inl from9), some (.inl wide), some (.inl P.1), some (.inl x), none] [] h1 0 0 := by
      intro n
      induction n with
      | zero =>
        intro x h1 P hx h0 hP1 fr hr
        have he : from9 + wide ≤ x := by omega
        simp only [wayB] at hr
        have l1 := outerD (8 - row).toNat row h1 P none (Or.inl rfl) (by omega) (by omega) hP1 fr (by rw [hr]; rfl)
        refine hV (fun p => bif p == 31 then true else p == 82) 80 _ _ _ _ _ _ ?_
        simp only [he, bI_in, bI_0, bI_1, bI_t, bI_f, bI_01, ae_aload_n, ae_goto, ae_iadd, ae_iconst, ae_if_icmp, ae_iinc, ae_iload, ae_iload_n, ae_invokevirtual, ae_istore, dX1_inTheWay_31, dX1_inTheWay_33, dX1_inTheWay_34, dX1_inTheWay_35, dX1_inTheWay_36, dX1_inTheWay_39, dX1_inTheWay_41, dX1_inTheWay_42, dX1_inTheWay_43, dX1_inTheWay_45, dX1_inTheWay_46, dX1_inTheWay_49, dX1_inTheWay_52, dX1_inTheWay_53, dX1_inTheWay_55, dX1_inTheWay_57, dX1_inTheWay_58, dX1_inTheWay_59, dX1_inTheWay_61, dX1_inTheWay_62, dX1_inTheWay_63, dX1_inTheWay_64, dX1_inTheWay_67, dX1_inTheWay_70, dX1_inTheWay_71, dX1_inTheWay_73, dX1_inTheWay_76, dX1_inTheWay_79, dX1_inTheWay_80, ca_X1_inTheWay_68, ca_X1_inTheWay_125, ca_X1_inTheWay_128, ab_wp0, ab_wps, ab_stp, ab_g, ab_st, ab_k2, ab_cl, ab_pop, ab_sz, ab_2, ab_ret, ab_f4, ab_tg, ab_I, ab_II, ab_A, ab_Rf, ab_VR, ab_IR, ab_VIR, ab_1, ab_LL, ab_DD, ab_ob, ab_pr, ab_qr, ab_ln, ab_so, ab_vI, ab_vA, ab_vD, ab_vL, ab_v2, ab_c, ab_fit, ab_rv, ab_tsw, ab_lsw, ab_up_eq, Fin.isValue, ab_f0, ab_f1, ab_f2, ab_f3, List.getElem?_cons_zero, List.getElem?_cons_succ, List.set_cons_zero, List.set_cons_succ, List.length_cons, List.length_nil, List.size_toArray, List.head?_cons, List.tail_cons, Option.map_some, cond_true, cond_false, true_and, and_true, false_and, and_false, not_true_eq_false, not_false_eq_true, true_imp_iff, false_imp_iff, if_true, if_false, ite_true, ite_false, ↓reduceIte, Nat.reduceAdd, Nat.reduceEqDiff, Nat.reduceLeDiff, Nat.reduceLT, Nat.reduceBEq, Nat.reduceBNe, Int.reduceAdd, Int.reduceNeg, Int.reduceSub, Int.reduceLE, Int.reduceLT, Int.reduceToNat, Int.reduceEq, Int.reduceMul, Int.cast_ofNat_Int, Nat.zero_add, Nat.add_zero, Nat.le_refl, eq_self, ne_eq, reduceCtorEq, or_true, true_or, or_false, false_or, Bool.or_true, Bool.or_false, Bool.true_or, Bool.false_or, Nat.zero_le, Int.le_refl, Int.ofNat_zero, Int.ofNat_one, Bool.false_eq_true]
        simp only [ab_in]
        (repeat' (first | intro _ | refine And.intro ?_ ?_)) <;> (first | exact l1 | contradiction | omega | (exfalso; omega))
      | succ n ih =>
        intro x h1 P hx h0 hP1 fr hr
        have he : ¬ from9 + wide ≤ x := by omega
        simp only [wayB] at hr
        obtain ⟨hB1, m0, m1, m2, m3, m4, m5, m6, m7, m8, -, -, e9, -⟩ := roof_el hP1
        have hn1 := numberAtF_r hB1 x row
        have a2 : ∀ h2 (Q : Int × RS), Q = wayOne P x row → ab_roof h2 a = some ([n0, n1, n2, n3, n4, n5, n6, n7, n8], (wayOne Q x (row + 1)).2) → ab_fr h h2 (a :: [n0, n1, n2, n3, n4, n5, n6, n7, n8]) → V 70 [some (.inr (.inl (some a))), some (.inl row), some (.inl from9), some (.inl wide), some (.inl Q.1), some (.inl x), none] [.inl (bI (letsF Q.2 (numberAtF Q.2 x (row + 1)))), .inl Q.1] h2 0 0 := by
          intro h2 Q hq hP2 fr2
          have ih1 := ih (x + 1) h2 (wayOne Q x (row + 1)) (by omega) (by omega) hP2 fr2 (by rw [hq]; exact hr)
          refine hV (fun p => p == 31) 80 _ _ _ _ _ _ ?_
          simp only [ae_goto, ae_iadd, ae_iinc, ae_istore, dX1_inTheWay_70, dX1_inTheWay_71, dX1_inTheWay_73, dX1_inTheWay_76, ca_X1_inTheWay_68, ca_X1_inTheWay_125, ca_X1_inTheWay_128, ab_wp0, ab_wps, ab_stp, ab_g, ab_st, ab_k2, ab_cl, ab_pop, ab_sz, ab_2, ab_ret, ab_f4, ab_tg, ab_I, ab_II, ab_A, ab_Rf, ab_VR, ab_IR, ab_VIR, ab_1, ab_LL, ab_DD, ab_ob, ab_pr, ab_qr, ab_ln, ab_so, ab_vI, ab_vA, ab_vD, ab_vL, ab_v2, ab_c, ab_fit, ab_rv, ab_tsw, ab_lsw, ab_up_eq, Fin.isValue, ab_f0, ab_f1, ab_f2, ab_f3, List.getElem?_cons_zero, List.getElem?_cons_succ, List.set_cons_zero, List.set_cons_succ, List.length_cons, List.length_nil, List.size_toArray, List.head?_cons, List.tail_cons, Option.map_some, cond_true, cond_false, true_and, and_true, false_and, and_false, not_true_eq_false, not_false_eq_true, true_imp_iff, false_imp_iff, if_true, if_false, ite_true, ite_false, ↓reduceIte, Nat.reduceAdd, Nat.reduceEqDiff, Nat.reduceLeDiff, Nat.reduceLT, Nat.reduceBEq, Nat.reduceBNe, Int.reduceAdd, Int.reduceNeg, Int.reduceSub, Int.reduceLE, Int.reduceLT, Int.reduceToNat, Int.reduceEq, Int.reduceMul, Int.cast_ofNat_Int, Nat.zero_add, Nat.add_zero, Nat.le_refl, eq_self, ne_eq, reduceCtorEq, or_true, true_or, or_false, false_or, Bool.or_true, Bool.or_false, Bool.true_or, Bool.false_or, Nat.zero_le, Int.le_refl, Int.ofNat_zero, Int.ofNat_one, Bool.false_eq_true]
          exact ih1
        have a1 : ∀ h2, ab_roof h2 a = some ([n0, n1, n2, n3, n4, n5, n6, n7, n8], (wayOne P x row).2) → ab_fr h h2 (a :: [n0, n1, n2, n3, n4, n5, n6, n7, n8]) → V 52 [some (.inr (.inl (some a))), some (.inl row), some (.inl from9), some (.inl wide), some (.inl P.1), some (.inl x), none] [.inl (bI (letsF P.2 (numberAtF P.2 x row))), .inl P.1] h2 0 0 := by
          intro h2 hP2 fr2
          obtain ⟨hB2, m0, m1, m2, m3, m4, m5, m6, m7, m8, -, -, e9, -⟩ := roof_el hP2
          have hn2 := numberAtF_r hB2 x (row + 1)
          have a3 := fun h3 => a2 h3 (wayOne P x row) rfl
          have e1 : P.1 + bI (letsF P.2 (numberAtF P.2 x row)) = (wayOne P x row).1 := rfl
          generalize wayOne P x row = Q at hP2 hn2 a3 e1
          simp only [wayOne] at a3
          refine hV (fun p => bif p == 31 then true else p == 70) 80 _ _ _ _ _ _ ?_
          simp only [e9, e1, hP2, bI_in, bI_0, bI_1, bI_t, bI_f, bI_01, Tr_X1_numberAt, Tr_X1_letGo, ae_aload_n, ae_iadd, ae_iconst, ae_iload, ae_iload_n, ae_invokevirtual, ae_istore, dX1_inTheWay_52, dX1_inTheWay_53, dX1_inTheWay_55, dX1_inTheWay_57, dX1_inTheWay_58, dX1_inTheWay_59, dX1_inTheWay_61, dX1_inTheWay_62, dX1_inTheWay_63, dX1_inTheWay_64, dX1_inTheWay_67, ca_X1_inTheWay_68, ca_X1_inTheWay_125, ca_X1_inTheWay_128, ab_wp0, ab_wps, ab_stp, ab_g, ab_st, ab_k2, ab_cl, ab_pop, ab_sz, ab_2, ab_ret, ab_f4, ab_tg, ab_I, ab_II, ab_A, ab_Rf, ab_VR, ab_IR, ab_VIR, ab_1, ab_LL, ab_DD, ab_ob, ab_pr, ab_qr, ab_ln, ab_so, ab_vI, ab_vA, ab_vD, ab_vL, ab_v2, ab_c, ab_fit, ab_rv, ab_tsw, ab_lsw, ab_up_eq, Fin.isValue, ab_f0, ab_f1, ab_f2, ab_f3, List.getElem?_cons_zero, List.getElem?_cons_succ, List.set_cons_zero, List.set_cons_succ, List.length_cons, List.length_nil, List.size_toArray, List.head?_cons, List.tail_cons, Option.map_some, cond_true, cond_false, true_and, and_true, false_and, and_false, not_true_eq_false, not_false_eq_true, true_imp_iff, false_imp_iff, if_true, if_false, ite_true, ite_false, ↓reduceIte, Nat.reduceAdd, Nat.reduceEqDiff, Nat.reduceLeDiff, Nat.reduceLT, Nat.reduceBEq, Nat.reduceBNe, Int.reduceAdd, Int.reduceNeg, Int.reduceSub, Int.reduceLE, Int.reduceLT, Int.reduceToNat, Int.reduceEq, Int.reduceMul, Int.cast_ofNat_Int, Nat.zero_add, Nat.add_zero, Nat.le_refl, eq_self, ne_eq, reduceCtorEq, or_true, true_or, or_false, false_or, Bool.or_true, Bool.or_false, Bool.true_or, Bool.false_or, Nat.zero_le, Int.le_refl, Int.ofNat_zero, Int.ofNat_one, Bool.false_eq_true]
          simp only [ab_in]
          (repeat' (first | intro _ | refine And.intro ?_ ?_)) <;> (first | exact a3 _ (by assumption) (fr2.tr (by assumption)) | contradiction | omega | (exfalso; omega))
        simp only [wayOne] at a1
        refine hV (fun p => bif p == 31 then true else p == 52) 80 _ _ _ _ _ _ ?_
        simp only [e9, he, hP1, bI_in, bI_0, bI_1, bI_t, bI_f, bI_01, Tr_X1_numberAt, Tr_X1_letGo, ae_aload_n, ae_iadd, ae_if_icmp, ae_iload, ae_iload_n, ae_invokevirtual, dX1_inTheWay_31, dX1_inTheWay_33, dX1_inTheWay_34, dX1_inTheWay_35, dX1_inTheWay_36, dX1_inTheWay_39, dX1_inTheWay_41, dX1_inTheWay_42, dX1_inTheWay_43, dX1_inTheWay_45, dX1_inTheWay_46, dX1_inTheWay_49, ca_X1_inTheWay_68, ca_X1_inTheWay_125, ca_X1_inTheWay_128, ab_wp0, ab_wps, ab_stp, ab_g, ab_st, ab_k2, ab_cl, ab_pop, ab_sz, ab_2, ab_ret, ab_f4, ab_tg, ab_I, ab_II, ab_A, ab_Rf, ab_VR, ab_IR, ab_VIR, ab_1, ab_LL, ab_DD, ab_ob, ab_pr, ab_qr, ab_ln, ab_so, ab_vI, ab_vA, ab_vD, ab_vL, ab_v2, ab_c, ab_fit, ab_rv, ab_tsw, ab_lsw, ab_up_eq, Fin.isValue, ab_f0, ab_f1, ab_f2, ab_f3, List.getElem?_cons_zero, List.getElem?_cons_succ, List.set_cons_zero, List.set_cons_succ, List.length_cons, List.length_nil, List.size_toArray, List.head?_cons, List.tail_cons, Option.map_some, cond_true, cond_false, true_and, and_true, false_and, and_false, not_true_eq_false, not_false_eq_true, true_imp_iff, false_imp_iff, if_true, if_false, ite_true, ite_false, ↓reduceIte, Nat.reduceAdd, Nat.reduceEqDiff, Nat.reduceLeDiff, Nat.reduceLT, Nat.reduceBEq, Nat.reduceBNe, Int.reduceAdd, Int.reduceNeg, Int.reduceSub, Int.reduceLE, Int.reduceLT, Int.reduceToNat, Int.reduceEq, Int.reduceMul, Int.cast_ofNat_Int, Nat.zero_add, Nat.add_zero, Nat.le_refl, eq_self, ne_eq, reduceCtorEq, or_true, true_or, or_false, false_or, Bool.or_true, Bool.or_false, Bool.true_or, Bool.false_or, Nat.zero_le, Int.le_refl, Int.ofNat_zero, Int.ofNat_one, Bool.false_eq_true]
        simp only [ab_in]
        (repeat' (first | intro _ | refine And.intro ?_ ?_)) <;> (first | exact a1 _ (by assumption) (fr.tr (by assumption)) | contradiction | omega | (exfalso; omega))
    have loopA : ∀ (n : Nat) (x : Int) (h1 : AH), x + n = 200 → 0 ≤ x → roofCells h1 a [n0, n1, n2, n3, n4, n5, n6, n7, n8] (S.s_goe (clrG x S.goe)) → ab_fr h h1 (a :: [n0, n1, n2, n3, n4, n5, n6, n7, n8]) → V 3 [some (.inr (.inl (some a))), some (.inl row), some (.inl from9), some (.inl wide), some (.inl x), none, none] [] h1 0 0 := by
      intro n
      induction n with
      | zero =>
        intro x h1 hx h0 hC2 fr
        have he : x = 200 := by omega
        subst he
        have l1 := loopB wide.toNat from9 h1 (0, S.s_goe (clrG 200 S.goe)) (by omega) (by omega) (roof_of ⟨hB.s_goe (clrG_r hB.goe_r 200), hC2⟩) fr rfl
        refine hV (fun p => bif p == 3 then true else p == 31) 80 _ _ _ _ _ _ ?_
        simp only [bI_in, bI_0, bI_1, bI_t, bI_f, bI_01, ae_aload_n, ae_bastore, ae_getfield, ae_goto, ae_iconst, ae_if_icmp, ae_iinc, ae_iload, ae_iload_n, ae_istore, ae_sipush, dX1_inTheWay_3, dX1_inTheWay_5, dX1_inTheWay_8, dX1_inTheWay_11, dX1_inTheWay_12, dX1_inTheWay_15, dX1_inTheWay_17, dX1_inTheWay_18, dX1_inTheWay_19, dX1_inTheWay_22, dX1_inTheWay_25, dX1_inTheWay_26, dX1_inTheWay_28, dX1_inTheWay_29, tbX1_g37, ca_X1_inTheWay_68, ca_X1_inTheWay_125, ca_X1_inTheWay_128, ab_wp0, ab_wps, ab_stp, ab_g, ab_st, ab_k2, ab_cl, ab_pop, ab_sz, ab_2, ab_ret, ab_f4, ab_tg, ab_I, ab_II, ab_A, ab_Rf, ab_VR, ab_IR, ab_VIR, ab_1, ab_LL, ab_DD, ab_ob, ab_pr, ab_qr, ab_ln, ab_so, ab_vI, ab_vA, ab_vD, ab_vL, ab_v2, ab_c, ab_fit, ab_rv, ab_tsw, ab_lsw, ab_up_eq, Fin.isValue, ab_f0, ab_f1, ab_f2, ab_f3, List.getElem?_cons_zero, List.getElem?_cons_succ, List.set_cons_zero, List.set_cons_succ, List.length_cons, List.length_nil, List.size_toArray, List.head?_cons, List.tail_cons, Option.map_some, cond_true, cond_false, true_and, and_true, false_and, and_false, not_true_eq_false, not_false_eq_true, true_imp_iff, false_imp_iff, if_true, if_false, ite_true, ite_false, ↓reduceIte, Nat.reduceAdd, Nat.reduceEqDiff, Nat.reduceLeDiff, Nat.reduceLT, Nat.reduceBEq, Nat.reduceBNe, Int.reduceAdd, Int.reduceNeg, Int.reduceSub, Int.reduceLE, Int.reduceLT, Int.reduceToNat, Int.reduceEq, Int.reduceMul, Int.cast_ofNat_Int, Nat.zero_add, Nat.add_zero, Nat.le_refl, eq_self, ne_eq, reduceCtorEq, or_true, true_or, or_false, false_or, Bool.or_true, Bool.or_false, Bool.true_or, Bool.false_or, Nat.zero_le, Int.le_refl, Int.ofNat_zero, Int.ofNat_one, Bool.false_eq_true]
        simp only [ab_in]
        (repeat' (first | intro _ | refine And.intro ?_ ?_)) <;> (first | exact l1 | contradiction | omega | (exfalso; omega))
      | succ n ih =>
        intro x h1 hx h0 hC2 fr
        have he : ¬ 200 ≤ x := by omega
        have ih1 := ih (x + 1) _ (by omega) (by omega) (rc_goe hC2 (clrG (x + 1) S.goe)) (fr.up (by simp))
        rw [← clrG_s S.goe x h0] at ih1
        obtain ⟨m0, m1, m2, m3, m4, m5, m6, m7, m8, em, nd2, (d : h1 a = some (.inl (1, [.inr (.inl (some m0)), .inr (.inl (some m1)), .inr (.inl (some m2)), .inr (.inl (some m3)), .inr (.inl (some m4)), .inr (.inl (some m5)), .inr (.inl (some m6)), .inr (.inl (some m7)), .inr (.inl (some m8)), .inl (S.day), .inl (S.laid), .inl (S.there), .inl (S.blown)]))), (d0 : h1 m0 = some (.inr (.inl (0, 96, S.num)))), (d1 : h1 m1 = some (.inr (.inl (0, 96, S.rot)))), (d2 : h1 m2 = some (.inr (.inl (0, 200, S.row)))), (d3 : h1 m3 = some (.inr (.inl (0, 200, S.frm)))), (d4 : h1 m4 = some (.inr (.inl (0, 200, S.wid)))), (d5 : h1 m5 = some (.inr (.inl (0, 200, S.nai)))), (d6 : h1 m6 = some (.inr (.inl (1, 200, S.crk)))), (d7 : h1 m7 = some (.inr (.inl (1, 200, S.onr)))), (d8 : h1 m8 = some (.inr (.inl (1, 200, clrG x S.goe))))⟩ := id hC2
        simp only [List.cons.injEq, and_true] at em
        obtain ⟨rfl, rfl, rfl, rfl, rfl, rfl, rfl, rfl, rfl⟩ := em
        refine hV (fun p => p == 3) 80 _ _ _ _ _ _ ?_
        simp only [d, d8, he, bI_in, bI_0, bI_1, bI_t, bI_f, bI_01, ae_aload_n, ae_bastore, ae_getfield, ae_goto, ae_iconst, ae_if_icmp, ae_iinc, ae_iload, ae_sipush, dX1_inTheWay_3, dX1_inTheWay_5, dX1_inTheWay_8, dX1_inTheWay_11, dX1_inTheWay_12, dX1_inTheWay_15, dX1_inTheWay_17, dX1_inTheWay_18, dX1_inTheWay_19, dX1_inTheWay_22, tbX1_g37, ca_X1_inTheWay_68, ca_X1_inTheWay_125, ca_X1_inTheWay_128, ab_wp0, ab_wps, ab_stp, ab_g, ab_st, ab_k2, ab_cl, ab_pop, ab_sz, ab_2, ab_ret, ab_f4, ab_tg, ab_I, ab_II, ab_A, ab_Rf, ab_VR, ab_IR, ab_VIR, ab_1, ab_LL, ab_DD, ab_ob, ab_pr, ab_qr, ab_ln, ab_so, ab_vI, ab_vA, ab_vD, ab_vL, ab_v2, ab_c, ab_fit, ab_rv, ab_tsw, ab_lsw, ab_up_eq, Fin.isValue, ab_f0, ab_f1, ab_f2, ab_f3, List.getElem?_cons_zero, List.getElem?_cons_succ, List.set_cons_zero, List.set_cons_succ, List.length_cons, List.length_nil, List.size_toArray, List.head?_cons, List.tail_cons, Option.map_some, cond_true, cond_false, true_and, and_true, false_and, and_false, not_true_eq_false, not_false_eq_true, true_imp_iff, false_imp_iff, if_true, if_false, ite_true, ite_false, ↓reduceIte, Nat.reduceAdd, Nat.reduceEqDiff, Nat.reduceLeDiff, Nat.reduceLT, Nat.reduceBEq, Nat.reduceBNe, Int.reduceAdd, Int.reduceNeg, Int.reduceSub, Int.reduceLE, Int.reduceLT, Int.reduceToNat, Int.reduceEq, Int.reduceMul, Int.cast_ofNat_Int, Nat.zero_add, Nat.add_zero, Nat.le_refl, eq_self, ne_eq, reduceCtorEq, or_true, true_or, or_false, false_or, Bool.or_true, Bool.or_false, Bool.true_or, Bool.false_or, Nat.zero_le, Int.le_refl, Int.ofNat_zero, Int.ofNat_one, Bool.false_eq_true]
        simp only [ab_in]
        (repeat' (first | intro _ | refine And.intro ?_ ?_)) <;> (first | exact ih1 | contradiction | omega | (exfalso; omega))
    have l0 := loopA 200 0 h (by omega) (by omega) (by rw [clrG_0]; exact hC) ab_fr.rf
    refine hV (fun p => p == 3) 80 _ _ _ _ _ _ ?_
    simp only [bI_in, bI_0, bI_1, bI_t, bI_f, bI_01, ae_iconst, ae_istore, dX1_inTheWay_0, dX1_inTheWay_1, ca_X1_inTheWay_68, ca_X1_inTheWay_125, ca_X1_inTheWay_128, ab_wp0, ab_wps, ab_stp, ab_g, ab_st, ab_k2, ab_cl, ab_pop, ab_sz, ab_2, ab_ret, ab_f4, ab_tg, ab_I, ab_II, ab_A, ab_Rf, ab_VR, ab_IR, ab_VIR, ab_1, ab_LL, ab_DD, ab_ob, ab_pr, ab_qr, ab_ln, ab_so, ab_vI, ab_vA, ab_vD, ab_vL, ab_v2, ab_c, ab_fit, ab_rv, ab_tsw, ab_lsw, ab_up_eq, Fin.isValue, ab_f0, ab_f1, ab_f2, ab_f3, List.getElem?_cons_zero, List.getElem?_cons_succ, List.set_cons_zero, List.set_cons_succ, List.length_cons, List.length_nil, List.size_toArray, List.head?_cons, List.tail_cons, Option.map_some, cond_true, cond_false, true_and, and_true, false_and, and_false, not_true_eq_false, not_false_eq_true, true_imp_iff, false_imp_iff, if_true, if_false, ite_true, ite_false, ↓reduceIte, Nat.reduceAdd, Nat.reduceEqDiff, Nat.reduceLeDiff, Nat.reduceLT, Nat.reduceBEq, Nat.reduceBNe, Int.reduceAdd, Int.reduceNeg, Int.reduceSub, Int.reduceLE, Int.reduceLT, Int.reduceToNat, Int.reduceEq, Int.reduceMul, Int.cast_ofNat_Int, Nat.zero_add, Nat.add_zero, Nat.le_refl, eq_self, ne_eq, reduceCtorEq, or_true, true_or, or_false, false_or, Bool.or_true, Bool.or_false, Bool.true_or, Bool.false_or, Nat.zero_le, Int.le_refl, Int.ofNat_zero, Int.ofNat_one, Bool.false_eq_true]
    exact l0
  · exact hT.elim
set_option maxRecDepth 100000 in
theorem con_X1_inTheWay (l : Launch) (D : va_G) (ty : Nat → ClassId) (base : Nat) : ab_Con l D vwCl ty lw_ts base lw_wd yX1_inTheWay cX1_inTheWay 7 (some .int) 2 42 0 0 Tr_X1_inTheWay :=
  ab_con_of (own := RX1) (rt := 1) (tb := tbX1) (ini := false) (ca := ca_X1_inTheWay) (by decide +kernel) rfl (fun h => by cases h) rfl lw_wd_ok wtbX1 lw_ar cm_X1_inTheWay
    (fun p e R s m args below meth c K hcx => by
      obtain ⟨hx, hb, hml, hown, hF, rfl⟩ := hcx
      exact ab_lk_all (ab_all_c (ab_tc_V hx hb hml hown lw_wd_ok hF ⟨rfl, rfl⟩ (con_X1_numberAt l D ty base) rfl (lw_wi (by decide +kernel) (by decide +kernel)) (lw_wi (by decide +kernel) (by decide +kernel)) (lw_wi (by decide +kernel) (by decide +kernel)) (lw_wi (by decide +kernel) (by decide +kernel)) (lw_wi (by decide +kernel) (by decide +kernel)) (by decide +kernel) ⟨by decide, by decide⟩) (ab_all_c (ab_tc_V hx hb hml hown lw_wd_ok hF ⟨rfl, rfl⟩ (con_X1_letGo l D ty base) rfl (lw_wi (by decide +kernel) (by decide +kernel)) (lw_wi (by decide +kernel) (by decide +kernel)) (lw_wi (by decide +kernel) (by decide +kernel)) (lw_wi (by decide +kernel) (by decide +kernel)) (lw_wi (by decide +kernel) (by decide +kernel)) (by decide +kernel) ⟨by decide, by decide⟩) (ab_all_c (ab_tc_V hx hb hml hown lw_wd_ok hF ⟨rfl, rfl⟩ (con_X1_isGoing l D ty base) rfl (lw_wi (by decide +kernel) (by decide +kernel)) (lw_wi (by decide +kernel) (by decide +kernel)) (lw_wi (by decide +kernel) (by decide +kernel)) (lw_wi (by decide +kernel) (by decide +kernel)) (lw_wi (by decide +kernel) (by decide +kernel)) (by decide +kernel) ⟨by decide, by decide⟩) (ab_all_n)))))
    (by intro as h K ht; unfold Tr_X1_inTheWay at ht; split at ht <;> first | exact ht.elim | exact Nat.le_of_ble_eq_true rfl) (sem_X1_inTheWay base)
