/-! ===== what is covered ===== -/
def covAt (h : AH) (a : Nat) (P : Nat × (Int → Int)) : Prop := (∀ i, P.2 i = 0 ∨ P.2 i = 1) ∧ ¬ a = P.1 ∧ h a = some (.inl (0, [.inr (.inl (some P.1))])) ∧ h P.1 = some (.inr (.inl (1, 96, P.2)))
theorem cov_uni {h : AH} {a : Nat} : ∀ P P', covAt h a P → covAt h a P' → P = P' := by
  rintro ⟨n0, q0⟩ ⟨m0, r0⟩ ⟨-, -, c, c0⟩ ⟨-, -, d, d0⟩
  have hc := c.symm.trans d
  simp only [Option.some.injEq, Sum.inl.injEq, Sum.inr.injEq, Prod.mk.injEq, List.cons.injEq, true_and, and_true] at hc
  subst hc
  have h0 := c0.symm.trans d0
  simp only [Option.some.injEq, Sum.inl.injEq, Sum.inr.injEq, Prod.mk.injEq, true_and] at h0
  simp only [h0]
noncomputable def ab_cov (h : AH) (a : Nat) : Option (Nat × (Int → Int)) := ab_pk (covAt h a)
theorem cov_of {h : AH} {a : Nat} {P : Nat × (Int → Int)} (h1 : covAt h a P) : ab_cov h a = some P := pk_of cov_uni h1
theorem cov_el {h : AH} {a : Nat} {P : Nat × (Int → Int)} (h1 : ab_cov h a = some P) : covAt h a P := pk_el h1
def inF (f : Int → Int) (rain above x y : Int) : Int := bif isPlaceF x y then (if f (12 * y + x) = 0 then rain + Int.tdiv above 2 else 0) else 0
theorem inF_r {f : Int → Int} {rain above x y : Int} (h1 : 0 ≤ rain ∧ rain ≤ 9) (h2 : 0 ≤ above ∧ above ≤ 18) : 0 ≤ inF f rain above x y ∧ inF f rain above x y ≤ 18 := by
  unfold inF
  cases isPlaceF x y
  · simp
  · simp only [cond_true]
    split
    · rw [Int.tdiv_eq_ediv_of_nonneg h2.1]; omega
    · omega
def colL (f : Int → Int) (rain x : Int) : Nat → Int → Int → Int
  | 0, _, acc => acc
  | n + 1, row, acc => colL f rain x n (row - 1) (inF f rain acc x row)
def inS (f : Int → Int) (rain x : Int) : Nat → Int → Int → Int
  | 0, _, _ => 0
  | n + 1, row, acc => inF f rain acc x row + inS f rain x n (row - 1) (inF f rain acc x row)
def inAllF (f : Int → Int) (rain : Int) : Int := sumR (fun x => inS f rain x 8 7 0) 12 0
def covOneF (f : Int → Int) (x y : Int) : Int → Int := bif isPlaceF x y then ab_uf f (12 * y + x) 1 else f
def covAddL (row : Int) : Nat → Int → (Int → Int) → (Int → Int)
  | 0, _, f => f
  | n + 1, x, f => covAddL row n (x + 1) (covOneF (covOneF f x row) x (row - 1))
theorem covOneF_r {f : Int → Int} (h : ∀ i, f i = 0 ∨ f i = 1) (x y : Int) : ∀ i, covOneF f x y i = 0 ∨ covOneF f x y i = 1 := by
  unfold covOneF
  cases isPlaceF x y
  · exact h
  · exact uf_all (P := fun q => q = 0 ∨ q = 1) h (Or.inr rfl)
def rdL (S : RS) (f : Int → Int) (k : Int) : Int → Int := fun i => if 0 ≤ i ∧ i < k then bI (coveredF S (i % 12) (i / 12)) else f i
theorem rdL_0 (S : RS) (f : Int → Int) : rdL S f 0 = f := by
  funext i
  unfold rdL
  rw [if_neg (by omega)]
theorem rdL_s (S : RS) (f : Int → Int) (x y : Int) (hx : 0 ≤ x ∧ x < 12) (hy : 0 ≤ y) : ab_uf (rdL S f (12 * y + x)) (12 * y + x) (bI (coveredF S x y)) = rdL S f (12 * y + (x + 1)) := by
  funext i
  unfold ab_uf rdL
  by_cases h : i = 12 * y + x
  · have e1 : i % 12 = x := by omega
    have e2 : i / 12 = y := by omega
    rw [if_pos h, if_pos (by omega), e1, e2]
  · rw [if_neg h]
    by_cases h2 : 0 ≤ i ∧ i < 12 * y + x
    · rw [if_pos h2, if_pos (by omega)]
    · rw [if_neg h2, if_neg (by omega)]
theorem rdL_r {S : RS} {f : Int → Int} (h : ∀ i, f i = 0 ∨ f i = 1) (k : Int) : ∀ i, rdL S f k i = 0 ∨ rdL S f k i = 1 := by
  intro i
  unfold rdL
  split
  · exact bI_or _
  · exact h i
/-- what isn't touched keeps its picture -/
theorem roof_fr {h h' : AH} {a : Nat} {ns : List Nat} {S : RS} (h1 : ab_roof h a = some (ns, S)) (h2 : ∀ b, b = a ∨ b ∈ ns → h' b = h b) : ab_roof h' a = some (ns, S) := by
  obtain ⟨hB, n0, n1, n2, n3, n4, n5, n6, n7, n8, rfl, nd, c, c0, c1, c2, c3, c4, c5, c6, c7, c8⟩ := roof_el h1
  refine roof_of ⟨hB, n0, n1, n2, n3, n4, n5, n6, n7, n8, rfl, nd, ?_, ?_, ?_, ?_, ?_, ?_, ?_, ?_, ?_, ?_⟩ <;> (rw [h2 _ (by simp)]; assumption)
theorem cov_fr {h h' : AH} {a : Nat} {P : Nat × (Int → Int)} (h1 : ab_cov h a = some P) (h2 : h' a = h a) (h3 : h' P.1 = h P.1) : ab_cov h' a = some P := by
  obtain ⟨q0, q1, q2, q3⟩ := cov_el h1
  exact cov_of ⟨q0, q1, h2.trans q2, h3.trans q3⟩
theorem tab_fr {h h' : AH} {a : Nat} {P : (Nat × Nat × Nat × Nat) × TS} (h1 : ab_tab h a = some P) (h2 : ∀ b ∈ [a, P.1.1, P.1.2.1, P.1.2.2.1, P.1.2.2.2], h' b = h b) : ab_tab h' a = some P := by
  obtain ⟨q0, q1, q2, q3, q4, q5, q6⟩ := tab_el h1
  exact tab_of ⟨q0, q1, (h2 _ (by simp)).trans q2, (h2 _ (by simp)).trans q3, (h2 _ (by simp)).trans q4, (h2 _ (by simp)).trans q5, (h2 _ (by simp)).trans q6⟩
/-- a cover's cells are none of a roof's -/
theorem cov_roof {h : AH} {a b : Nat} {P : Nat × (Int → Int)} {ns : List Nat} {S : RS} (h1 : ab_cov h a = some P) (h2 : ab_roof h b = some (ns, S)) : ∀ q, q = b ∨ q ∈ ns → ¬ q = a ∧ ¬ q = P.1 := by
  obtain ⟨-, -, d, d0⟩ := cov_el h1
  obtain ⟨hB, n0, n1, n2, n3, n4, n5, n6, n7, n8, rfl, nd, c, c0, c1, c2, c3, c4, c5, c6, c7, c8⟩ := roof_el h2
  intro q hq
  simp only [List.mem_cons, List.not_mem_nil, or_false] at hq
  rcases hq with rfl | rfl | rfl | rfl | rfl | rfl | rfl | rfl | rfl | rfl <;> (constructor <;> intro e <;> subst e <;> simp_all)
noncomputable def Tr_X0_comesIn : ATr := fun as h K => match as with
  | [.inr (.inl (some a)), .inl rain, .inl above, .inl x, .inl y] => ab_so (ab_cov h a) fun P => (ab_in above ∧ ab_in x ∧ ab_in y) ∧ K (some (.inl (inF P.2 rain above x y))) h
  | _ => False
theorem mo_X0_comesIn : ab_mo Tr_X0_comesIn := by
  intro as h K K' hk ht
  unfold Tr_X0_comesIn at ht ⊢
  split at ht
  · exact ab_so_mo (fun P q => ⟨q.1, hk _ _ q.2⟩) ht
  · exact ht.elim
def ca_X0_comesIn : Nat → Option ACS := ab_lk [(25, (2, 0, 2, 0, 0, Tr_X3_isPlace))]
theorem ca_X0_comesIn_25 : ca_X0_comesIn 25 = some (2, 0, 2, 0, 0, Tr_X3_isPlace) := rfl
theorem cm_X0_comesIn : ∀ i q, ca_X0_comesIn i = some q → ab_moq i q := ab_lk_all (ab_all_c mo_X3_isPlace (ab_all_n))
set_option maxRecDepth 100000 in
set_option maxHeartbeats 1000000 in
theorem sem_X0_comesIn (base : Nat) : ab_Sem tbX0 lw_ts base cX0_comesIn ca_X0_comesIn 1 5 0 0 (fun as => ab_en as 5) Tr_X0_comesIn := by
  intro as h K hT V hV
  unfold Tr_X0_comesIn at hT
  split at hT
  · rename_i a rain above x y
    obtain ⟨P, hP, hs, hK⟩ := ab_so_el hT
    obtain ⟨n0, f⟩ := P
    have hP' := hP
    obtain ⟨hB, nd, (c : h a = some (.inl (0, [.inr (.inl (some n0))]))), (c0 : h n0 = some (.inr (.inl (1, 96, f))))⟩ := cov_el hP
    try dsimp only at hK hs
    show V 0 [some (.inr (.inl (some a))), some (.inl rain), some (.inl above), some (.inl x), some (.inl y)] [] h 0 0
    have hr := hB (12 * y + x)
    dsimp only at hr
    refine hV (fun _ => false) 80 _ _ _ _ _ _ ?_
    simp only [inF] at hK
    by_cases hc : isPlaceF x y = true
    · have hd : 0 ≤ x ∧ x < 12 ∧ 0 ≤ y ∧ y < 8 := of_decide_eq_true hc
      simp only [hc, cond_true] at hK
      simp only [c, c0, hc, bI_in, bI_0, bI_1, bI_t, bI_f, bI_01, Tr_X3_isPlace, ae_aload_n, ae_baload, ae_bipush, ae_getfield, ae_iadd, ae_iconst, ae_idiv, ae_ifCond, ae_iload, ae_iload_n, ae_imul, ae_invokestatic, ae_ireturn, dX0_comesIn_0, dX0_comesIn_1, dX0_comesIn_3, dX0_comesIn_6, dX0_comesIn_9, dX0_comesIn_10, dX0_comesIn_13, dX0_comesIn_15, dX0_comesIn_17, dX0_comesIn_18, dX0_comesIn_19, dX0_comesIn_20, dX0_comesIn_21, dX0_comesIn_24, dX0_comesIn_25, dX0_comesIn_26, dX0_comesIn_27, dX0_comesIn_28, dX0_comesIn_29, dX0_comesIn_30, dX0_comesIn_31, tbX0_g9, ca_X0_comesIn_25, ab_wp0, ab_wps, ab_stp, ab_g, ab_st, ab_k2, ab_cl, ab_pop, ab_sz, ab_2, ab_ret, ab_f4, ab_tg, ab_I, ab_II, ab_A, ab_Rf, ab_VR, ab_IR, ab_VIR, ab_1, ab_LL, ab_DD, ab_ob, ab_pr, ab_qr, ab_ln, ab_so, ab_vI, ab_vA, ab_vD, ab_vL, ab_v2, ab_c, ab_fit, ab_rv, ab_tsw, ab_lsw, ab_up_eq, Fin.isValue, ab_f0, ab_f1, ab_f2, ab_f3, List.getElem?_cons_zero, List.getElem?_cons_succ, List.set_cons_zero, List.set_cons_succ, List.length_cons, List.length_nil, List.size_toArray, List.head?_cons, List.tail_cons, Option.map_some, cond_true, cond_false, true_and, and_true, false_and, and_false, not_true_eq_false, not_false_eq_true, true_imp_iff, false_imp_iff, if_true, if_false, ite_true, ite_false, ↓reduceIte, Nat.reduceAdd, Nat.reduceEqDiff, Nat.reduceLeDiff, Nat.reduceLT, Nat.reduceBEq, Nat.reduceBNe, Int.reduceAdd, Int.reduceNeg, Int.reduceSub, Int.reduceLE, Int.reduceLT, Int.reduceToNat, Int.reduceEq, Int.reduceMul, Int.cast_ofNat_Int, Nat.zero_add, Nat.add_zero, Nat.le_refl, eq_self, ne_eq, reduceCtorEq, or_true, true_or, or_false, false_or, Bool.or_true, Bool.or_false, Bool.true_or, Bool.false_or, Nat.zero_le, Int.le_refl, Int.ofNat_zero, Int.ofNat_one, Bool.false_eq_true]
      rcases hr with hr | hr <;> (simp only [hr, Int.reduceEq, if_true, if_false] at hK; simp only [hr, not_false_eq_true, not_true_eq_false, true_imp_iff, false_imp_iff, true_and, and_true, if_true, if_false, eq_self, Int.reduceEq]; simp only [ab_in] at hs ⊢; (repeat' (first | intro _ | refine And.intro ?_ ?_)) <;> (first | exact hK | contradiction | omega | (exfalso; omega)))
    · simp only [hc, cond_false] at hK
      simp only [c, hc, bI_in, bI_0, bI_1, bI_t, bI_f, bI_01, Tr_X3_isPlace, ae_aload_n, ae_baload, ae_bipush, ae_getfield, ae_iadd, ae_iconst, ae_idiv, ae_ifCond, ae_iload, ae_iload_n, ae_imul, ae_invokestatic, ae_ireturn, dX0_comesIn_0, dX0_comesIn_1, dX0_comesIn_3, dX0_comesIn_6, dX0_comesIn_9, dX0_comesIn_10, dX0_comesIn_13, dX0_comesIn_15, dX0_comesIn_17, dX0_comesIn_18, dX0_comesIn_19, dX0_comesIn_20, dX0_comesIn_21, dX0_comesIn_24, dX0_comesIn_25, dX0_comesIn_26, dX0_comesIn_27, dX0_comesIn_28, dX0_comesIn_29, dX0_comesIn_30, dX0_comesIn_31, tbX0_g9, ca_X0_comesIn_25, ab_wp0, ab_wps, ab_stp, ab_g, ab_st, ab_k2, ab_cl, ab_pop, ab_sz, ab_2, ab_ret, ab_f4, ab_tg, ab_I, ab_II, ab_A, ab_Rf, ab_VR, ab_IR, ab_VIR, ab_1, ab_LL, ab_DD, ab_ob, ab_pr, ab_qr, ab_ln, ab_so, ab_vI, ab_vA, ab_vD, ab_vL, ab_v2, ab_c, ab_fit, ab_rv, ab_tsw, ab_lsw, ab_up_eq, Fin.isValue, ab_f0, ab_f1, ab_f2, ab_f3, List.getElem?_cons_zero, List.getElem?_cons_succ, List.set_cons_zero, List.set_cons_succ, List.length_cons, List.length_nil, List.size_toArray, List.head?_cons, List.tail_cons, Option.map_some, cond_true, cond_false, true_and, and_true, false_and, and_false, not_true_eq_false, not_false_eq_true, true_imp_iff, false_imp_iff, if_true, if_false, ite_true, ite_false, ↓reduceIte, Nat.reduceAdd, Nat.reduceEqDiff, Nat.reduceLeDiff, Nat.reduceLT, Nat.reduceBEq, Nat.reduceBNe, Int.reduceAdd, Int.reduceNeg, Int.reduceSub, Int.reduceLE, Int.reduceLT, Int.reduceToNat, Int.reduceEq, Int.reduceMul, Int.cast_ofNat_Int, Nat.zero_add, Nat.add_zero, Nat.le_refl, eq_self, ne_eq, reduceCtorEq, or_true, true_or, or_false, false_or, Bool.or_true, Bool.or_false, Bool.true_or, Bool.false_or, Nat.zero_le, Int.le_refl, Int.ofNat_zero, Int.ofNat_one, Bool.false_eq_true]
      simp only [ab_in] at hs ⊢
      (repeat' (first | intro _ | refine And.intro ?_ ?_)) <;> (first | exact hK | contradiction | omega | (exfalso; omega))
  · exact hT.elim
set_option maxRecDepth 100000 in
theorem con_X0_comesIn (l : Launch) (D : va_G) (ty : Nat → ClassId) (base : Nat) : ab_Con l D vwCl ty lw_ts base lw_wd yX0_comesIn cX0_comesIn 5 (some .int) 1 21 0 0 Tr_X0_comesIn :=
  ab_con_of (own := RX0) (rt := 1) (tb := tbX0) (ini := false) (ca := ca_X0_comesIn) (by decide +kernel) rfl (fun h => by cases h) rfl lw_wd_ok wtbX0 lw_ar cm_X0_comesIn
    (fun p e R s m args below meth c K hcx => by
      obtain ⟨hx, hb, hml, hown, hF, rfl⟩ := hcx
      exact ab_lk_all (ab_all_c (ab_tc_SN (host := "SlateRoofs") hx hb hml hown lw_wd_ok hF ⟨rfl, rfl⟩ (con_X3_isPlace l D ty base) (lw_wi (by decide +kernel) (by decide +kernel)) (lw_wi (by decide +kernel) (by decide +kernel)) (lw_wi (by decide +kernel) (by decide +kernel)) (lw_wi (by decide +kernel) (by decide +kernel)) (by decide +kernel) ⟨by decide, by decide⟩) (ab_all_n)))
    (by intro as h K ht; unfold Tr_X0_comesIn at ht; split at ht <;> first | exact ht.elim | exact Nat.le_of_ble_eq_true rfl) (sem_X0_comesIn base)
noncomputable def Tr_X0_coverOne : ATr := fun as h K => match as with
  | [.inr (.inl (some a)), .inl x, .inl y] => ab_so (ab_cov h a) fun P => (ab_in x ∧ ab_in y) ∧ ∀ h', ab_cov h' a = some (P.1, covOneF P.2 x y) → ab_fr h h' (a :: [P.1]) → K (none) h'
  | _ => False
theorem mo_X0_coverOne : ab_mo Tr_X0_coverOne := by
  intro as h K K' hk ht
  unfold Tr_X0_coverOne at ht ⊢
  split at ht
  · exact ab_so_mo (fun P q => ⟨q.1, fun h' e1 e2 => hk _ _ (q.2 h' e1 e2)⟩) ht
  · exact ht.elim
def ca_X0_coverOne : Nat → Option ACS := ab_lk [(25, (2, 0, 2, 0, 0, Tr_X3_isPlace))]
theorem ca_X0_coverOne_25 : ca_X0_coverOne 25 = some (2, 0, 2, 0, 0, Tr_X3_isPlace) := rfl
theorem cm_X0_coverOne : ∀ i q, ca_X0_coverOne i = some q → ab_moq i q := ab_lk_all (ab_all_c mo_X3_isPlace (ab_all_n))
set_option maxRecDepth 100000 in
set_option maxHeartbeats 2000000 in
theorem sem_X0_coverOne (base : Nat) : ab_Sem tbX0 lw_ts base cX0_coverOne ca_X0_coverOne 0 3 0 0 (fun as => ab_en as 3) Tr_X0_coverOne := by
  intro as h K hT V hV
  unfold Tr_X0_coverOne at hT
  split at hT
  · rename_i a x y
    obtain ⟨P, hP, hs, hK⟩ := ab_so_el hT
    obtain ⟨n0, f⟩ := P
    have hP' := hP
    obtain ⟨hB, nd, (c : h a = some (.inl (0, [.inr (.inl (some n0))]))), (c0 : h n0 = some (.inr (.inl (1, 96, f))))⟩ := cov_el hP
    try dsimp only at hK hs
    show V 0 [some (.inr (.inl (some a))), some (.inl x), some (.inl y)] [] h 0 0
    have hB2 := covOneF_r hB x y
    refine hV (fun _ => false) 80 _ _ _ _ _ _ ?_
    by_cases hc : isPlaceF x y = true
    · have hd : 0 ≤ x ∧ x < 12 ∧ 0 ≤ y ∧ y < 8 := of_decide_eq_true hc
      simp only [covOneF, hc, cond_true] at hK hB2
      have hk2 := hK (ab_up h n0 (.inr (.inl (1, 96, ab_uf f (12 * y + x) 1)))) (cov_of ⟨hB2, nd, by rw [ab_up_ap, if_neg nd]; exact c, by rw [ab_up_ap, if_pos rfl]⟩) (ab_fr.rf.up (by simp))
      simp only [c, c0, hc, bI_in, bI_0, bI_1, bI_t, bI_f, bI_01, Tr_X3_isPlace, ae_aload_n, ae_bastore, ae_bipush, ae_getfield, ae_iadd, ae_iconst, ae_ifCond, ae_iload_n, ae_imul, ae_invokestatic, ae_return_, dX0_coverOne_0, dX0_coverOne_1, dX0_coverOne_2, dX0_coverOne_5, dX0_coverOne_8, dX0_coverOne_9, dX0_coverOne_12, dX0_coverOne_14, dX0_coverOne_15, dX0_coverOne_16, dX0_coverOne_17, dX0_coverOne_18, dX0_coverOne_19, dX0_coverOne_20, tbX0_g9, ca_X0_coverOne_25, ab_wp0, ab_wps, ab_stp, ab_g, ab_st, ab_k2, ab_cl, ab_pop, ab_sz, ab_2, ab_ret, ab_f4, ab_tg, ab_I, ab_II, ab_A, ab_Rf, ab_VR, ab_IR, ab_VIR, ab_1, ab_LL, ab_DD, ab_ob, ab_pr, ab_qr, ab_ln, ab_so, ab_vI, ab_vA, ab_vD, ab_vL, ab_v2, ab_c, ab_fit, ab_rv, ab_tsw, ab_lsw, ab_up_eq, Fin.isValue, ab_f0, ab_f1, ab_f2, ab_f3, List.getElem?_cons_zero, List.getElem?_cons_succ, List.set_cons_zero, List.set_cons_succ, List.length_cons, List.length_nil, List.size_toArray, List.head?_cons, List.tail_cons, Option.map_some, cond_true, cond_false, true_and, and_true, false_and, and_false, not_true_eq_false, not_false_eq_true, true_imp_iff, false_imp_iff, if_true, if_false, ite_true, ite_false, ↓reduceIte, Nat.reduceAdd, Nat.reduceEqDiff, Nat.reduceLeDiff, Nat.reduceLT, Nat.reduceBEq, Nat.reduceBNe, Int.reduceAdd, Int.reduceNeg, Int.reduceSub, Int.reduceLE, Int.reduceLT, Int.reduceToNat, Int.reduceEq, Int.reduceMul, Int.cast_ofNat_Int, Nat.zero_add, Nat.add_zero, Nat.le_refl, eq_self, ne_eq, reduceCtorEq, or_true, true_or, or_false, false_or, Bool.or_true, Bool.or_false, Bool.true_or, Bool.false_or, Nat.zero_le, Int.le_refl, Int.ofNat_zero, Int.ofNat_one, Bool.false_eq_true]
      simp only [ab_in] at hs ⊢
      (repeat' (first | intro _ | refine And.intro ?_ ?_)) <;> (first | exact hk2 | contradiction | omega | (exfalso; omega))
    · simp only [covOneF, hc, cond_false] at hK
      have hk2 := hK h hP ab_fr.rf
      simp only [c, hc, bI_in, bI_0, bI_1, bI_t, bI_f, bI_01, Tr_X3_isPlace, ae_aload_n, ae_bastore, ae_bipush, ae_getfield, ae_iadd, ae_iconst, ae_ifCond, ae_iload_n, ae_imul, ae_invokestatic, ae_return_, dX0_coverOne_0, dX0_coverOne_1, dX0_coverOne_2, dX0_coverOne_5, dX0_coverOne_8, dX0_coverOne_9, dX0_coverOne_12, dX0_coverOne_14, dX0_coverOne_15, dX0_coverOne_16, dX0_coverOne_17, dX0_coverOne_18, dX0_coverOne_19, dX0_coverOne_20, tbX0_g9, ca_X0_coverOne_25, ab_wp0, ab_wps, ab_stp, ab_g, ab_st, ab_k2, ab_cl, ab_pop, ab_sz, ab_2, ab_ret, ab_f4, ab_tg, ab_I, ab_II, ab_A, ab_Rf, ab_VR, ab_IR, ab_VIR, ab_1, ab_LL, ab_DD, ab_ob, ab_pr, ab_qr, ab_ln, ab_so, ab_vI, ab_vA, ab_vD, ab_vL, ab_v2, ab_c, ab_fit, ab_rv, ab_tsw, ab_lsw, ab_up_eq, Fin.isValue, ab_f0, ab_f1, ab_f2, ab_f3, List.getElem?_cons_zero, List.getElem?_cons_succ, List.set_cons_zero, List.set_cons_succ, List.length_cons, List.length_nil, List.size_toArray, List.head?_cons, List.tail_cons, Option.map_some, cond_true, cond_false, true_and, and_true, false_and, and_false, not_true_eq_false, not_false_eq_true, true_imp_iff, false_imp_iff, if_true, if_false, ite_true, ite_false, ↓reduceIte, Nat.reduceAdd, Nat.reduceEqDiff, Nat.reduceLeDiff, Nat.reduceLT, Nat.reduceBEq, Nat.reduceBNe, Int.reduceAdd, Int.reduceNeg, Int.reduceSub, Int.reduceLE, Int.reduceLT, Int.reduceToNat, Int.reduceEq, Int.reduceMul, Int.cast_ofNat_Int, Nat.zero_add, Nat.add_zero, Nat.le_refl, eq_self, ne_eq, reduceCtorEq, or_true, true_or, or_false, false_or, Bool.or_true, Bool.or_false, Bool.true_or, Bool.false_or, Nat.zero_le, Int.le_refl, Int.ofNat_zero, Int.ofNat_one, Bool.false_eq_true]
      simp only [ab_in] at hs ⊢
      (repeat' (first | intro _ | refine And.intro ?_ ?_)) <;> (first | exact hk2 | contradiction | omega | (exfalso; omega))
  · exact hT.elim
set_option maxRecDepth 100000 in
theorem con_X0_coverOne (l : Launch) (D : va_G) (ty : Nat → ClassId) (base : Nat) : ab_Con l D vwCl ty lw_ts base lw_wd yX0_coverOne cX0_coverOne 3 none 1 21 0 0 Tr_X0_coverOne :=
  ab_con_of (own := RX0) (rt := 0) (tb := tbX0) (ini := false) (ca := ca_X0_coverOne) (by decide +kernel) rfl (fun h => by cases h) rfl lw_wd_ok wtbX0 lw_ar cm_X0_coverOne
    (fun p e R s m args below meth c K hcx => by
      obtain ⟨hx, hb, hml, hown, hF, rfl⟩ := hcx
      exact ab_lk_all (ab_all_c (ab_tc_SN (host := "SlateRoofs") hx hb hml hown lw_wd_ok hF ⟨rfl, rfl⟩ (con_X3_isPlace l D ty base) (lw_wi (by decide +kernel) (by decide +kernel)) (lw_wi (by decide +kernel) (by decide +kernel)) (lw_wi (by decide +kernel) (by decide +kernel)) (lw_wi (by decide +kernel) (by decide +kernel)) (by decide +kernel) ⟨by decide, by decide⟩) (ab_all_n)))
    (by intro as h K ht; unfold Tr_X0_coverOne at ht; split at ht <;> first | exact ht.elim | exact Nat.le_of_ble_eq_true rfl) (sem_X0_coverOne base)
noncomputable def Tr_X0_comesInAt : ATr := fun as h K => match as with
  | [.inr (.inl (some a)), .inl rain, .inl x, .inl y] => ab_so (ab_cov h a) fun P => ((0 ≤ rain ∧ rain ≤ 9) ∧ ab_in x ∧ (0 ≤ y ∧ y ≤ 7)) ∧ K (some (.inl (colL P.2 rain x (8 - y).toNat 7 0))) h
  | _ => False
theorem mo_X0_comesInAt : ab_mo Tr_X0_comesInAt := by
  intro as h K K' hk ht
  unfold Tr_X0_comesInAt at ht ⊢
  split at ht
  · exact ab_so_mo (fun P q => ⟨q.1, hk _ _ q.2⟩) ht
  · exact ht.elim
def ca_X0_comesInAt : Nat → Option ACS := ab_lk [(28, (0, 0, 5, 0, 0, Tr_X0_comesIn))]
theorem ca_X0_comesInAt_28 : ca_X0_comesInAt 28 = some (0, 0, 5, 0, 0, Tr_X0_comesIn) := rfl
theorem cm_X0_comesInAt : ∀ i q, ca_X0_comesInAt i = some q → ab_moq i q := ab_lk_all (ab_all_c mo_X0_comesIn (ab_all_n))
set_option maxRecDepth 100000 in
set_option maxHeartbeats 1000000 in
theorem sem_X0_comesInAt (base : Nat) : ab_Sem tbX0 lw_ts base cX0_comesInAt ca_X0_comesInAt 1 6 0 0 (fun as => ab_en as 6) Tr_X0_comesInAt := by
  intro as h K hT V hV
  unfold Tr_X0_comesInAt at hT
  split at hT
  · rename_i a rain x y
    obtain ⟨P, hP, hs, hK⟩ := ab_so_el hT
    obtain ⟨n0, f⟩ := P
    have hP' := hP
    obtain ⟨hB, nd, (c : h a = some (.inl (0, [.inr (.inl (some n0))]))), (c0 : h n0 = some (.inr (.inl (1, 96, f))))⟩ := cov_el hP
    try dsimp only at hK hs
    show V 0 [some (.inr (.inl (some a))), some (.inl rain), some (.inl x), some (.inl y), none, none] [] h 0 0
    have loop : ∀ (n : Nat) (row acc : Int), row + 1 = y + n → row ≤ 7 → 0 ≤ acc ∧ acc ≤ 18 → colL f rain x n row acc = colL f rain x (8 - y).toNat 7 0 → V 7 [some (.inr (.inl (some a))), some (.inl rain), some (.inl x), some (.inl y), some (.inl acc), some (.inl row)] [] h 0 0 := by
      intro n
      induction n with
      | zero =>
        intro row acc hx h0 hac hr
        have he : row < y := by omega
        simp only [colL] at hr
        rw [← hr] at hK
        refine hV (fun p => p == 7) 80 _ _ _ _ _ _ ?_
        simp only [he, bI_in, bI_0, bI_1, bI_t, bI_f, bI_01, ae_aload_n, ae_bipush, ae_goto, ae_iconst, ae_ifCond, ae_if_icmp, ae_iinc, ae_iload, ae_iload_n, ae_invokevirtual, ae_ireturn, ae_istore, dX0_comesInAt_0, dX0_comesInAt_1, dX0_comesInAt_3, dX0_comesInAt_5, dX0_comesInAt_7, dX0_comesInAt_9, dX0_comesInAt_12, dX0_comesInAt_14, dX0_comesInAt_15, dX0_comesInAt_18, dX0_comesInAt_19, dX0_comesInAt_20, dX0_comesInAt_22, dX0_comesInAt_23, dX0_comesInAt_25, dX0_comesInAt_28, dX0_comesInAt_30, dX0_comesInAt_33, dX0_comesInAt_36, dX0_comesInAt_38, ca_X0_comesInAt_28, ab_wp0, ab_wps, ab_stp, ab_g, ab_st, ab_k2, ab_cl, ab_pop, ab_sz, ab_2, ab_ret, ab_f4, ab_tg, ab_I, ab_II, ab_A, ab_Rf, ab_VR, ab_IR, ab_VIR, ab_1, ab_LL, ab_DD, ab_ob, ab_pr, ab_qr, ab_ln, ab_so, ab_vI, ab_vA, ab_vD, ab_vL, ab_v2, ab_c, ab_fit, ab_rv, ab_tsw, ab_lsw, ab_up_eq, Fin.isValue, ab_f0, ab_f1, ab_f2, ab_f3, List.getElem?_cons_zero, List.getElem?_cons_succ, List.set_cons_zero, List.set_cons_succ, List.length_cons, List.length_nil, List.size_toArray, List.head?_cons, List.tail_cons, Option.map_some, cond_true, cond_false, true_and, and_true, false_and, and_false, not_true_eq_false, not_false_eq_true, true_imp_iff, false_imp_iff, if_true, if_false, ite_true, ite_false, ↓reduceIte, Nat.reduceAdd, Nat.reduceEqDiff, Nat.reduceLeDiff, Nat.reduceLT, Nat.reduceBEq, Nat.reduceBNe, Int.reduceAdd, Int.reduceNeg, Int.reduceSub, Int.reduceLE, Int.reduceLT, Int.reduceToNat, Int.reduceEq, Int.reduceMul, Int.cast_ofNat_Int, Nat.zero_add, Nat.add_zero, Nat.le_refl, eq_self, ne_eq, reduceCtorEq, or_true, true_or, or_false, false_or, Bool.or_true, Bool.or_false, Bool.true_or, Bool.false_or, Nat.zero_le, Int.le_refl, Int.ofNat_zero, Int.ofNat_one, Bool.false_eq_true]
        simp only [ab_in]
        (repeat' (first | intro _ | refine And.intro ?_ ?_)) <;> (first | exact hK | contradiction | omega | (exfalso; omega))
      | succ n ih =>
        intro row acc hx h0 hac hr
        have he : ¬ row < y := by omega
        have he2 : ¬ row < 0 := by omega
        simp only [colL] at hr
        have ih1 := ih (row - 1) (inF f rain acc x row) (by omega) (by omega) (inF_r hs.1 hac) hr
        refine hV (fun p => p == 7) 80 _ _ _ _ _ _ ?_
        simp only [he, he2, c, hP', bI_in, bI_0, bI_1, bI_t, bI_f, bI_01, Tr_X0_comesIn, ae_aload_n, ae_bipush, ae_goto, ae_iconst, ae_ifCond, ae_if_icmp, ae_iinc, ae_iload, ae_iload_n, ae_invokevirtual, ae_ireturn, ae_istore, dX0_comesInAt_0, dX0_comesInAt_1, dX0_comesInAt_3, dX0_comesInAt_5, dX0_comesInAt_7, dX0_comesInAt_9, dX0_comesInAt_12, dX0_comesInAt_14, dX0_comesInAt_15, dX0_comesInAt_18, dX0_comesInAt_19, dX0_comesInAt_20, dX0_comesInAt_22, dX0_comesInAt_23, dX0_comesInAt_25, dX0_comesInAt_28, dX0_comesInAt_30, dX0_comesInAt_33, dX0_comesInAt_36, dX0_comesInAt_38, ca_X0_comesInAt_28, ab_wp0, ab_wps, ab_stp, ab_g, ab_st, ab_k2, ab_cl, ab_pop, ab_sz, ab_2, ab_ret, ab_f4, ab_tg, ab_I, ab_II, ab_A, ab_Rf, ab_VR, ab_IR, ab_VIR, ab_1, ab_LL, ab_DD, ab_ob, ab_pr, ab_qr, ab_ln, ab_so, ab_vI, ab_vA, ab_vD, ab_vL, ab_v2, ab_c, ab_fit, ab_rv, ab_tsw, ab_lsw, ab_up_eq, Fin.isValue, ab_f0, ab_f1, ab_f2, ab_f3, List.getElem?_cons_zero, List.getElem?_cons_succ, List.set_cons_zero, List.set_cons_succ, List.length_cons, List.length_nil, List.size_toArray, List.head?_cons, List.tail_cons, Option.map_some, cond_true, cond_false, true_and, and_true, false_and, and_false, not_true_eq_false, not_false_eq_true, true_imp_iff, false_imp_iff, if_true, if_false, ite_true, ite_false, ↓reduceIte, Nat.reduceAdd, Nat.reduceEqDiff, Nat.reduceLeDiff, Nat.reduceLT, Nat.reduceBEq, Nat.reduceBNe, Int.reduceAdd, Int.reduceNeg, Int.reduceSub, Int.reduceLE, Int.reduceLT, Int.reduceToNat, Int.reduceEq, Int.reduceMul, Int.cast_ofNat_Int, Nat.zero_add, Nat.add_zero, Nat.le_refl, eq_self, ne_eq, reduceCtorEq, or_true, true_or, or_false, false_or, Bool.or_true, Bool.or_false, Bool.true_or, Bool.false_or, Nat.zero_le, Int.le_refl, Int.ofNat_zero, Int.ofNat_one, Bool.false_eq_true]
        simp only [ab_in] at hs ⊢
        (repeat' (first | intro _ | refine And.intro ?_ ?_)) <;> (first | exact ih1 | contradiction | omega | (exfalso; omega))
    have l0 := loop (8 - y).toNat 7 0 (by omega) (by omega) (by omega) rfl
    refine hV (fun p => p == 7) 80 _ _ _ _ _ _ ?_
    simp only [bI_in, bI_0, bI_1, bI_t, bI_f, bI_01, ae_aload_n, ae_bipush, ae_goto, ae_iconst, ae_ifCond, ae_if_icmp, ae_iinc, ae_iload, ae_iload_n, ae_invokevirtual, ae_ireturn, ae_istore, dX0_comesInAt_0, dX0_comesInAt_1, dX0_comesInAt_3, dX0_comesInAt_5, dX0_comesInAt_7, dX0_comesInAt_9, dX0_comesInAt_12, dX0_comesInAt_14, dX0_comesInAt_15, dX0_comesInAt_18, dX0_comesInAt_19, dX0_comesInAt_20, dX0_comesInAt_22, dX0_comesInAt_23, dX0_comesInAt_25, dX0_comesInAt_28, dX0_comesInAt_30, dX0_comesInAt_33, dX0_comesInAt_36, dX0_comesInAt_38, ca_X0_comesInAt_28, ab_wp0, ab_wps, ab_stp, ab_g, ab_st, ab_k2, ab_cl, ab_pop, ab_sz, ab_2, ab_ret, ab_f4, ab_tg, ab_I, ab_II, ab_A, ab_Rf, ab_VR, ab_IR, ab_VIR, ab_1, ab_LL, ab_DD, ab_ob, ab_pr, ab_qr, ab_ln, ab_so, ab_vI, ab_vA, ab_vD, ab_vL, ab_v2, ab_c, ab_fit, ab_rv, ab_tsw, ab_lsw, ab_up_eq, Fin.isValue, ab_f0, ab_f1, ab_f2, ab_f3, List.getElem?_cons_zero, List.getElem?_cons_succ, List.set_cons_zero, List.set_cons_succ, List.length_cons, List.length_nil, List.size_toArray, List.head?_cons, List.tail_cons, Option.map_some, cond_true, cond_false, true_and, and_true, false_and, and_false, not_true_eq_false, not_false_eq_true, true_imp_iff, false_imp_iff, if_true, if_false, ite_true, ite_false, ↓reduceIte, Nat.reduceAdd, Nat.reduceEqDiff, Nat.reduceLeDiff, Nat.reduceLT, Nat.reduceBEq, Nat.reduceBNe, Int.reduceAdd, Int.reduceNeg, Int.reduceSub, Int.reduceLE, Int.reduceLT, Int.reduceToNat, Int.reduceEq, Int.reduceMul, Int.cast_ofNat_Int, Nat.zero_add, Nat.add_zero, Nat.le_refl, eq_self, ne_eq, reduceCtorEq, or_true, true_or, or_false, false_or, Bool.or_true, Bool.or_false, Bool.true_or, Bool.false_or, Nat.zero_le, Int.le_refl, Int.ofNat_zero, Int.ofNat_one, Bool.false_eq_true]
    exact l0
  · exact hT.elim
set_option maxRecDepth 100000 in
theorem con_X0_comesInAt (l : Launch) (D : va_G) (ty : Nat → ClassId) (base : Nat) : ab_Con l D vwCl ty lw_ts base lw_wd yX0_comesInAt cX0_comesInAt 6 (some .int) 2 45 0 0 Tr_X0_comesInAt :=
  ab_con_of (own := RX0) (rt := 1) (tb := tbX0) (ini := false) (ca := ca_X0_comesInAt) (by decide +kernel) rfl (fun h => by cases h) rfl lw_wd_ok wtbX0 lw_ar cm_X0_comesInAt
    (fun p e R s m args below meth c K hcx => by
      obtain ⟨hx, hb, hml, hown, hF, rfl⟩ := hcx
      exact ab_lk_all (ab_all_c (ab_tc_V hx hb hml hown lw_wd_ok hF ⟨rfl, rfl⟩ (con_X0_comesIn l D ty base) rfl (lw_wi (by decide +kernel) (by decide +kernel)) (lw_wi (by decide +kernel) (by decide +kernel)) (lw_wi (by decide +kernel) (by decide +kernel)) (lw_wi (by decide +kernel) (by decide +kernel)) (lw_wi (by decide +kernel) (by decide +kernel)) (by decide +kernel) ⟨by decide, by decide⟩) (ab_all_n)))
    (by intro as h K ht; unfold Tr_X0_comesInAt at ht; split at ht <;> first | exact ht.elim | exact Nat.le_of_ble_eq_true rfl) (sem_X0_comesInAt base)
noncomputable def Tr_X0_comesInAtAll : ATr := fun as h K => match as with
  | [.inr (.inl (some a)), .inl rain] => ab_so (ab_cov h a) fun P => ((0 ≤ rain ∧ rain ≤ 9)) ∧ K (some (.inl (inAllF P.2 rain))) h
  | _ => False
theorem mo_X0_comesInAtAll : ab_mo Tr_X0_comesInAtAll := by
  intro as h K K' hk ht
  unfold Tr_X0_comesInAtAll at ht ⊢
  split at ht
  · exact ab_so_mo (fun P q => ⟨q.1, hk _ _ q.2⟩) ht
  · exact ht.elim
def ca_X0_comesInAtAll : Nat → Option ACS := ab_lk [(28, (0, 0, 5, 0, 0, Tr_X0_comesIn))]
theorem ca_X0_comesInAtAll_28 : ca_X0_comesInAtAll 28 = some (0, 0, 5, 0, 0, Tr_X0_comesIn) := rfl
theorem cm_X0_comesInAtAll : ∀ i q, ca_X0_comesInAtAll i = some q → ab_moq i q := ab_lk_all (ab_all_c mo_X0_comesIn (ab_all_n))
set_option maxRecDepth 100000 in
set_option maxHeartbeats 1000000 in
theorem sem_X0_comesInAtAll (base : Nat) : ab_Sem tbX0 lw_ts base cX0_comesInAtAll ca_X0_comesInAtAll 1 6 0 0 (fun as => ab_en as 6) Tr_X0_comesInAtAll := by
  intro as h K hT V hV
  unfold Tr_X0_comesInAtAll at hT
  split at hT
  · rename_i a rain
    obtain ⟨P, hP, hs, hK⟩ := ab_so_el hT
    obtain ⟨n0, f⟩ := P
    have hP' := hP
    obtain ⟨hB, nd, (c : h a = some (.inl (0, [.inr (.inl (some n0))]))), (c0 : h n0 = some (.inr (.inl (1, 96, f))))⟩ := cov_el hP
    try dsimp only at hK hs
    show V 0 [some (.inr (.inl (some a))), some (.inl rain), none, none, none, none] [] h 0 0
    have inner : ∀ (x : Int), 0 ≤ x → x < 12 → ∀ (n : Nat) (row acc all : Int), row + 1 = n → row ≤ 7 → 0 ≤ acc ∧ acc ≤ 18 → (∀ w u, V 45 [some (.inr (.inl (some a))), some (.inl rain), some (.inl (all + inS f rain x n row acc)), some (.inl x), w, u] [] h 0 0) → V 17 [some (.inr (.inl (some a))), some (.inl rain), some (.inl all), some (.inl x), some (.inl acc), some (.inl row)] [] h 0 0 := by
      intro x hx0 hx n
      induction n with
      | zero =>
        intro row acc all hr h7 hac hk2
        have he : row < 0 := by omega
        simp only [inS, Int.add_zero] at hk2
        have hk3 := hk2 (some (.inl acc)) (some (.inl row))
        refine hV (fun p => bif p == 17 then true else p == 45) 80 _ _ _ _ _ _ ?_
        simp only [he, bI_in, bI_0, bI_1, bI_t, bI_f, bI_01, ae_aload_n, ae_bipush, ae_goto, ae_iadd, ae_iconst, ae_ifCond, ae_if_icmp, ae_iinc, ae_iload, ae_iload_n, ae_invokevirtual, ae_ireturn, ae_istore, ae_istore_n, dX0_comesInAtAll_0, dX0_comesInAtAll_1, dX0_comesInAtAll_2, dX0_comesInAtAll_3, dX0_comesInAtAll_4, dX0_comesInAtAll_5, dX0_comesInAtAll_7, dX0_comesInAtAll_10, dX0_comesInAtAll_11, dX0_comesInAtAll_13, dX0_comesInAtAll_15, dX0_comesInAtAll_17, dX0_comesInAtAll_19, dX0_comesInAtAll_22, dX0_comesInAtAll_23, dX0_comesInAtAll_24, dX0_comesInAtAll_26, dX0_comesInAtAll_27, dX0_comesInAtAll_29, dX0_comesInAtAll_32, dX0_comesInAtAll_34, dX0_comesInAtAll_35, dX0_comesInAtAll_37, dX0_comesInAtAll_38, dX0_comesInAtAll_39, dX0_comesInAtAll_42, dX0_comesInAtAll_45, dX0_comesInAtAll_48, dX0_comesInAtAll_51, dX0_comesInAtAll_52, ca_X0_comesInAtAll_28, ab_wp0, ab_wps, ab_stp, ab_g, ab_st, ab_k2, ab_cl, ab_pop, ab_sz, ab_2, ab_ret, ab_f4, ab_tg, ab_I, ab_II, ab_A, ab_Rf, ab_VR, ab_IR, ab_VIR, ab_1, ab_LL, ab_DD, ab_ob, ab_pr, ab_qr, ab_ln, ab_so, ab_vI, ab_vA, ab_vD, ab_vL, ab_v2, ab_c, ab_fit, ab_rv, ab_tsw, ab_lsw, ab_up_eq, Fin.isValue, ab_f0, ab_f1, ab_f2, ab_f3, List.getElem?_cons_zero, List.getElem?_cons_succ, List.set_cons_zero, List.set_cons_succ, List.length_cons, List.length_nil, List.size_toArray, List.head?_cons, List.tail_cons, Option.map_some, cond_true, cond_false, true_and, and_true, false_and, and_false, not_true_eq_false, not_false_eq_true, true_imp_iff, false_imp_iff, if_true, if_false, ite_true, ite_false, ↓reduceIte, Nat.reduceAdd, Nat.reduceEqDiff, Nat.reduceLeDiff, Nat.reduceLT, Nat.reduceBEq, Nat.reduceBNe, Int.reduceAdd, Int.reduceNeg, Int.reduceSub, Int.reduceLE, Int.reduceLT, Int.reduceToNat, Int.reduceEq, Int.reduceMul, Int.cast_ofNat_Int, Nat.zero_add, Nat.add_zero, Nat.le_refl, eq_self, ne_eq, reduceCtorEq, or_true, true_or, or_false, false_or, Bool.or_true, Bool.or_false, Bool.true_or, Bool.false_or, Nat.zero_le, Int.le_refl, Int.ofNat_zero, Int.ofNat_one, Bool.false_eq_true]
        simp only [ab_in]
        (repeat' (first | intro _ | refine And.intro ?_ ?_)) <;> (first | exact hk3 | contradiction | omega | (exfalso; omega))
      | succ n ih =>
        intro row acc all hr h7 hac hk2
        have he2 : ¬ row < 0 := by omega
        simp only [inS, ← Int.add_assoc] at hk2
        have ih1 := ih (row - 1) (inF f rain acc x row) (all + inF f rain acc x row) (by omega) (by omega) (inF_r hs hac) hk2
        refine hV (fun p => bif p == 17 then true else p == 45) 80 _ _ _ _ _ _ ?_
        simp only [he2, c, hP', bI_in, bI_0, bI_1, bI_t, bI_f, bI_01, Tr_X0_comesIn, ae_aload_n, ae_bipush, ae_goto, ae_iadd, ae_iconst, ae_ifCond, ae_if_icmp, ae_iinc, ae_iload, ae_iload_n, ae_invokevirtual, ae_ireturn, ae_istore, ae_istore_n, dX0_comesInAtAll_0, dX0_comesInAtAll_1, dX0_comesInAtAll_2, dX0_comesInAtAll_3, dX0_comesInAtAll_4, dX0_comesInAtAll_5, dX0_comesInAtAll_7, dX0_comesInAtAll_10, dX0_comesInAtAll_11, dX0_comesInAtAll_13, dX0_comesInAtAll_15, dX0_comesInAtAll_17, dX0_comesInAtAll_19, dX0_comesInAtAll_22, dX0_comesInAtAll_23, dX0_comesInAtAll_24, dX0_comesInAtAll_26, dX0_comesInAtAll_27, dX0_comesInAtAll_29, dX0_comesInAtAll_32, dX0_comesInAtAll_34, dX0_comesInAtAll_35, dX0_comesInAtAll_37, dX0_comesInAtAll_38, dX0_comesInAtAll_39, dX0_comesInAtAll_42, dX0_comesInAtAll_45, dX0_comesInAtAll_48, dX0_comesInAtAll_51, dX0_comesInAtAll_52, ca_X0_comesInAtAll_28, ab_wp0, ab_wps, ab_stp, ab_g, ab_st, ab_k2, ab_cl, ab_pop, ab_sz, ab_2, ab_ret, ab_f4, ab_tg, ab_I, ab_II, ab_A, ab_Rf, ab_VR, ab_IR, ab_VIR, ab_1, ab_LL, ab_DD, ab_ob, ab_pr, ab_qr, ab_ln, ab_so, ab_vI, ab_vA, ab_vD, ab_vL, ab_v2, ab_c, ab_fit, ab_rv, ab_tsw, ab_lsw, ab_up_eq, Fin.isValue, ab_f0, ab_f1, ab_f2, ab_f3, List.getElem?_cons_zero, List.getElem?_cons_succ, List.set_cons_zero, List.set_cons_succ, List.length_cons, List.length_nil, List.size_toArray, List.head?_cons, List.tail_cons, Option.map_some, cond_true, cond_false, true_and, and_true, false_and, and_false, not_true_eq_false, not_false_eq_true, true_imp_iff, false_imp_iff, if_true, if_false, ite_true, ite_false, ↓reduceIte, Nat.reduceAdd, Nat.reduceEqDiff, Nat.reduceLeDiff, Nat.reduceLT, Nat.reduceBEq, Nat.reduceBNe, Int.reduceAdd, Int.reduceNeg, Int.reduceSub, Int.reduceLE, Int.reduceLT, Int.reduceToNat, Int.reduceEq, Int.reduceMul, Int.cast_ofNat_Int, Nat.zero_add, Nat.add_zero, Nat.le_refl, eq_self, ne_eq, reduceCtorEq, or_true, true_or, or_false, false_or, Bool.or_true, Bool.or_false, Bool.true_or, Bool.false_or, Nat.zero_le, Int.le_refl, Int.ofNat_zero, Int.ofNat_one, Bool.false_eq_true]
        simp only [ab_in] at hs ⊢
        (repeat' (first | intro _ | refine And.intro ?_ ?_)) <;> (first | exact ih1 | contradiction | omega | (exfalso; omega))
    have outer : ∀ (n : Nat) (x all : Int) (w u : Option AV), x + n = 12 → 0 ≤ x → all + sumR (fun x => inS f rain x 8 7 0) n x = inAllF f rain → V 4 [some (.inr (.inl (some a))), some (.inl rain), some (.inl all), some (.inl x), w, u] [] h 0 0 := by
      intro n
      induction n with
      | zero =>
        intro x all w u hx h0 hr
        have he : x = 12 := by omega
        subst he
        simp only [sumR, Int.add_zero] at hr
        rw [← hr] at hK
        refine hV (fun p => p == 4) 80 _ _ _ _ _ _ ?_
        simp only [bI_in, bI_0, bI_1, bI_t, bI_f, bI_01, ae_aload_n, ae_bipush, ae_goto, ae_iadd, ae_iconst, ae_ifCond, ae_if_icmp, ae_iinc, ae_iload, ae_iload_n, ae_invokevirtual, ae_ireturn, ae_istore, ae_istore_n, dX0_comesInAtAll_0, dX0_comesInAtAll_1, dX0_comesInAtAll_2, dX0_comesInAtAll_3, dX0_comesInAtAll_4, dX0_comesInAtAll_5, dX0_comesInAtAll_7, dX0_comesInAtAll_10, dX0_comesInAtAll_11, dX0_comesInAtAll_13, dX0_comesInAtAll_15, dX0_comesInAtAll_17, dX0_comesInAtAll_19, dX0_comesInAtAll_22, dX0_comesInAtAll_23, dX0_comesInAtAll_24, dX0_comesInAtAll_26, dX0_comesInAtAll_27, dX0_comesInAtAll_29, dX0_comesInAtAll_32, dX0_comesInAtAll_34, dX0_comesInAtAll_35, dX0_comesInAtAll_37, dX0_comesInAtAll_38, dX0_comesInAtAll_39, dX0_comesInAtAll_42, dX0_comesInAtAll_45, dX0_comesInAtAll_48, dX0_comesInAtAll_51, dX0_comesInAtAll_52, ca_X0_comesInAtAll_28, ab_wp0, ab_wps, ab_stp, ab_g, ab_st, ab_k2, ab_cl, ab_pop, ab_sz, ab_2, ab_ret, ab_f4, ab_tg, ab_I, ab_II, ab_A, ab_Rf, ab_VR, ab_IR, ab_VIR, ab_1, ab_LL, ab_DD, ab_ob, ab_pr, ab_qr, ab_ln, ab_so, ab_vI, ab_vA, ab_vD, ab_vL, ab_v2, ab_c, ab_fit, ab_rv, ab_tsw, ab_lsw, ab_up_eq, Fin.isValue, ab_f0, ab_f1, ab_f2, ab_f3, List.getElem?_cons_zero, List.getElem?_cons_succ, List.set_cons_zero, List.set_cons_succ, List.length_cons, List.length_nil, List.size_toArray, List.head?_cons, List.tail_cons, Option.map_some, cond_true, cond_false, true_and, and_true, false_and, and_false, not_true_eq_false, not_false_eq_true, true_imp_iff, false_imp_iff, if_true, if_false, ite_true, ite_false, ↓reduceIte, Nat.reduceAdd, Nat.reduceEqDiff, Nat.reduceLeDiff, Nat.reduceLT, Nat.reduceBEq, Nat.reduceBNe, Int.reduceAdd, Int.reduceNeg, Int.reduceSub, Int.reduceLE, Int.reduceLT, Int.reduceToNat, Int.reduceEq, Int.reduceMul, Int.cast_ofNat_Int, Nat.zero_add, Nat.add_zero, Nat.le_refl, eq_self, ne_eq, reduceCtorEq, or_true, true_or, or_false, false_or, Bool.or_true, Bool.or_false, Bool.true_or, Bool.false_or, Nat.zero_le, Int.le_refl, Int.ofNat_zero, Int.ofNat_one, Bool.false_eq_true]
        simp only [ab_in]
        (repeat' (first | intro _ | refine And.intro ?_ ?_)) <;> (first | exact hK | contradiction | omega | (exfalso; omega))
      | succ n ih =>
        intro x all w u hx h0 hr
        have he : ¬ 12 ≤ x := by omega
        simp only [sumR, ← Int.add_assoc] at hr
        have i1 := inner x h0 (by omega) 8 7 0 all (by omega) (by omega) (by omega) (by
          intro w u
          have ih1 := ih (x + 1) (all + inS f rain x 8 7 0) w u (by omega) (by omega) hr
          refine hV (fun p => p == 4) 80 _ _ _ _ _ _ ?_
          simp only [bI_in, bI_0, bI_1, bI_t, bI_f, bI_01, ae_aload_n, ae_bipush, ae_goto, ae_iadd, ae_iconst, ae_ifCond, ae_if_icmp, ae_iinc, ae_iload, ae_iload_n, ae_invokevirtual, ae_ireturn, ae_istore, ae_istore_n, dX0_comesInAtAll_0, dX0_comesInAtAll_1, dX0_comesInAtAll_2, dX0_comesInAtAll_3, dX0_comesInAtAll_4, dX0_comesInAtAll_5, dX0_comesInAtAll_7, dX0_comesInAtAll_10, dX0_comesInAtAll_11, dX0_comesInAtAll_13, dX0_comesInAtAll_15, dX0_comesInAtAll_17, dX0_comesInAtAll_19, dX0_comesInAtAll_22, dX0_comesInAtAll_23, dX0_comesInAtAll_24, dX0_comesInAtAll_26, dX0_comesInAtAll_27, dX0_comesInAtAll_29, dX0_comesInAtAll_32, dX0_comesInAtAll_34, dX0_comesInAtAll_35, dX0_comesInAtAll_37, dX0_comesInAtAll_38, dX0_comesInAtAll_39, dX0_comesInAtAll_42, dX0_comesInAtAll_45, dX0_comesInAtAll_48, dX0_comesInAtAll_51, dX0_comesInAtAll_52, ca_X0_comesInAtAll_28, ab_wp0, ab_wps, ab_stp, ab_g, ab_st, ab_k2, ab_cl, ab_pop, ab_sz, ab_2, ab_ret, ab_f4, ab_tg, ab_I, ab_II, ab_A, ab_Rf, ab_VR, ab_IR, ab_VIR, ab_1, ab_LL, ab_DD, ab_ob, ab_pr, ab_qr, ab_ln, ab_so, ab_vI, ab_vA, ab_vD, ab_vL, ab_v2, ab_c, ab_fit, ab_rv, ab_tsw, ab_lsw, ab_up_eq, Fin.isValue, ab_f0, ab_f1, ab_f2, ab_f3, List.getElem?_cons_zero, List.getElem?_cons_succ, List.set_cons_zero, List.set_cons_succ, List.length_cons, List.length_nil, List.size_toArray, List.head?_cons, List.tail_cons, Option.map_some, cond_true, cond_false, true_and, and_true, false_and, and_false, not_true_eq_false, not_false_eq_true, true_imp_iff, false_imp_iff, if_true, if_false, ite_true, ite_false, ↓reduceIte, Nat.reduceAdd, Nat.reduceEqDiff, Nat.reduceLeDiff, Nat.reduceLT, Nat.reduceBEq, Nat.reduceBNe, Int.reduceAdd, Int.reduceNeg, Int.reduceSub, Int.reduceLE, Int.reduceLT, Int.reduceToNat, Int.reduceEq, Int.reduceMul, Int.cast_ofNat_Int, Nat.zero_add, Nat.add_zero, Nat.le_refl, eq_self, ne_eq, reduceCtorEq, or_true, true_or, or_false, false_or, Bool.or_true, Bool.or_false, Bool.true_or, Bool.false_or, Nat.zero_le, Int.le_refl, Int.ofNat_zero, Int.ofNat_one, Bool.false_eq_true]
          exact ih1)
        cases w <;> cases u
        all_goals (refine hV (fun p => bif p == 4 then true else p == 17) 80 _ _ _ _ _ _ ?_; simp only [he, bI_in, bI_0, bI_1, bI_t, bI_f, bI_01, ae_aload_n, ae_bipush, ae_goto, ae_iadd, ae_iconst, ae_ifCond, ae_if_icmp, ae_iinc, ae_iload, ae_iload_n, ae_invokevirtual, ae_ireturn, ae_istore, ae_istore_n, dX0_comesInAtAll_0, dX0_comesInAtAll_1, dX0_comesInAtAll_2, dX0_comesInAtAll_3, dX0_comesInAtAll_4, dX0_comesInAtAll_5, dX0_comesInAtAll_7, dX0_comesInAtAll_10, dX0_comesInAtAll_11, dX0_comesInAtAll_13, dX0_comesInAtAll_15, dX0_comesInAtAll_17, dX0_comesInAtAll_19, dX0_comesInAtAll_22, dX0_comesInAtAll_23, dX0_comesInAtAll_24, dX0_comesInAtAll_26, dX0_comesInAtAll_27, dX0_comesInAtAll_29, dX0_comesInAtAll_32, dX0_comesInAtAll_34, dX0_comesInAtAll_35, dX0_comesInAtAll_37, dX0_comesInAtAll_38, dX0_comesInAtAll_39, dX0_comesInAtAll_42, dX0_comesInAtAll_45, dX0_comesInAtAll_48, dX0_comesInAtAll_51, dX0_comesInAtAll_52, ca_X0_comesInAtAll_28, ab_wp0, ab_wps, ab_stp, ab_g, ab_st, ab_k2, ab_cl, ab_pop, ab_sz, ab_2, ab_ret, ab_f4, ab_tg, ab_I, ab_II, ab_A, ab_Rf, ab_VR, ab_IR, ab_VIR, ab_1, ab_LL, ab_DD, ab_ob, ab_pr, ab_qr, ab_ln, ab_so, ab_vI, ab_vA, ab_vD, ab_vL, ab_v2, ab_c, ab_fit, ab_rv, ab_tsw, ab_lsw, ab_up_eq, Fin.isValue, ab_f0, ab_f1, ab_f2, ab_f3, List.getElem?_cons_zero, List.getElem?_cons_succ, List.set_cons_zero, List.set_cons_succ, List.length_cons, List.length_nil, List.size_toArray, List.head?_cons, List.tail_cons, Option.map_some, cond_true, cond_false, true_and, and_true, false_and, and_false, not_true_eq_false, not_false_eq_true, true_imp_iff, false_imp_iff, if_true, if_false, ite_true, ite_false, ↓reduceIte, Nat.reduceAdd, Nat.reduceEqDiff, Nat.reduceLeDiff, Nat.reduceLT, Nat.reduceBEq, Nat.reduceBNe, Int.reduceAdd, Int.reduceNeg, Int.reduceSub, Int.reduceLE, Int.reduceLT, Int.reduceToNat, Int.reduceEq, Int.reduceMul, Int.cast_ofNat_Int, Nat.zero_add, Nat.add_zero, Nat.le_refl, eq_self, ne_eq, reduceCtorEq, or_true, true_or, or_false, false_or, Bool.or_true, Bool.or_false, Bool.true_or, Bool.false_or, Nat.zero_le, Int.le_refl, Int.ofNat_zero, Int.ofNat_one, Bool.false_eq_true]; simp only [ab_in]; (repeat' (first | intro _ | refine And.intro ?_ ?_)) <;> (first | exact i1 | contradiction | omega | (exfalso; omega)))
    have l0 := outer 12 0 0 none none (by omega) (by omega) (by rw [Int.zero_add, inAllF])
    refine hV (fun p => p == 4) 80 _ _ _ _ _ _ ?_
    simp only [bI_in, bI_0, bI_1, bI_t, bI_f, bI_01, ae_aload_n, ae_bipush, ae_goto, ae_iadd, ae_iconst, ae_ifCond, ae_if_icmp, ae_iinc, ae_iload, ae_iload_n, ae_invokevirtual, ae_ireturn, ae_istore, ae_istore_n, dX0_comesInAtAll_0, dX0_comesInAtAll_1, dX0_comesInAtAll_2, dX0_comesInAtAll_3, dX0_comesInAtAll_4, dX0_comesInAtAll_5, dX0_comesInAtAll_7, dX0_comesInAtAll_10, dX0_comesInAtAll_11, dX0_comesInAtAll_13, dX0_comesInAtAll_15, dX0_comesInAtAll_17, dX0_comesInAtAll_19, dX0_comesInAtAll_22, dX0_comesInAtAll_23, dX0_comesInAtAll_24, dX0_comesInAtAll_26, dX0_comesInAtAll_27, dX0_comesInAtAll_29, dX0_comesInAtAll_32, dX0_comesInAtAll_34, dX0_comesInAtAll_35, dX0_comesInAtAll_37, dX0_comesInAtAll_38, dX0_comesInAtAll_39, dX0_comesInAtAll_42, dX0_comesInAtAll_45, dX0_comesInAtAll_48, dX0_comesInAtAll_51, dX0_comesInAtAll_52, ca_X0_comesInAtAll_28, ab_wp0, ab_wps, ab_stp, ab_g, ab_st, ab_k2, ab_cl, ab_pop, ab_sz, ab_2, ab_ret, ab_f4, ab_tg, ab_I, ab_II, ab_A, ab_Rf, ab_VR, ab_IR, ab_VIR, ab_1, ab_LL, ab_DD, ab_ob, ab_pr, ab_qr, ab_ln, ab_so, ab_vI, ab_vA, ab_vD, ab_vL, ab_v2, ab_c, ab_fit, ab_rv, ab_tsw, ab_lsw, ab_up_eq, Fin.isValue, ab_f0, ab_f1, ab_f2, ab_f3, List.getElem?_cons_zero, List.getElem?_cons_succ, List.set_cons_zero, List.set_cons_succ, List.length_cons, List.length_nil, List.size_toArray, List.head?_cons, List.tail_cons, Option.map_some, cond_true, cond_false, true_and, and_true, false_and, and_false, not_true_eq_false, not_false_eq_true, true_imp_iff, false_imp_iff, if_true, if_false, ite_true, ite_false, ↓reduceIte, Nat.reduceAdd, Nat.reduceEqDiff, Nat.reduceLeDiff, Nat.reduceLT, Nat.reduceBEq, Nat.reduceBNe, Int.reduceAdd, Int.reduceNeg, Int.reduceSub, Int.reduceLE, Int.reduceLT, Int.reduceToNat, Int.reduceEq, Int.reduceMul, Int.cast_ofNat_Int, Nat.zero_add, Nat.add_zero, Nat.le_refl, eq_self, ne_eq, reduceCtorEq, or_true, true_or, or_false, false_or, Bool.or_true, Bool.or_false, Bool.true_or, Bool.false_or, Nat.zero_le, Int.le_refl, Int.ofNat_zero, Int.ofNat_one, Bool.false_eq_true]
    exact l0
  · exact hT.elim
set_option maxRecDepth 100000 in
theorem con_X0_comesInAtAll (l : Launch) (D : va_G) (ty : Nat → ClassId) (base : Nat) : ab_Con l D vwCl ty lw_ts base lw_wd yX0_comesInAtAll cX0_comesInAtAll 6 (some .int) 2 45 0 0 Tr_X0_comesInAtAll :=
  ab_con_of (own := RX0) (rt := 1) (tb := tbX0) (ini := false) (ca := ca_X0_comesInAtAll) (by decide +kernel) rfl (fun h => by cases h) rfl lw_wd_ok wtbX0 lw_ar cm_X0_comesInAtAll
    (fun p e R s m args below meth c K hcx => by
      obtain ⟨hx, hb, hml, hown, hF, rfl⟩ := hcx
      exact ab_lk_all (ab_all_c (ab_tc_V hx hb hml hown lw_wd_ok hF ⟨rfl, rfl⟩ (con_X0_comesIn l D ty base) rfl (lw_wi (by decide +kernel) (by decide +kernel)) (lw_wi (by decide +kernel) (by decide +kernel)) (lw_wi (by decide +kernel) (by decide +kernel)) (lw_wi (by decide +kernel) (by decide +kernel)) (lw_wi (by decide +kernel) (by decide +kernel)) (by decide +kernel) ⟨by decide, by decide⟩) (ab_all_n)))
    (by intro as h K ht; unfold Tr_X0_comesInAtAll at ht; split at ht <;> first | exact ht.elim | exact Nat.le_of_ble_eq_true rfl) (sem_X0_comesInAtAll base)
