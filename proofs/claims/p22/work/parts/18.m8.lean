/-! ===== the table of days ===== -/
noncomputable def ab_pk {α : Type} (A : α → Prop) : Option α := @dite _ (∃ P, A P) (Classical.propDecidable _) (fun q => some (Classical.choose q)) (fun _ => none)
theorem pk_of {α : Type} {A : α → Prop} (uni : ∀ P P', A P → A P' → P = P') {P : α} (h1 : A P) : ab_pk A = some P := by
  unfold ab_pk
  rw [dif_pos ⟨P, h1⟩]
  exact congrArg some (uni _ _ (Classical.choose_spec (⟨P, h1⟩ : ∃ P, A P)) h1)
theorem pk_el {α : Type} {A : α → Prop} {P : α} (h1 : ab_pk A = some P) : A P := by
  unfold ab_pk at h1
  split at h1
  · rename_i q; have e := Option.some.inj h1; rw [← e]; exact Classical.choose_spec q
  · cases h1
abbrev TS : Type := (Int → Int) × (Int → Int) × (Int → Int) × (Int → Int)
def TB (T : TS) : Prop := (∀ i, 0 ≤ T.1 i ∧ T.1 i ≤ 20) ∧ (∀ i, T.2.1 i = 0 ∨ T.2.1 i = 1) ∧ (∀ i, 0 ≤ T.2.2.1 i ∧ T.2.2.1 i ≤ 9) ∧ (∀ i, 0 ≤ T.2.2.2 i ∧ T.2.2.2 i ≤ 9)
def tabAt (h : AH) (a : Nat) (P : (Nat × Nat × Nat × Nat) × TS) : Prop := TB P.2 ∧ [a, P.1.1, P.1.2.1, P.1.2.2.1, P.1.2.2.2].Nodup ∧
  h a = some (.inl (2, [.inr (.inl (some P.1.1)), .inr (.inl (some P.1.2.1)), .inr (.inl (some P.1.2.2.1)), .inr (.inl (some P.1.2.2.2))])) ∧
  h P.1.1 = some (.inr (.inl (0, 7, P.2.1))) ∧ h P.1.2.1 = some (.inr (.inl (1, 7, P.2.2.1))) ∧ h P.1.2.2.1 = some (.inr (.inl (0, 7, P.2.2.2.1))) ∧ h P.1.2.2.2 = some (.inr (.inl (0, 7, P.2.2.2.2)))
theorem tab_uni {h : AH} {a : Nat} : ∀ P P', tabAt h a P → tabAt h a P' → P = P' := by
  rintro ⟨⟨n0, n1, n2, n3⟩, q0, q1, q2, q3⟩ ⟨⟨m0, m1, m2, m3⟩, r0, r1, r2, r3⟩ ⟨-, -, c, c0, c1, c2, c3⟩ ⟨-, -, d, d0, d1, d2, d3⟩
  have hc := c.symm.trans d
  simp only [Option.some.injEq, Sum.inl.injEq, Sum.inr.injEq, Prod.mk.injEq, List.cons.injEq, true_and, and_true] at hc
  obtain ⟨g0, g1, g2, g3⟩ := hc
  subst g0 g1 g2 g3
  have h0 := c0.symm.trans d0
  have h1 := c1.symm.trans d1
  have h2 := c2.symm.trans d2
  have h3 := c3.symm.trans d3
  simp only [Option.some.injEq, Sum.inl.injEq, Sum.inr.injEq, Prod.mk.injEq, true_and] at h0 h1 h2 h3
  simp only [h0, h1, h2, h3]
noncomputable def ab_tab (h : AH) (a : Nat) : Option ((Nat × Nat × Nat × Nat) × TS) := ab_pk (tabAt h a)
theorem tab_of {h : AH} {a : Nat} {P : (Nat × Nat × Nat × Nat) × TS} (h1 : tabAt h a P) : ab_tab h a = some P := pk_of tab_uni h1
theorem tab_el {h : AH} {a : Nat} {P : (Nat × Nat × Nat × Nat) × TS} (h1 : ab_tab h a = some P) : tabAt h a P := pk_el h1
def isDayF (d : Int) : Bool := decide (0 ≤ d ∧ d < 7)
def dayF (f : Int → Int) (d : Int) : Int := bif isDayF d then f d else 0
def toldF (T : TS) (d : Int) : Int := 100 * dayF T.1 d + 10 * dayF T.2.2.1 d + dayF T.2.2.2 d
def wrF (T : TS) (d f r ha ra : Int) : TS := bif isDayF d then (ab_uf T.1 d f, ab_uf T.2.1 d r, ab_uf T.2.2.1 d ha, ab_uf T.2.2.2 d ra) else T
theorem wrF_r {T : TS} (h : TB T) {d f r ha ra : Int} (h1 : 0 ≤ f ∧ f ≤ 20) (h2 : r = 0 ∨ r = 1) (h3 : 0 ≤ ha ∧ ha ≤ 9) (h4 : 0 ≤ ra ∧ ra ≤ 9) : TB (wrF T d f r ha ra) := by
  unfold wrF
  cases isDayF d
  · exact h
  · exact ⟨uf_all (P := fun q => 0 ≤ q ∧ q ≤ 20) h.1 h1, uf_all (P := fun q => q = 0 ∨ q = 1) h.2.1 h2, uf_all (P := fun q => 0 ≤ q ∧ q ≤ 9) h.2.2.1 h3, uf_all (P := fun q => 0 ≤ q ∧ q ≤ 9) h.2.2.2 h4⟩
noncomputable def Tr_X2_isDay : ATr := fun as h K => match as with
  | [.inr (.inl (some a)), .inl d] => ab_so (ab_tab h a) fun P => (ab_in d) ∧ K (some (.inl (bI (isDayF d)))) h
  | _ => False
theorem mo_X2_isDay : ab_mo Tr_X2_isDay := by
  intro as h K K' hk ht
  unfold Tr_X2_isDay at ht ⊢
  split at ht
  · exact ab_so_mo (fun P q => ⟨q.1, hk _ _ q.2⟩) ht
  · exact ht.elim
def ca_X2_isDay : Nat → Option ACS := ab_lk []
theorem cm_X2_isDay : ∀ i q, ca_X2_isDay i = some q → ab_moq i q := ab_lk_all (ab_all_n)
set_option maxRecDepth 100000 in
set_option maxHeartbeats 1000000 in
theorem sem_X2_isDay (base : Nat) : ab_Sem tbX2 lw_ts base cX2_isDay ca_X2_isDay 2 2 0 0 (fun as => ab_en as 2) Tr_X2_isDay := by
  intro as h K hT V hV
  unfold Tr_X2_isDay at hT
  split at hT
  · rename_i a d
    obtain ⟨P, hP, hs, hK⟩ := ab_so_el hT
    obtain ⟨⟨n0, n1, n2, n3⟩, q0, q1, q2, q3⟩ := P
    have hP' := hP
    obtain ⟨hB, nd, (c : h a = some (.inl (2, [.inr (.inl (some n0)), .inr (.inl (some n1)), .inr (.inl (some n2)), .inr (.inl (some n3))]))), (c0 : h n0 = some (.inr (.inl (0, 7, q0)))), (c1 : h n1 = some (.inr (.inl (1, 7, q1)))), (c2 : h n2 = some (.inr (.inl (0, 7, q2)))), (c3 : h n3 = some (.inr (.inl (0, 7, q3))))⟩ := tab_el hP
    try dsimp only at hK hs
    show V 0 [some (.inr (.inl (some a))), some (.inl d)] [] h 0 0
    refine hV (fun _ => false) 80 _ _ _ _ _ _ ?_
    simp only [ae_bipush, ae_goto, ae_iconst, ae_ifCond, ae_if_icmp, ae_iload_n, ae_ireturn, dX2_isDay_0, dX2_isDay_1, dX2_isDay_4, dX2_isDay_5, dX2_isDay_7, dX2_isDay_10, dX2_isDay_11, dX2_isDay_14, dX2_isDay_15, ab_wp0, ab_wps, ab_stp, ab_g, ab_st, ab_k2, ab_cl, ab_pop, ab_sz, ab_2, ab_ret, ab_f4, ab_tg, ab_I, ab_II, ab_A, ab_Rf, ab_VR, ab_IR, ab_VIR, ab_1, ab_LL, ab_DD, ab_ob, ab_pr, ab_qr, ab_ln, ab_so, ab_vI, ab_vA, ab_vD, ab_vL, ab_v2, ab_c, ab_fit, ab_rv, ab_tsw, ab_lsw, ab_up_eq, Fin.isValue, ab_f0, ab_f1, ab_f2, ab_f3, List.getElem?_cons_zero, List.getElem?_cons_succ, List.set_cons_zero, List.set_cons_succ, List.length_cons, List.length_nil, List.size_toArray, List.head?_cons, List.tail_cons, Option.map_some, cond_true, cond_false, true_and, and_true, false_and, and_false, not_true_eq_false, not_false_eq_true, true_imp_iff, false_imp_iff, if_true, if_false, ite_true, ite_false, ↓reduceIte, Nat.reduceAdd, Nat.reduceEqDiff, Nat.reduceLeDiff, Nat.reduceLT, Nat.reduceBEq, Nat.reduceBNe, Int.reduceAdd, Int.reduceNeg, Int.reduceSub, Int.reduceLE, Int.reduceLT, Int.reduceToNat, Int.reduceEq, Int.reduceMul, Int.cast_ofNat_Int, Nat.zero_add, Nat.add_zero, Nat.le_refl, eq_self, ne_eq, reduceCtorEq, or_true, true_or, or_false, false_or, Bool.or_true, Bool.or_false, Bool.true_or, Bool.false_or, Nat.zero_le, Int.le_refl, Int.ofNat_zero, Int.ofNat_one, Bool.false_eq_true]
    simp only [ab_in] at hs ⊢
    by_cases hc : 0 ≤ d ∧ d < 7
    · simp only [isDayF, hc, decide_true, bI_t, and_self, true_and, and_true] at hK
      (repeat' (first | intro _ | refine And.intro ?_ ?_)) <;> (first | exact hK | contradiction | omega | (exfalso; omega))
    · simp only [isDayF, hc, decide_false, bI_f] at hK
      (repeat' (first | intro _ | refine And.intro ?_ ?_)) <;> (first | exact hK | contradiction | omega | (exfalso; omega))
  · exact hT.elim
set_option maxRecDepth 100000 in
theorem con_X2_isDay (l : Launch) (D : va_G) (ty : Nat → ClassId) (base : Nat) : ab_Con l D vwCl ty lw_ts base lw_wd yX2_isDay cX2_isDay 2 (some .boolean) 0 0 0 0 Tr_X2_isDay :=
  ab_con_of (own := RX2) (rt := 2) (tb := tbX2) (ini := false) (ca := ca_X2_isDay) (by decide +kernel) rfl (fun h => by cases h) rfl lw_wd_ok wtbX2 lw_ar cm_X2_isDay
    (fun p e R s m args below meth c K hcx => by
      obtain ⟨hx, hb, hml, hown, hF, rfl⟩ := hcx
      exact ab_lk_all (ab_all_n))
    (by intro as h K ht; unfold Tr_X2_isDay at ht; split at ht <;> first | exact ht.elim | exact Nat.le_of_ble_eq_true rfl) (sem_X2_isDay base)
noncomputable def Tr_X2_forceOf : ATr := fun as h K => match as with
  | [.inr (.inl (some a)), .inl d] => ab_so (ab_tab h a) fun P => (ab_in d) ∧ K (some (.inl (dayF P.2.1 d))) h
  | _ => False
theorem mo_X2_forceOf : ab_mo Tr_X2_forceOf := by
  intro as h K K' hk ht
  unfold Tr_X2_forceOf at ht ⊢
  split at ht
  · exact ab_so_mo (fun P q => ⟨q.1, hk _ _ q.2⟩) ht
  · exact ht.elim
def ca_X2_forceOf : Nat → Option ACS := ab_lk [(25, (0, 2, 2, 0, 0, Tr_X2_isDay))]
theorem ca_X2_forceOf_25 : ca_X2_forceOf 25 = some (0, 2, 2, 0, 0, Tr_X2_isDay) := rfl
theorem cm_X2_forceOf : ∀ i q, ca_X2_forceOf i = some q → ab_moq i q := ab_lk_all (ab_all_c mo_X2_isDay (ab_all_n))
set_option maxRecDepth 100000 in
set_option maxHeartbeats 1000000 in
theorem sem_X2_forceOf (base : Nat) : ab_Sem tbX2 lw_ts base cX2_forceOf ca_X2_forceOf 1 2 0 0 (fun as => ab_en as 2) Tr_X2_forceOf := by
  intro as h K hT V hV
  unfold Tr_X2_forceOf at hT
  split at hT
  · rename_i a d
    obtain ⟨P, hP, hs, hK⟩ := ab_so_el hT
    obtain ⟨⟨n0, n1, n2, n3⟩, q0, q1, q2, q3⟩ := P
    have hP' := hP
    obtain ⟨hB, nd, (c : h a = some (.inl (2, [.inr (.inl (some n0)), .inr (.inl (some n1)), .inr (.inl (some n2)), .inr (.inl (some n3))]))), (c0 : h n0 = some (.inr (.inl (0, 7, q0)))), (c1 : h n1 = some (.inr (.inl (1, 7, q1)))), (c2 : h n2 = some (.inr (.inl (0, 7, q2)))), (c3 : h n3 = some (.inr (.inl (0, 7, q3))))⟩ := tab_el hP
    try dsimp only at hK hs
    show V 0 [some (.inr (.inl (some a))), some (.inl d)] [] h 0 0
    refine hV (fun _ => false) 80 _ _ _ _ _ _ ?_
    simp only [dayF] at hK
    simp only [c, c0, hP', bI_in, bI_0, bI_1, bI_t, bI_f, bI_01, Tr_X2_isDay, ae_aload_n, ae_getfield, ae_goto, ae_iaload, ae_iconst, ae_ifCond, ae_iload_n, ae_invokevirtual, ae_ireturn, dX2_forceOf_0, dX2_forceOf_1, dX2_forceOf_2, dX2_forceOf_5, dX2_forceOf_8, dX2_forceOf_9, dX2_forceOf_12, dX2_forceOf_13, dX2_forceOf_14, dX2_forceOf_17, dX2_forceOf_18, tbX2_g9, ca_X2_forceOf_25, ab_wp0, ab_wps, ab_stp, ab_g, ab_st, ab_k2, ab_cl, ab_pop, ab_sz, ab_2, ab_ret, ab_f4, ab_tg, ab_I, ab_II, ab_A, ab_Rf, ab_VR, ab_IR, ab_VIR, ab_1, ab_LL, ab_DD, ab_ob, ab_pr, ab_qr, ab_ln, ab_so, ab_vI, ab_vA, ab_vD, ab_vL, ab_v2, ab_c, ab_fit, ab_rv, ab_tsw, ab_lsw, ab_up_eq, Fin.isValue, ab_f0, ab_f1, ab_f2, ab_f3, List.getElem?_cons_zero, List.getElem?_cons_succ, List.set_cons_zero, List.set_cons_succ, List.length_cons, List.length_nil, List.size_toArray, List.head?_cons, List.tail_cons, Option.map_some, cond_true, cond_false, true_and, and_true, false_and, and_false, not_true_eq_false, not_false_eq_true, true_imp_iff, false_imp_iff, if_true, if_false, ite_true, ite_false, ↓reduceIte, Nat.reduceAdd, Nat.reduceEqDiff, Nat.reduceLeDiff, Nat.reduceLT, Nat.reduceBEq, Nat.reduceBNe, Int.reduceAdd, Int.reduceNeg, Int.reduceSub, Int.reduceLE, Int.reduceLT, Int.reduceToNat, Int.reduceEq, Int.reduceMul, Int.cast_ofNat_Int, Nat.zero_add, Nat.add_zero, Nat.le_refl, eq_self, ne_eq, reduceCtorEq, or_true, true_or, or_false, false_or, Bool.or_true, Bool.or_false, Bool.true_or, Bool.false_or, Nat.zero_le, Int.le_refl, Int.ofNat_zero, Int.ofNat_one, Bool.false_eq_true]
    by_cases hc : isDayF d = true
    · have hd : 0 ≤ d ∧ d < 7 := of_decide_eq_true hc
      simp only [hc, cond_true] at hK
      simp only [hc, not_false_eq_true, not_true_eq_false, true_imp_iff, false_imp_iff, true_and, and_true, if_true, if_false, eq_self, Bool.true_eq_false]
      simp only [ab_in] at hs ⊢
      (repeat' (first | intro _ | refine And.intro ?_ ?_)) <;> (first | exact hK | contradiction | omega | (exfalso; omega))
    · simp only [hc, cond_false] at hK
      simp only [hc, not_false_eq_true, not_true_eq_false, true_imp_iff, false_imp_iff, true_and, and_true, if_true, if_false, eq_self]
      simp only [ab_in] at hs ⊢
      (repeat' (first | intro _ | refine And.intro ?_ ?_)) <;> (first | exact hK | contradiction | omega | (exfalso; omega))
  · exact hT.elim
set_option maxRecDepth 100000 in
theorem con_X2_forceOf (l : Launch) (D : va_G) (ty : Nat → ClassId) (base : Nat) : ab_Con l D vwCl ty lw_ts base lw_wd yX2_forceOf cX2_forceOf 2 (some .int) 1 21 0 0 Tr_X2_forceOf :=
  ab_con_of (own := RX2) (rt := 1) (tb := tbX2) (ini := false) (ca := ca_X2_forceOf) (by decide +kernel) rfl (fun h => by cases h) rfl lw_wd_ok wtbX2 lw_ar cm_X2_forceOf
    (fun p e R s m args below meth c K hcx => by
      obtain ⟨hx, hb, hml, hown, hF, rfl⟩ := hcx
      exact ab_lk_all (ab_all_c (ab_tc_V hx hb hml hown lw_wd_ok hF ⟨rfl, rfl⟩ (con_X2_isDay l D ty base) rfl (lw_wi (by decide +kernel) (by decide +kernel)) (lw_wi (by decide +kernel) (by decide +kernel)) (lw_wi (by decide +kernel) (by decide +kernel)) (lw_wi (by decide +kernel) (by decide +kernel)) (lw_wi (by decide +kernel) (by decide +kernel)) (by decide +kernel) ⟨by decide, by decide⟩) (ab_all_n)))
    (by intro as h K ht; unfold Tr_X2_forceOf at ht; split at ht <;> first | exact ht.elim | exact Nat.le_of_ble_eq_true rfl) (sem_X2_forceOf base)
noncomputable def Tr_X2_hailOf : ATr := fun as h K => match as with
  | [.inr (.inl (some a)), .inl d] => ab_so (ab_tab h a) fun P => (ab_in d) ∧ K (some (.inl (dayF P.2.2.2.1 d))) h
  | _ => False
theorem mo_X2_hailOf : ab_mo Tr_X2_hailOf := by
  intro as h K K' hk ht
  unfold Tr_X2_hailOf at ht ⊢
  split at ht
  · exact ab_so_mo (fun P q => ⟨q.1, hk _ _ q.2⟩) ht
  · exact ht.elim
def ca_X2_hailOf : Nat → Option ACS := ab_lk [(25, (0, 2, 2, 0, 0, Tr_X2_isDay))]
theorem ca_X2_hailOf_25 : ca_X2_hailOf 25 = some (0, 2, 2, 0, 0, Tr_X2_isDay) := rfl
theorem cm_X2_hailOf : ∀ i q, ca_X2_hailOf i = some q → ab_moq i q := ab_lk_all (ab_all_c mo_X2_isDay (ab_all_n))
set_option maxRecDepth 100000 in
set_option maxHeartbeats 1000000 in
theorem sem_X2_hailOf (base : Nat) : ab_Sem tbX2 lw_ts base cX2_hailOf ca_X2_hailOf 1 2 0 0 (fun as => ab_en as 2) Tr_X2_hailOf := by
  intro as h K hT V hV
  unfold Tr_X2_hailOf at hT
  split at hT
  · rename_i a d
    obtain ⟨P, hP, hs, hK⟩ := ab_so_el hT
    obtain ⟨⟨n0, n1, n2, n3⟩, q0, q1, q2, q3⟩ := P
    have hP' := hP
    obtain ⟨hB, nd, (c : h a = some (.inl (2, [.inr (.inl (some n0)), .inr (.inl (some n1)), .inr (.inl (some n2)), .inr (.inl (some n3))]))), (c0 : h n0 = some (.inr (.inl (0, 7, q0)))), (c1 : h n1 = some (.inr (.inl (1, 7, q1)))), (c2 : h n2 = some (.inr (.inl (0, 7, q2)))), (c3 : h n3 = some (.inr (.inl (0, 7, q3))))⟩ := tab_el hP
    try dsimp only at hK hs
    show V 0 [some (.inr (.inl (some a))), some (.inl d)] [] h 0 0
    refine hV (fun _ => false) 80 _ _ _ _ _ _ ?_
    simp only [dayF] at hK
    simp only [c, c2, hP', bI_in, bI_0, bI_1, bI_t, bI_f, bI_01, Tr_X2_isDay, ae_aload_n, ae_getfield, ae_goto, ae_iaload, ae_iconst, ae_ifCond, ae_iload_n, ae_invokevirtual, ae_ireturn, dX2_hailOf_0, dX2_hailOf_1, dX2_hailOf_2, dX2_hailOf_5, dX2_hailOf_8, dX2_hailOf_9, dX2_hailOf_12, dX2_hailOf_13, dX2_hailOf_14, dX2_hailOf_17, dX2_hailOf_18, tbX2_g19, ca_X2_hailOf_25, ab_wp0, ab_wps, ab_stp, ab_g, ab_st, ab_k2, ab_cl, ab_pop, ab_sz, ab_2, ab_ret, ab_f4, ab_tg, ab_I, ab_II, ab_A, ab_Rf, ab_VR, ab_IR, ab_VIR, ab_1, ab_LL, ab_DD, ab_ob, ab_pr, ab_qr, ab_ln, ab_so, ab_vI, ab_vA, ab_vD, ab_vL, ab_v2, ab_c, ab_fit, ab_rv, ab_tsw, ab_lsw, ab_up_eq, Fin.isValue, ab_f0, ab_f1, ab_f2, ab_f3, List.getElem?_cons_zero, List.getElem?_cons_succ, List.set_cons_zero, List.set_cons_succ, List.length_cons, List.length_nil, List.size_toArray, List.head?_cons, List.tail_cons, Option.map_some, cond_true, cond_false, true_and, and_true, false_and, and_false, not_true_eq_false, not_false_eq_true, true_imp_iff, false_imp_iff, if_true, if_false, ite_true, ite_false, ↓reduceIte, Nat.reduceAdd, Nat.reduceEqDiff, Nat.reduceLeDiff, Nat.reduceLT, Nat.reduceBEq, Nat.reduceBNe, Int.reduceAdd, Int.reduceNeg, Int.reduceSub, Int.reduceLE, Int.reduceLT, Int.reduceToNat, Int.reduceEq, Int.reduceMul, Int.cast_ofNat_Int, Nat.zero_add, Nat.add_zero, Nat.le_refl, eq_self, ne_eq, reduceCtorEq, or_true, true_or, or_false, false_or, Bool.or_true, Bool.or_false, Bool.true_or, Bool.false_or, Nat.zero_le, Int.le_refl, Int.ofNat_zero, Int.ofNat_one, Bool.false_eq_true]
    by_cases hc : isDayF d = true
    · have hd : 0 ≤ d ∧ d < 7 := of_decide_eq_true hc
      simp only [hc, cond_true] at hK
      simp only [hc, not_false_eq_true, not_true_eq_false, true_imp_iff, false_imp_iff, true_and, and_true, if_true, if_false, eq_self, Bool.true_eq_false]
      simp only [ab_in] at hs ⊢
      (repeat' (first | intro _ | refine And.intro ?_ ?_)) <;> (first | exact hK | contradiction | omega | (exfalso; omega))
    · simp only [hc, cond_false] at hK
      simp only [hc, not_false_eq_true, not_true_eq_false, true_imp_iff, false_imp_iff, true_and, and_true, if_true, if_false, eq_self]
      simp only [ab_in] at hs ⊢
      (repeat' (first | intro _ | refine And.intro ?_ ?_)) <;> (first | exact hK | contradiction | omega | (exfalso; omega))
  · exact hT.elim
set_option maxRecDepth 100000 in
theorem con_X2_hailOf (l : Launch) (D : va_G) (ty : Nat → ClassId) (base : Nat) : ab_Con l D vwCl ty lw_ts base lw_wd yX2_hailOf cX2_hailOf 2 (some .int) 1 21 0 0 Tr_X2_hailOf :=
  ab_con_of (own := RX2) (rt := 1) (tb := tbX2) (ini := false) (ca := ca_X2_hailOf) (by decide +kernel) rfl (fun h => by cases h) rfl lw_wd_ok wtbX2 lw_ar cm_X2_hailOf
    (fun p e R s m args below meth c K hcx => by
      obtain ⟨hx, hb, hml, hown, hF, rfl⟩ := hcx
      exact ab_lk_all (ab_all_c (ab_tc_V hx hb hml hown lw_wd_ok hF ⟨rfl, rfl⟩ (con_X2_isDay l D ty base) rfl (lw_wi (by decide +kernel) (by decide +kernel)) (lw_wi (by decide +kernel) (by decide +kernel)) (lw_wi (by decide +kernel) (by decide +kernel)) (lw_wi (by decide +kernel) (by decide +kernel)) (lw_wi (by decide +kernel) (by decide +kernel)) (by decide +kernel) ⟨by decide, by decide⟩) (ab_all_n)))
    (by intro as h K ht; unfold Tr_X2_hailOf at ht; split at ht <;> first | exact ht.elim | exact Nat.le_of_ble_eq_true rfl) (sem_X2_hailOf base)
noncomputable def Tr_X2_rainOf : ATr := fun as h K => match as with
  | [.inr (.inl (some a)), .inl d] => ab_so (ab_tab h a) fun P => (ab_in d) ∧ K (some (.inl (dayF P.2.2.2.2 d))) h
  | _ => False
theorem mo_X2_rainOf : ab_mo Tr_X2_rainOf := by
  intro as h K K' hk ht
  unfold Tr_X2_rainOf at ht ⊢
  split at ht
  · exact ab_so_mo (fun P q => ⟨q.1, hk _ _ q.2⟩) ht
  · exact ht.elim
def ca_X2_rainOf : Nat → Option ACS := ab_lk [(25, (0, 2, 2, 0, 0, Tr_X2_isDay))]
theorem ca_X2_rainOf_25 : ca_X2_rainOf 25 = some (0, 2, 2, 0, 0, Tr_X2_isDay) := rfl
theorem cm_X2_rainOf : ∀ i q, ca_X2_rainOf i = some q → ab_moq i q := ab_lk_all (ab_all_c mo_X2_isDay (ab_all_n))
set_option maxRecDepth 100000 in
set_option maxHeartbeats 1000000 in
theorem sem_X2_rainOf (base : Nat) : ab_Sem tbX2 lw_ts base cX2_rainOf ca_X2_rainOf 1 2 0 0 (fun as => ab_en as 2) Tr_X2_rainOf := by
  intro as h K hT V hV
  unfold Tr_X2_rainOf at hT
  split at hT
  · rename_i a d
    obtain ⟨P, hP, hs, hK⟩ := ab_so_el hT
    obtain ⟨⟨n0, n1, n2, n3⟩, q0, q1, q2, q3⟩ := P
    have hP' := hP
    obtain ⟨hB, nd, (c : h a = some (.inl (2, [.inr (.inl (some n0)), .inr (.inl (some n1)), .inr (.inl (some n2)), .inr (.inl (some n3))]))), (c0 : h n0 = some (.inr (.inl (0, 7, q0)))), (c1 : h n1 = some (.inr (.inl (1, 7, q1)))), (c2 : h n2 = some (.inr (.inl (0, 7, q2)))), (c3 : h n3 = some (.inr (.inl (0, 7, q3))))⟩ := tab_el hP
    try dsimp only at hK hs
    show V 0 [some (.inr (.inl (some a))), some (.inl d)] [] h 0 0
    refine hV (fun _ => false) 80 _ _ _ _ _ _ ?_
    simp only [dayF] at hK
    simp only [c, c3, hP', bI_in, bI_0, bI_1, bI_t, bI_f, bI_01, Tr_X2_isDay, ae_aload_n, ae_getfield, ae_goto, ae_iaload, ae_iconst, ae_ifCond, ae_iload_n, ae_invokevirtual, ae_ireturn, dX2_rainOf_0, dX2_rainOf_1, dX2_rainOf_2, dX2_rainOf_5, dX2_rainOf_8, dX2_rainOf_9, dX2_rainOf_12, dX2_rainOf_13, dX2_rainOf_14, dX2_rainOf_17, dX2_rainOf_18, tbX2_g22, ca_X2_rainOf_25, ab_wp0, ab_wps, ab_stp, ab_g, ab_st, ab_k2, ab_cl, ab_pop, ab_sz, ab_2, ab_ret, ab_f4, ab_tg, ab_I, ab_II, ab_A, ab_Rf, ab_VR, ab_IR, ab_VIR, ab_1, ab_LL, ab_DD, ab_ob, ab_pr, ab_qr, ab_ln, ab_so, ab_vI, ab_vA, ab_vD, ab_vL, ab_v2, ab_c, ab_fit, ab_rv, ab_tsw, ab_lsw, ab_up_eq, Fin.isValue, ab_f0, ab_f1, ab_f2, ab_f3, List.getElem?_cons_zero, List.getElem?_cons_succ, List.set_cons_zero, List.set_cons_succ, List.length_cons, List.length_nil, List.size_toArray, List.head?_cons, List.tail_cons, Option.map_some, cond_true, cond_false, true_and, and_true, false_and, and_false, not_true_eq_false, not_false_eq_true, true_imp_iff, false_imp_iff, if_true, if_false, ite_true, ite_false, ↓reduceIte, Nat.reduceAdd, Nat.reduceEqDiff, Nat.reduceLeDiff, Nat.reduceLT, Nat.reduceBEq, Nat.reduceBNe, Int.reduceAdd, Int.reduceNeg, Int.reduceSub, Int.reduceLE, Int.reduceLT, Int.reduceToNat, Int.reduceEq, Int.reduceMul, Int.cast_ofNat_Int, Nat.zero_add, Nat.add_zero, Nat.le_refl, eq_self, ne_eq, reduceCtorEq, or_true, true_or, or_false, false_or, Bool.or_true, Bool.or_false, Bool.true_or, Bool.false_or, Nat.zero_le, Int.le_refl, Int.ofNat_zero, Int.ofNat_one, Bool.false_eq_true]
    by_cases hc : isDayF d = true
    · have hd : 0 ≤ d ∧ d < 7 := of_decide_eq_true hc
      simp only [hc, cond_true] at hK
      simp only [hc, not_false_eq_true, not_true_eq_false, true_imp_iff, false_imp_iff, true_and, and_true, if_true, if_false, eq_self, Bool.true_eq_false]
      simp only [ab_in] at hs ⊢
      (repeat' (first | intro _ | refine And.intro ?_ ?_)) <;> (first | exact hK | contradiction | omega | (exfalso; omega))
    · simp only [hc, cond_false] at hK
      simp only [hc, not_false_eq_true, not_true_eq_false, true_imp_iff, false_imp_iff, true_and, and_true, if_true, if_false, eq_self]
      simp only [ab_in] at hs ⊢
      (repeat' (first | intro _ | refine And.intro ?_ ?_)) <;> (first | exact hK | contradiction | omega | (exfalso; omega))
  · exact hT.elim
set_option maxRecDepth 100000 in
theorem con_X2_rainOf (l : Launch) (D : va_G) (ty : Nat → ClassId) (base : Nat) : ab_Con l D vwCl ty lw_ts base lw_wd yX2_rainOf cX2_rainOf 2 (some .int) 1 21 0 0 Tr_X2_rainOf :=
  ab_con_of (own := RX2) (rt := 1) (tb := tbX2) (ini := false) (ca := ca_X2_rainOf) (by decide +kernel) rfl (fun h => by cases h) rfl lw_wd_ok wtbX2 lw_ar cm_X2_rainOf
    (fun p e R s m args below meth c K hcx => by
      obtain ⟨hx, hb, hml, hown, hF, rfl⟩ := hcx
      exact ab_lk_all (ab_all_c (ab_tc_V hx hb hml hown lw_wd_ok hF ⟨rfl, rfl⟩ (con_X2_isDay l D ty base) rfl (lw_wi (by decide +kernel) (by decide +kernel)) (lw_wi (by decide +kernel) (by decide +kernel)) (lw_wi (by decide +kernel) (by decide +kernel)) (lw_wi (by decide +kernel) (by decide +kernel)) (lw_wi (by decide +kernel) (by decide +kernel)) (by decide +kernel) ⟨by decide, by decide⟩) (ab_all_n)))
    (by intro as h K ht; unfold Tr_X2_rainOf at ht; split at ht <;> first | exact ht.elim | exact Nat.le_of_ble_eq_true rfl) (sem_X2_rainOf base)
noncomputable def Tr_X2_isFromRight : ATr := fun as h K => match as with
  | [.inr (.inl (some a)), .inl d] => ab_so (ab_tab h a) fun P => (ab_in d) ∧ K (some (.inl (dayF P.2.2.1 d))) h
  | _ => False
theorem mo_X2_isFromRight : ab_mo Tr_X2_isFromRight := by
  intro as h K K' hk ht
  unfold Tr_X2_isFromRight at ht ⊢
  split at ht
  · exact ab_so_mo (fun P q => ⟨q.1, hk _ _ q.2⟩) ht
  · exact ht.elim
def ca_X2_isFromRight : Nat → Option ACS := ab_lk [(25, (0, 2, 2, 0, 0, Tr_X2_isDay))]
theorem ca_X2_isFromRight_25 : ca_X2_isFromRight 25 = some (0, 2, 2, 0, 0, Tr_X2_isDay) := rfl
theorem cm_X2_isFromRight : ∀ i q, ca_X2_isFromRight i = some q → ab_moq i q := ab_lk_all (ab_all_c mo_X2_isDay (ab_all_n))
set_option maxRecDepth 100000 in
set_option maxHeartbeats 1000000 in
theorem sem_X2_isFromRight (base : Nat) : ab_Sem tbX2 lw_ts base cX2_isFromRight ca_X2_isFromRight 2 2 0 0 (fun as => ab_en as 2) Tr_X2_isFromRight := by
  intro as h K hT V hV
  unfold Tr_X2_isFromRight at hT
  split at hT
  · rename_i a d
    obtain ⟨P, hP, hs, hK⟩ := ab_so_el hT
    obtain ⟨⟨n0, n1, n2, n3⟩, q0, q1, q2, q3⟩ := P
    have hP' := hP
    obtain ⟨hB, nd, (c : h a = some (.inl (2, [.inr (.inl (some n0)), .inr (.inl (some n1)), .inr (.inl (some n2)), .inr (.inl (some n3))]))), (c0 : h n0 = some (.inr (.inl (0, 7, q0)))), (c1 : h n1 = some (.inr (.inl (1, 7, q1)))), (c2 : h n2 = some (.inr (.inl (0, 7, q2)))), (c3 : h n3 = some (.inr (.inl (0, 7, q3))))⟩ := tab_el hP
    try dsimp only at hK hs
    show V 0 [some (.inr (.inl (some a))), some (.inl d)] [] h 0 0
    have hr := hB.2.1 d
    dsimp only at hr
    refine hV (fun _ => false) 80 _ _ _ _ _ _ ?_
    simp only [dayF] at hK
    simp only [c, c1, hP', bI_in, bI_0, bI_1, bI_t, bI_f, bI_01, Tr_X2_isDay, ae_aload_n, ae_baload, ae_getfield, ae_goto, ae_iconst, ae_ifCond, ae_iload_n, ae_invokevirtual, ae_ireturn, dX2_isFromRight_0, dX2_isFromRight_1, dX2_isFromRight_2, dX2_isFromRight_5, dX2_isFromRight_8, dX2_isFromRight_9, dX2_isFromRight_12, dX2_isFromRight_13, dX2_isFromRight_14, dX2_isFromRight_17, dX2_isFromRight_18, dX2_isFromRight_21, dX2_isFromRight_22, tbX2_g15, ca_X2_isFromRight_25, ab_wp0, ab_wps, ab_stp, ab_g, ab_st, ab_k2, ab_cl, ab_pop, ab_sz, ab_2, ab_ret, ab_f4, ab_tg, ab_I, ab_II, ab_A, ab_Rf, ab_VR, ab_IR, ab_VIR, ab_1, ab_LL, ab_DD, ab_ob, ab_pr, ab_qr, ab_ln, ab_so, ab_vI, ab_vA, ab_vD, ab_vL, ab_v2, ab_c, ab_fit, ab_rv, ab_tsw, ab_lsw, ab_up_eq, Fin.isValue, ab_f0, ab_f1, ab_f2, ab_f3, List.getElem?_cons_zero, List.getElem?_cons_succ, List.set_cons_zero, List.set_cons_succ, List.length_cons, List.length_nil, List.size_toArray, List.head?_cons, List.tail_cons, Option.map_some, cond_true, cond_false, true_and, and_true, false_and, and_false, not_true_eq_false, not_false_eq_true, true_imp_iff, false_imp_iff, if_true, if_false, ite_true, ite_false, ↓reduceIte, Nat.reduceAdd, Nat.reduceEqDiff, Nat.reduceLeDiff, Nat.reduceLT, Nat.reduceBEq, Nat.reduceBNe, Int.reduceAdd, Int.reduceNeg, Int.reduceSub, Int.reduceLE, Int.reduceLT, Int.reduceToNat, Int.reduceEq, Int.reduceMul, Int.cast_ofNat_Int, Nat.zero_add, Nat.add_zero, Nat.le_refl, eq_self, ne_eq, reduceCtorEq, or_true, true_or, or_false, false_or, Bool.or_true, Bool.or_false, Bool.true_or, Bool.false_or, Nat.zero_le, Int.le_refl, Int.ofNat_zero, Int.ofNat_one, Bool.false_eq_true]
    by_cases hc : isDayF d = true
    · have hd : 0 ≤ d ∧ d < 7 := of_decide_eq_true hc
      simp only [hc, cond_true] at hK
      rcases hr with hr | hr <;> (rw [hr] at hK; simp only [hc, hr, not_false_eq_true, not_true_eq_false, true_imp_iff, false_imp_iff, true_and, and_true, if_true, if_false, eq_self, Bool.true_eq_false, Int.reduceEq]; simp only [ab_in] at hs ⊢; (repeat' (first | intro _ | refine And.intro ?_ ?_)) <;> (first | exact hK | contradiction | omega | (exfalso; omega)))
    · simp only [hc, cond_false] at hK
      simp only [hc, not_false_eq_true, not_true_eq_false, true_imp_iff, false_imp_iff, true_and, and_true, if_true, if_false, eq_self]
      simp only [ab_in] at hs ⊢
      (repeat' (first | intro _ | refine And.intro ?_ ?_)) <;> (first | exact hK | contradiction | omega | (exfalso; omega))
  · exact hT.elim
set_option maxRecDepth 100000 in
theorem con_X2_isFromRight (l : Launch) (D : va_G) (ty : Nat → ClassId) (base : Nat) : ab_Con l D vwCl ty lw_ts base lw_wd yX2_isFromRight cX2_isFromRight 2 (some .boolean) 1 21 0 0 Tr_X2_isFromRight :=
  ab_con_of (own := RX2) (rt := 2) (tb := tbX2) (ini := false) (ca := ca_X2_isFromRight) (by decide +kernel) rfl (fun h => by cases h) rfl lw_wd_ok wtbX2 lw_ar cm_X2_isFromRight
    (fun p e R s m args below meth c K hcx => by
      obtain ⟨hx, hb, hml, hown, hF, rfl⟩ := hcx
      exact ab_lk_all (ab_all_c (ab_tc_V hx hb hml hown lw_wd_ok hF ⟨rfl, rfl⟩ (con_X2_isDay l D ty base) rfl (lw_wi (by decide +kernel) (by decide +kernel)) (lw_wi (by decide +kernel) (by decide +kernel)) (lw_wi (by decide +kernel) (by decide +kernel)) (lw_wi (by decide +kernel) (by decide +kernel)) (lw_wi (by decide +kernel) (by decide +kernel)) (by decide +kernel) ⟨by decide, by decide⟩) (ab_all_n)))
    (by intro as h K ht; unfold Tr_X2_isFromRight at ht; split at ht <;> first | exact ht.elim | exact Nat.le_of_ble_eq_true rfl) (sem_X2_isFromRight base)
noncomputable def Tr_X2_told : ATr := fun as h K => match as with
  | [.inr (.inl (some a)), .inl d] => ab_so (ab_tab h a) fun P => (ab_in d) ∧ K (some (.inl (toldF P.2 d))) h
  | _ => False
theorem mo_X2_told : ab_mo Tr_X2_told := by
  intro as h K K' hk ht
  unfold Tr_X2_told at ht ⊢
  split at ht
  · exact ab_so_mo (fun P q => ⟨q.1, hk _ _ q.2⟩) ht
  · exact ht.elim
def ca_X2_told : Nat → Option ACS := ab_lk [(29, (0, 2, 2, 0, 0, Tr_X2_forceOf)), (33, (0, 2, 2, 0, 0, Tr_X2_hailOf)), (36, (0, 2, 2, 0, 0, Tr_X2_rainOf))]
theorem ca_X2_told_29 : ca_X2_told 29 = some (0, 2, 2, 0, 0, Tr_X2_forceOf) := rfl
theorem ca_X2_told_33 : ca_X2_told 33 = some (0, 2, 2, 0, 0, Tr_X2_hailOf) := rfl
theorem ca_X2_told_36 : ca_X2_told 36 = some (0, 2, 2, 0, 0, Tr_X2_rainOf) := rfl
theorem cm_X2_told : ∀ i q, ca_X2_told i = some q → ab_moq i q := ab_lk_all (ab_all_c mo_X2_forceOf (ab_all_c mo_X2_hailOf (ab_all_c mo_X2_rainOf (ab_all_n))))
set_option maxRecDepth 100000 in
set_option maxHeartbeats 1000000 in
theorem sem_X2_told (base : Nat) : ab_Sem tbX2 lw_ts base cX2_told ca_X2_told 1 2 0 0 (fun as => ab_en as 2) Tr_X2_told := by
  intro as h K hT V hV
  unfold Tr_X2_told at hT
  split at hT
  · rename_i a d
    obtain ⟨P, hP, hs, hK⟩ := ab_so_el hT
    obtain ⟨⟨n0, n1, n2, n3⟩, q0, q1, q2, q3⟩ := P
    have hP' := hP
    obtain ⟨hB, nd, (c : h a = some (.inl (2, [.inr (.inl (some n0)), .inr (.inl (some n1)), .inr (.inl (some n2)), .inr (.inl (some n3))]))), (c0 : h n0 = some (.inr (.inl (0, 7, q0)))), (c1 : h n1 = some (.inr (.inl (1, 7, q1)))), (c2 : h n2 = some (.inr (.inl (0, 7, q2)))), (c3 : h n3 = some (.inr (.inl (0, 7, q3))))⟩ := tab_el hP
    try dsimp only at hK hs
    show V 0 [some (.inr (.inl (some a))), some (.inl d)] [] h 0 0
    refine hV (fun _ => false) 80 _ _ _ _ _ _ ?_
    simp only [toldF] at hK
    simp only [c, hP', bI_in, bI_0, bI_1, bI_t, bI_f, bI_01, Tr_X2_forceOf, Tr_X2_hailOf, Tr_X2_rainOf, ae_aload_n, ae_bipush, ae_iadd, ae_iload_n, ae_imul, ae_invokevirtual, ae_ireturn, dX2_told_0, dX2_told_2, dX2_told_3, dX2_told_4, dX2_told_7, dX2_told_8, dX2_told_10, dX2_told_11, dX2_told_12, dX2_told_15, dX2_told_16, dX2_told_17, dX2_told_18, dX2_told_19, dX2_told_22, dX2_told_23, ca_X2_told_29, ca_X2_told_33, ca_X2_told_36, ab_wp0, ab_wps, ab_stp, ab_g, ab_st, ab_k2, ab_cl, ab_pop, ab_sz, ab_2, ab_ret, ab_f4, ab_tg, ab_I, ab_II, ab_A, ab_Rf, ab_VR, ab_IR, ab_VIR, ab_1, ab_LL, ab_DD, ab_ob, ab_pr, ab_qr, ab_ln, ab_so, ab_vI, ab_vA, ab_vD, ab_vL, ab_v2, ab_c, ab_fit, ab_rv, ab_tsw, ab_lsw, ab_up_eq, Fin.isValue, ab_f0, ab_f1, ab_f2, ab_f3, List.getElem?_cons_zero, List.getElem?_cons_succ, List.set_cons_zero, List.set_cons_succ, List.length_cons, List.length_nil, List.size_toArray, List.head?_cons, List.tail_cons, Option.map_some, cond_true, cond_false, true_and, and_true, false_and, and_false, not_true_eq_false, not_false_eq_true, true_imp_iff, false_imp_iff, if_true, if_false, ite_true, ite_false, ↓reduceIte, Nat.reduceAdd, Nat.reduceEqDiff, Nat.reduceLeDiff, Nat.reduceLT, Nat.reduceBEq, Nat.reduceBNe, Int.reduceAdd, Int.reduceNeg, Int.reduceSub, Int.reduceLE, Int.reduceLT, Int.reduceToNat, Int.reduceEq, Int.reduceMul, Int.cast_ofNat_Int, Nat.zero_add, Nat.add_zero, Nat.le_refl, eq_self, ne_eq, reduceCtorEq, or_true, true_or, or_false, false_or, Bool.or_true, Bool.or_false, Bool.true_or, Bool.false_or, Nat.zero_le, Int.le_refl, Int.ofNat_zero, Int.ofNat_one, Bool.false_eq_true]
    simp only [ab_in] at hs ⊢
    (repeat' (first | intro _ | refine And.intro ?_ ?_)) <;> (first | exact hK | contradiction | omega | (exfalso; omega))
  · exact hT.elim
set_option maxRecDepth 100000 in
theorem con_X2_told (l : Launch) (D : va_G) (ty : Nat → ClassId) (base : Nat) : ab_Con l D vwCl ty lw_ts base lw_wd yX2_told cX2_told 2 (some .int) 2 42 0 0 Tr_X2_told :=
  ab_con_of (own := RX2) (rt := 1) (tb := tbX2) (ini := false) (ca := ca_X2_told) (by decide +kernel) rfl (fun h => by cases h) rfl lw_wd_ok wtbX2 lw_ar cm_X2_told
    (fun p e R s m args below meth c K hcx => by
      obtain ⟨hx, hb, hml, hown, hF, rfl⟩ := hcx
      exact ab_lk_all (ab_all_c (ab_tc_V hx hb hml hown lw_wd_ok hF ⟨rfl, rfl⟩ (con_X2_forceOf l D ty base) rfl (lw_wi (by decide +kernel) (by decide +kernel)) (lw_wi (by decide +kernel) (by decide +kernel)) (lw_wi (by decide +kernel) (by decide +kernel)) (lw_wi (by decide +kernel) (by decide +kernel)) (lw_wi (by decide +kernel) (by decide +kernel)) (by decide +kernel) ⟨by decide, by decide⟩) (ab_all_c (ab_tc_V hx hb hml hown lw_wd_ok hF ⟨rfl, rfl⟩ (con_X2_hailOf l D ty base) rfl (lw_wi (by decide +kernel) (by decide +kernel)) (lw_wi (by decide +kernel) (by decide +kernel)) (lw_wi (by decide +kernel) (by decide +kernel)) (lw_wi (by decide +kernel) (by decide +kernel)) (lw_wi (by decide +kernel) (by decide +kernel)) (by decide +kernel) ⟨by decide, by decide⟩) (ab_all_c (ab_tc_V hx hb hml hown lw_wd_ok hF ⟨rfl, rfl⟩ (con_X2_rainOf l D ty base) rfl (lw_wi (by decide +kernel) (by decide +kernel)) (lw_wi (by decide +kernel) (by decide +kernel)) (lw_wi (by decide +kernel) (by decide +kernel)) (lw_wi (by decide +kernel) (by decide +kernel)) (lw_wi (by decide +kernel) (by decide +kernel)) (by decide +kernel) ⟨by decide, by decide⟩) (ab_all_n)))))
    (by intro as h K ht; unfold Tr_X2_told at ht; split at ht <;> first | exact ht.elim | exact Nat.le_of_ble_eq_true rfl) (sem_X2_told base)
noncomputable def Tr_X2_write : ATr := fun as h K => match as with
  | [.inr (.inl (some a)), .inl d, .inl fo, .inl ri, .inl ha, .inl ra] => ab_so (ab_tab h a) fun P => (ab_in d ∧ (0 ≤ fo ∧ fo ≤ 20) ∧ (ri = 0 ∨ ri = 1) ∧ (0 ≤ ha ∧ ha ≤ 9) ∧ (0 ≤ ra ∧ ra ≤ 9)) ∧ ∀ h', ab_tab h' a = some (P.1, wrF P.2 d fo ri ha ra) → ab_fr h h' (a :: [P.1.1, P.1.2.1, P.1.2.2.1, P.1.2.2.2]) → K (none) h'
  | _ => False
theorem mo_X2_write : ab_mo Tr_X2_write := by
  intro as h K K' hk ht
  unfold Tr_X2_write at ht ⊢
  split at ht
  · exact ab_so_mo (fun P q => ⟨q.1, fun h' e1 e2 => hk _ _ (q.2 h' e1 e2)⟩) ht
  · exact ht.elim
def ca_X2_write : Nat → Option ACS := ab_lk [(25, (0, 2, 2, 0, 0, Tr_X2_isDay))]
theorem ca_X2_write_25 : ca_X2_write 25 = some (0, 2, 2, 0, 0, Tr_X2_isDay) := rfl
theorem cm_X2_write : ∀ i q, ca_X2_write i = some q → ab_moq i q := ab_lk_all (ab_all_c mo_X2_isDay (ab_all_n))
set_option maxRecDepth 100000 in
set_option maxHeartbeats 2000000 in
theorem sem_X2_write (base : Nat) : ab_Sem tbX2 lw_ts base cX2_write ca_X2_write 0 6 0 0 (fun as => ab_en as 6) Tr_X2_write := by
  intro as h K hT V hV
  unfold Tr_X2_write at hT
  split at hT
  · rename_i a d fo ri ha ra
    obtain ⟨P, hP, hs, hK⟩ := ab_so_el hT
    obtain ⟨⟨n0, n1, n2, n3⟩, q0, q1, q2, q3⟩ := P
    have hP' := hP
    obtain ⟨hB, nd, (c : h a = some (.inl (2, [.inr (.inl (some n0)), .inr (.inl (some n1)), .inr (.inl (some n2)), .inr (.inl (some n3))]))), (c0 : h n0 = some (.inr (.inl (0, 7, q0)))), (c1 : h n1 = some (.inr (.inl (1, 7, q1)))), (c2 : h n2 = some (.inr (.inl (0, 7, q2)))), (c3 : h n3 = some (.inr (.inl (0, 7, q3))))⟩ := tab_el hP
    try dsimp only at hK hs
    show V 0 [some (.inr (.inl (some a))), some (.inl d), some (.inl fo), some (.inl ri), some (.inl ha), some (.inl ra)] [] h 0 0
    simp only [List.nodup_cons, List.mem_cons, List.not_mem_nil, or_false, not_or, not_false_eq_true, List.nodup_nil, and_true] at nd
    obtain ⟨⟨x0, x1, x2, x3⟩, ⟨y1, y2, y3⟩, ⟨z2, z3⟩, w3⟩ := nd
    have s0 : ¬ n1 = n0 ∧ ¬ n2 = n0 ∧ ¬ n3 = n0 ∧ ¬ n2 = n1 ∧ ¬ n3 = n1 ∧ ¬ n3 = n2 := ⟨fun e => y1 e.symm, fun e => y2 e.symm, fun e => y3 e.symm, fun e => z2 e.symm, fun e => z3 e.symm, fun e => w3 e.symm⟩
    have hB2 := wrF_r (T := (q0, q1, q2, q3)) hB (d := d) hs.2.1 hs.2.2.1 hs.2.2.2.1 hs.2.2.2.2
    refine hV (fun _ => false) 80 _ _ _ _ _ _ ?_
    by_cases hc : isDayF d = true
    · have hd : 0 ≤ d ∧ d < 7 := of_decide_eq_true hc
      simp only [wrF, hc, cond_true] at hK hB2
      have hk2 := hK (ab_up (ab_up (ab_up (ab_up h n0 (.inr (.inl (0, 7, ab_uf q0 d fo)))) n1 (.inr (.inl (1, 7, ab_uf q1 d ri)))) n2 (.inr (.inl (0, 7, ab_uf q2 d ha)))) n3 (.inr (.inl (0, 7, ab_uf q3 d ra)))) (tab_of ⟨hB2, by simp [x0, x1, x2, x3, y1, y2, y3, z2, z3, w3], by simp only [ab_up_ap, x0, x1, x2, x3, if_false]; exact c, by simp only [ab_up_ap, y1, y2, y3, if_false, if_true], by simp only [ab_up_ap, z2, z3, s0, if_false, if_true], by simp only [ab_up_ap, w3, s0, if_false, if_true], by simp only [ab_up_ap, if_true]⟩) ((((ab_fr.rf.up (by simp)).up (by simp)).up (by simp)).up (by simp))
      simp only [c, c0, c1, c2, c3, ab_up_ap, x0, x1, x2, x3, y1, y2, y3, z2, z3, w3, s0, hc, hP', bI_in, bI_0, bI_1, bI_t, bI_f, bI_01, Tr_X2_isDay, ae_aload_n, ae_bastore, ae_getfield, ae_iastore, ae_ifCond, ae_iload, ae_iload_n, ae_invokevirtual, ae_return_, dX2_write_0, dX2_write_1, dX2_write_2, dX2_write_5, dX2_write_8, dX2_write_9, dX2_write_12, dX2_write_13, dX2_write_14, dX2_write_15, dX2_write_16, dX2_write_19, dX2_write_20, dX2_write_21, dX2_write_22, dX2_write_23, dX2_write_26, dX2_write_27, dX2_write_29, dX2_write_30, dX2_write_31, dX2_write_34, dX2_write_35, dX2_write_37, dX2_write_38, tbX2_g15, tbX2_g19, tbX2_g22, tbX2_g9, ca_X2_write_25, ab_wp0, ab_wps, ab_stp, ab_g, ab_st, ab_k2, ab_cl, ab_pop, ab_sz, ab_2, ab_ret, ab_f4, ab_tg, ab_I, ab_II, ab_A, ab_Rf, ab_VR, ab_IR, ab_VIR, ab_1, ab_LL, ab_DD, ab_ob, ab_pr, ab_qr, ab_ln, ab_so, ab_vI, ab_vA, ab_vD, ab_vL, ab_v2, ab_c, ab_fit, ab_rv, ab_tsw, ab_lsw, ab_up_eq, Fin.isValue, ab_f0, ab_f1, ab_f2, ab_f3, List.getElem?_cons_zero, List.getElem?_cons_succ, List.set_cons_zero, List.set_cons_succ, List.length_cons, List.length_nil, List.size_toArray, List.head?_cons, List.tail_cons, Option.map_some, cond_true, cond_false, true_and, and_true, false_and, and_false, not_true_eq_false, not_false_eq_true, true_imp_iff, false_imp_iff, if_true, if_false, ite_true, ite_false, ↓reduceIte, Nat.reduceAdd, Nat.reduceEqDiff, Nat.reduceLeDiff, Nat.reduceLT, Nat.reduceBEq, Nat.reduceBNe, Int.reduceAdd, Int.reduceNeg, Int.reduceSub, Int.reduceLE, Int.reduceLT, Int.reduceToNat, Int.reduceEq, Int.reduceMul, Int.cast_ofNat_Int, Nat.zero_add, Nat.add_zero, Nat.le_refl, eq_self, ne_eq, reduceCtorEq, or_true, true_or, or_false, false_or, Bool.or_true, Bool.or_false, Bool.true_or, Bool.false_or, Nat.zero_le, Int.le_refl, Int.ofNat_zero, Int.ofNat_one, Bool.false_eq_true]
      simp only [ab_in] at hs ⊢
      (repeat' (first | intro _ | refine And.intro ?_ ?_)) <;> (first | exact hk2 | contradiction | omega | (exfalso; omega))
    · simp only [wrF, hc, cond_false] at hK
      have hk2 := hK h hP ab_fr.rf
      simp only [c, hc, hP', bI_in, bI_0, bI_1, bI_t, bI_f, bI_01, Tr_X2_isDay, ae_aload_n, ae_bastore, ae_getfield, ae_iastore, ae_ifCond, ae_iload, ae_iload_n, ae_invokevirtual, ae_return_, dX2_write_0, dX2_write_1, dX2_write_2, dX2_write_5, dX2_write_8, dX2_write_9, dX2_write_12, dX2_write_13, dX2_write_14, dX2_write_15, dX2_write_16, dX2_write_19, dX2_write_20, dX2_write_21, dX2_write_22, dX2_write_23, dX2_write_26, dX2_write_27, dX2_write_29, dX2_write_30, dX2_write_31, dX2_write_34, dX2_write_35, dX2_write_37, dX2_write_38, tbX2_g15, tbX2_g19, tbX2_g22, tbX2_g9, ca_X2_write_25, ab_wp0, ab_wps, ab_stp, ab_g, ab_st, ab_k2, ab_cl, ab_pop, ab_sz, ab_2, ab_ret, ab_f4, ab_tg, ab_I, ab_II, ab_A, ab_Rf, ab_VR, ab_IR, ab_VIR, ab_1, ab_LL, ab_DD, ab_ob, ab_pr, ab_qr, ab_ln, ab_so, ab_vI, ab_vA, ab_vD, ab_vL, ab_v2, ab_c, ab_fit, ab_rv, ab_tsw, ab_lsw, ab_up_eq, Fin.isValue, ab_f0, ab_f1, ab_f2, ab_f3, List.getElem?_cons_zero, List.getElem?_cons_succ, List.set_cons_zero, List.set_cons_succ, List.length_cons, List.length_nil, List.size_toArray, List.head?_cons, List.tail_cons, Option.map_some, cond_true, cond_false, true_and, and_true, false_and, and_false, not_true_eq_false, not_false_eq_true, true_imp_iff, false_imp_iff, if_true, if_false, ite_true, ite_false, ↓reduceIte, Nat.reduceAdd, Nat.reduceEqDiff, Nat.reduceLeDiff, Nat.reduceLT, Nat.reduceBEq, Nat.reduceBNe, Int.reduceAdd, Int.reduceNeg, Int.reduceSub, Int.reduceLE, Int.reduceLT, Int.reduceToNat, Int.reduceEq, Int.reduceMul, Int.cast_ofNat_Int, Nat.zero_add, Nat.add_zero, Nat.le_refl, eq_self, ne_eq, reduceCtorEq, or_true, true_or, or_false, false_or, Bool.or_true, Bool.or_false, Bool.true_or, Bool.false_or, Nat.zero_le, Int.le_refl, Int.ofNat_zero, Int.ofNat_one, Bool.false_eq_true]
      simp only [ab_in] at hs ⊢
      (repeat' (first | intro _ | refine And.intro ?_ ?_)) <;> (first | exact hk2 | contradiction | omega | (exfalso; omega))
  · exact hT.elim
set_option maxRecDepth 100000 in
theorem con_X2_write (l : Launch) (D : va_G) (ty : Nat → ClassId) (base : Nat) : ab_Con l D vwCl ty lw_ts base lw_wd yX2_write cX2_write 6 none 1 21 0 0 Tr_X2_write :=
  ab_con_of (own := RX2) (rt := 0) (tb := tbX2) (ini := false) (ca := ca_X2_write) (by decide +kernel) rfl (fun h => by cases h) rfl lw_wd_ok wtbX2 lw_ar cm_X2_write
    (fun p e R s m args below meth c K hcx => by
      obtain ⟨hx, hb, hml, hown, hF, rfl⟩ := hcx
      exact ab_lk_all (ab_all_c (ab_tc_V hx hb hml hown lw_wd_ok hF ⟨rfl, rfl⟩ (con_X2_isDay l D ty base) rfl (lw_wi (by decide +kernel) (by decide +kernel)) (lw_wi (by decide +kernel) (by decide +kernel)) (lw_wi (by decide +kernel) (by decide +kernel)) (lw_wi (by decide +kernel) (by decide +kernel)) (lw_wi (by decide +kernel) (by decide +kernel)) (by decide +kernel) ⟨by decide, by decide⟩) (ab_all_n)))
    (by intro as h K ht; unfold Tr_X2_write at ht; split at ht <;> first | exact ht.elim | exact Nat.le_of_ble_eq_true rfl) (sem_X2_write base)
