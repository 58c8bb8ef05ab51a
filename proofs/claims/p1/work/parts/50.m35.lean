/-! ===== the law's helpers ===== -/
theorem ab_so_mk {α : Type} {x : α} {k : α → Prop} (h : k x) : ab_so (some x) k := h
theorem allIF_r {rain : Int} (h : 0 ≤ rain ∧ rain ≤ 9) : 0 ≤ allIF rain ∧ allIF rain ≤ 1728 := by
  have := sumR_r (f := fun k => cF rain (8 - k / 12).toNat 0) (lo := 0) (hi := 18) (fun k => cF_r h _ 0 (by omega)) 96 0
  unfold allIF
  omega
noncomputable def Tr_L_lay : ATr := fun as h K => match as with
  | [.inr (.inl (some x)), .inl row, .inl from9, .inl wide, .inl nails, .inr (.inl (some o))] => ab_so (ab_sr h x) fun P => ab_pr (h o) fun t n _ => (P.2 = sv0 ∧ (t = 2 ∧ n = 1) ∧ o ∉ x :: srL P.1 ∧ ab_in row ∧ ab_in from9 ∧ ab_in wide ∧ ab_in nails) ∧ ((fitsF (row) (from9) (wide) = false) → K (some (.inl 1)) h) ∧ ((fitsF (row) (from9) (wide) = true ∧ decide (1 ≤ nails ∧ nails ≤ 3) = false) → K (some (.inl 1)) h) ∧ ((fitsF (row) (from9) (wide) = true ∧ decide (1 ≤ nails ∧ nails ≤ 3) = true) → ∀ h' f', h' o = some (.inr (.inl (2, 1, f'))) → f' 0 = (0) → ab_fr h h' (o :: x :: srL P.1) → K (some (.inl 0)) h')
  | _ => False
theorem mo_L_lay : ab_mo Tr_L_lay := by
  intro as h K K' hk ht
  unfold Tr_L_lay at ht ⊢
  split at ht
  · exact ab_so_mo (fun P q => ab_pr_mo (fun t n f w => ⟨w.1, fun e => hk _ _ (w.2.1 e), fun e => hk _ _ (w.2.2.1 e), fun e h' f' e1 e2 e3 => hk _ _ (w.2.2.2 e h' f' e1 e2 e3)⟩) q) ht
  · exact ht.elim
set_option maxRecDepth 100000 in
set_option maxHeartbeats 4000000 in
theorem semw_L_lay (base : Nat) : ab_SemW tbL lw_ts base cL_lay 1 7 1 6 (fun as => ab_en as 7) Tr_L_lay 9 3 5 1 6 TrX_X3_lay (ab_lk [(1, 17), (2, 21)]) := by
  intro as h K hT V hV hC
  unfold Tr_L_lay at hT
  split at hT
  · rename_i x row from9 wide nails o
    obtain ⟨⟨A, v9⟩, hP, hT1⟩ := ab_so_el hT
    obtain ⟨t, n, f, ho, ⟨hv9, ⟨ht, hn⟩, hno, hs⟩, hK⟩ := ab_pr_el hT1
    dsimp only at hv9 hno hK
    subst hv9 ht hn
    have D := (sr_el hP).1
    dsimp only at D
    show V 0 [some (.inr (.inl (some x))), some (.inl row), some (.inl from9), some (.inl wide), some (.inl nails),  some (.inr (.inl (some o))), none] [] h 0 0
    have hret : ∀ (v : Int) (h' : AH), ab_in v → ab_fr h h' (x :: srL A) → (∀ h2 f2, h2 o = some (.inr (.inl (2, 1, f2))) → f2 0 = v → ab_fr h h2 (o :: x :: srL A) → K (some (.inl 0)) h2) → V 12 [some (.inr (.inl (some x))), some (.inl row), some (.inl from9), some (.inl wide), some (.inl nails), some (.inr (.inl (some o))), none] [.inl v, .inl 0, .inr (.inl (some o))] h' 1 6 := by
      intro v h' hv fr hk
      have ho' := (fr o hno).trans ho
      have hk2 := hk (ab_up h' o (.inr (.inl (2, 1, ab_uf f 0 v)))) (ab_uf f 0 v) (ab_up_eq _ _ _) (by simp [ab_uf]) ((fr.sub (fun b hb => List.mem_cons_of_mem _ hb)).up List.mem_cons_self)
      simp only [ab_in] at hv
      refine hV (fun _ => false) 80 _ _ _ _ _ _ ?_
      simp only [ho', ae_astore, ae_goto, ae_i2l, ae_iconst, ae_ireturn, ae_lastore, dL_lay_12, dL_lay_13, dL_lay_14, dL_lay_17, dL_lay_19, dL_lay_20, dL_lay_21, dL_lay_23, dL_lay_24, dL_lay_25, dL_lay_26, ab_wp0, ab_wps, ab_stp, ab_g, ab_st, ab_k2, ab_cl, ab_pop, ab_sz, ab_2, ab_ret, ab_f4, ab_tg, ab_I, ab_II, ab_A, ab_Rf, ab_VR, ab_IR, ab_VIR, ab_1, ab_LL, ab_DD, ab_ob, ab_pr, ab_qr, ab_ln, ab_so, ab_vI, ab_vA, ab_vD, ab_vL, ab_v2, ab_c, ab_fit, ab_rv, ab_tsw, ab_lsw, ab_up_eq, Fin.isValue, ab_f0, ab_f1, ab_f2, ab_f3, List.getElem?_cons_zero, List.getElem?_cons_succ, List.set_cons_zero, List.set_cons_succ, List.length_cons, List.length_nil, List.size_toArray, List.head?_cons, List.tail_cons, Option.map_some, cond_true, cond_false, true_and, and_true, false_and, and_false, not_true_eq_false, not_false_eq_true, true_imp_iff, false_imp_iff, if_true, if_false, ite_true, ite_false, ↓reduceIte, Nat.reduceAdd, Nat.reduceEqDiff, Nat.reduceLeDiff, Nat.reduceLT, Nat.reduceBEq, Nat.reduceBNe, Int.reduceAdd, Int.reduceNeg, Int.reduceSub, Int.reduceLE, Int.reduceLT, Int.reduceToNat, Int.reduceEq, Int.reduceMul, Int.cast_ofNat_Int, Nat.zero_add, Nat.add_zero, Nat.le_refl, eq_self, ne_eq, reduceCtorEq, or_true, true_or, or_false, false_or, Bool.or_true, Bool.or_false, Bool.true_or, Bool.false_or, Nat.zero_le, Int.le_refl, Int.ofNat_zero, Int.ofNat_one, Bool.false_eq_true]
      try simp only [ab_in]
      (repeat' (first | intro _ | refine And.intro ?_ ?_)) <;> (first | exact hk2 | contradiction | omega | (exfalso; omega))
    have hx1 : ∀ q : Nat, K (some (.inl 1)) h → V 17 [some (.inr (.inl (some x))), some (.inl row), some (.inl from9), some (.inl wide), some (.inl nails), some (.inr (.inl (some o))), none] [.inr (.inl (some q))] h 1 6 := by
      intro q hk
      refine hV (fun _ => false) 80 _ _ _ _ _ _ ?_
      simp only [ae_astore, ae_iconst, ae_ireturn, dL_lay_17, dL_lay_19, dL_lay_20, dL_lay_21, dL_lay_23, dL_lay_24, dL_lay_25, dL_lay_26, ab_wp0, ab_wps, ab_stp, ab_g, ab_st, ab_k2, ab_cl, ab_pop, ab_sz, ab_2, ab_ret, ab_f4, ab_tg, ab_I, ab_II, ab_A, ab_Rf, ab_VR, ab_IR, ab_VIR, ab_1, ab_LL, ab_DD, ab_ob, ab_pr, ab_qr, ab_ln, ab_so, ab_vI, ab_vA, ab_vD, ab_vL, ab_v2, ab_c, ab_fit, ab_rv, ab_tsw, ab_lsw, ab_up_eq, Fin.isValue, ab_f0, ab_f1, ab_f2, ab_f3, List.getElem?_cons_zero, List.getElem?_cons_succ, List.set_cons_zero, List.set_cons_succ, List.length_cons, List.length_nil, List.size_toArray, List.head?_cons, List.tail_cons, Option.map_some, cond_true, cond_false, true_and, and_true, false_and, and_false, not_true_eq_false, not_false_eq_true, true_imp_iff, false_imp_iff, if_true, if_false, ite_true, ite_false, ↓reduceIte, Nat.reduceAdd, Nat.reduceEqDiff, Nat.reduceLeDiff, Nat.reduceLT, Nat.reduceBEq, Nat.reduceBNe, Int.reduceAdd, Int.reduceNeg, Int.reduceSub, Int.reduceLE, Int.reduceLT, Int.reduceToNat, Int.reduceEq, Int.reduceMul, Int.cast_ofNat_Int, Nat.zero_add, Nat.add_zero, Nat.le_refl, eq_self, ne_eq, reduceCtorEq, or_true, true_or, or_false, false_or, Bool.or_true, Bool.or_false, Bool.true_or, Bool.false_or, Nat.zero_le, Int.le_refl, Int.ofNat_zero, Int.ofNat_one, Bool.false_eq_true]
      exact hk
    have hx2 : ∀ q : Nat, K (some (.inl 2)) h → V 21 [some (.inr (.inl (some x))), some (.inl row), some (.inl from9), some (.inl wide), some (.inl nails), some (.inr (.inl (some o))), none] [.inr (.inl (some q))] h 1 6 := by
      intro q hk
      refine hV (fun _ => false) 80 _ _ _ _ _ _ ?_
      simp only [ae_astore, ae_iconst, ae_ireturn, dL_lay_21, dL_lay_23, dL_lay_24, dL_lay_25, dL_lay_26, ab_wp0, ab_wps, ab_stp, ab_g, ab_st, ab_k2, ab_cl, ab_pop, ab_sz, ab_2, ab_ret, ab_f4, ab_tg, ab_I, ab_II, ab_A, ab_Rf, ab_VR, ab_IR, ab_VIR, ab_1, ab_LL, ab_DD, ab_ob, ab_pr, ab_qr, ab_ln, ab_so, ab_vI, ab_vA, ab_vD, ab_vL, ab_v2, ab_c, ab_fit, ab_rv, ab_tsw, ab_lsw, ab_up_eq, Fin.isValue, ab_f0, ab_f1, ab_f2, ab_f3, List.getElem?_cons_zero, List.getElem?_cons_succ, List.set_cons_zero, List.set_cons_succ, List.length_cons, List.length_nil, List.size_toArray, List.head?_cons, List.tail_cons, Option.map_some, cond_true, cond_false, true_and, and_true, false_and, and_false, not_true_eq_false, not_false_eq_true, true_imp_iff, false_imp_iff, if_true, if_false, ite_true, ite_false, ↓reduceIte, Nat.reduceAdd, Nat.reduceEqDiff, Nat.reduceLeDiff, Nat.reduceLT, Nat.reduceBEq, Nat.reduceBNe, Int.reduceAdd, Int.reduceNeg, Int.reduceSub, Int.reduceLE, Int.reduceLT, Int.reduceToNat, Int.reduceEq, Int.reduceMul, Int.cast_ofNat_Int, Nat.zero_add, Nat.add_zero, Nat.le_refl, eq_self, ne_eq, reduceCtorEq, or_true, true_or, or_false, false_or, Bool.or_true, Bool.or_false, Bool.true_or, Bool.false_or, Nat.zero_le, Int.le_refl, Int.ofNat_zero, Int.ofNat_one, Bool.false_eq_true]
      exact hk
    have hcall := hC [some (.inr (.inl (some x))), some (.inl row), some (.inl from9), some (.inl wide), some (.inl nails), some (.inr (.inl (some o))), none] [.inr (.inl (some x)), .inl row, .inl from9, .inl wide, .inl nails] [.inl 0, .inr (.inl (some o))] h 0 0 rfl (Nat.le_of_ble_eq_true rfl) (by decide) (by decide) (by simp only [ab_rv, D, ab_ob])
    refine hV (fun p => p == 9) 80 _ _ _ _ _ _ ?_
    simp only [ae_aload, ae_aload_n, ae_iconst, ae_iload, ae_iload_n, dL_lay_0, dL_lay_2, dL_lay_3, dL_lay_4, dL_lay_5, dL_lay_6, dL_lay_7, ab_wp0, ab_wps, ab_stp, ab_g, ab_st, ab_k2, ab_cl, ab_pop, ab_sz, ab_2, ab_ret, ab_f4, ab_tg, ab_I, ab_II, ab_A, ab_Rf, ab_VR, ab_IR, ab_VIR, ab_1, ab_LL, ab_DD, ab_ob, ab_pr, ab_qr, ab_ln, ab_so, ab_vI, ab_vA, ab_vD, ab_vL, ab_v2, ab_c, ab_fit, ab_rv, ab_tsw, ab_lsw, ab_up_eq, Fin.isValue, ab_f0, ab_f1, ab_f2, ab_f3, List.getElem?_cons_zero, List.getElem?_cons_succ, List.set_cons_zero, List.set_cons_succ, List.length_cons, List.length_nil, List.size_toArray, List.head?_cons, List.tail_cons, Option.map_some, cond_true, cond_false, true_and, and_true, false_and, and_false, not_true_eq_false, not_false_eq_true, true_imp_iff, false_imp_iff, if_true, if_false, ite_true, ite_false, ↓reduceIte, Nat.reduceAdd, Nat.reduceEqDiff, Nat.reduceLeDiff, Nat.reduceLT, Nat.reduceBEq, Nat.reduceBNe, Int.reduceAdd, Int.reduceNeg, Int.reduceSub, Int.reduceLE, Int.reduceLT, Int.reduceToNat, Int.reduceEq, Int.reduceMul, Int.cast_ofNat_Int, Nat.zero_add, Nat.add_zero, Nat.le_refl, eq_self, ne_eq, reduceCtorEq, or_true, true_or, or_false, false_or, Bool.or_true, Bool.or_false, Bool.true_or, Bool.false_or, Nat.zero_le, Int.le_refl, Int.ofNat_zero, Int.ofNat_one, Bool.false_eq_true]
    refine hcall ?_
    unfold TrX_X3_lay
    dsimp only
    rw [hP]
    refine ab_so_mk ?_
    dsimp only
    obtain ⟨hK0, hK1, hK2⟩ := hK
    refine ⟨⟨rfl, hs⟩, ?_, ?_⟩
    · intro hl h' fr
      refine ⟨fun v hv => ?_, fun n hn => (by cases hn), fun z => (by cases z), fun r9 z => (by cases z), fun d9 z => (by cases z)⟩
      cases hv
      refine hret _ h' ?_ fr (hK2 (by simpa using hl))
      exact ⟨by decide, by decide⟩
    · intro hl
      refine ⟨fun v hv => (by cases hv), fun n hn => ?_, fun z => (by cases z), fun r9 z => (by cases z), fun d9 z => (by cases z)⟩
      have hn9 : n = 1 := by
        have := Option.some.inj hn
        simp only [Sum.inr.injEq, Sum.inl.injEq] at this
        omega
      subst hn9
      refine ⟨_, rfl, fun q => hx1 q ?_⟩
      revert hl hK0 hK1
      generalize K (some (.inl 1)) h = KK
      cases fitsF (row) (from9) (wide) <;> cases decide (1 ≤ nails ∧ nails ≤ 3) <;> intro hK0 hK1 hl <;> first | (exfalso; revert hl; simp; done) | (refine hK0 ?_; simp; done) | (refine hK1 ?_; simp; done) | (refine hK0 trivial)
  · exact hT.elim
set_option maxRecDepth 100000 in
theorem conw_L_lay (l : Launch) (hl : l.stackTraces = false) (D : va_G) (ty : Nat → ClassId) (base : Nat) : ab_ConW l D vwCl ty lw_ts base lw_wd yL_lay cL_lay 7 (some .int) [(0, 14, 17, 13), (0, 14, 21, 15)] 7 114 1 6 Tr_L_lay :=
  ab_conW_of (own := RL) (rt := 1) (tb := tbL) (pc := 9) (ci := 3) (n := 4) (i := 7) (yC := yX3_lay) (hp := ab_lk [(1, 17), (2, 21)]) (by decide +kernel) rfl rfl lw_wd_ok wtbL lw_ar (conx_X3_lay l hl D ty base) dL_lay_9 rfl (lw_wi (by decide +kernel) (by decide +kernel)) (lw_wi (by decide +kernel) (by decide +kernel)) (lw_wi (by decide +kernel) (by decide +kernel)) (lw_wi (by decide +kernel) (by decide +kernel)) (lw_wi (by decide +kernel) (by decide +kernel)) (by decide +kernel) ⟨by decide, by decide⟩
    (ab_lk_all (P := fun n t => ab_hd RL lw_wd [(0, 14, 17, 13), (0, 14, 21, 15)] 9 n t) (ab_all_c (⟨[], (0, 14, 17, 13), [(0, 14, 21, 15)], rfl, fun _ h => absurd h List.not_mem_nil, ⟨by decide, by decide⟩, by decide, rfl, (lw_wi (by decide +kernel) (by decide +kernel)), (lw_wi (by decide +kernel) (by decide +kernel))⟩) (ab_all_c (⟨[(0, 14, 17, 13)], (0, 14, 21, 15), [], rfl, List.forall_mem_cons.mpr ⟨⟨by decide, 1, Or.inl rfl, by decide, (lw_wi (by decide +kernel) (by decide +kernel))⟩, fun _ h => absurd h List.not_mem_nil⟩, ⟨by decide, by decide⟩, by decide, rfl, (lw_wi (by decide +kernel) (by decide +kernel)), (lw_wi (by decide +kernel) (by decide +kernel))⟩) (ab_all_n))))
    (by intro as h K ht; unfold Tr_L_lay at ht; split at ht <;> first | exact ht.elim | exact Nat.le_of_ble_eq_true rfl) (semw_L_lay base)
/- -/
noncomputable def Tr_L_take : ATr := fun as h K => match as with
  | [.inr (.inl (some x)), .inl s, .inr (.inl (some o))] => ab_so (ab_sr h x) fun P => ab_pr (h o) fun t n _ => (P.2 = sv0 ∧ (t = 2 ∧ n = 1) ∧ o ∉ x :: srL P.1 ∧ ab_in s) ∧ ((True) → K (some (.inl 1)) h)
  | _ => False
theorem mo_L_take : ab_mo Tr_L_take := by
  intro as h K K' hk ht
  unfold Tr_L_take at ht ⊢
  split at ht
  · exact ab_so_mo (fun P q => ab_pr_mo (fun t n f w => ⟨w.1, fun e => hk _ _ (w.2 e)⟩) q) ht
  · exact ht.elim
set_option maxRecDepth 100000 in
set_option maxHeartbeats 4000000 in
theorem semw_L_take (base : Nat) : ab_SemW tbL lw_ts base cL_take 1 4 1 6 (fun as => ab_en as 4) Tr_L_take 4 3 2 1 6 TrX_X3_take (ab_lk [(3, 12), (2, 15)]) := by
  intro as h K hT V hV hC
  unfold Tr_L_take at hT
  split at hT
  · rename_i x s o
    obtain ⟨⟨A, v9⟩, hP, hT1⟩ := ab_so_el hT
    obtain ⟨t, n, f, ho, ⟨hv9, ⟨ht, hn⟩, hno, hs⟩, hK⟩ := ab_pr_el hT1
    dsimp only at hv9 hno hK
    subst hv9 ht hn
    have D := (sr_el hP).1
    dsimp only at D
    show V 0 [some (.inr (.inl (some x))), some (.inl s),  some (.inr (.inl (some o))), none] [] h 0 0
    have hret : ∀ (v : Int) (h' : AH), ab_in v → ab_fr h h' (x :: srL A) → (∀ h2 f2, h2 o = some (.inr (.inl (2, 1, f2))) → f2 0 = v → ab_fr h h2 (o :: x :: srL A) → K (some (.inl 0)) h2) → V 7 [some (.inr (.inl (some x))), some (.inl s), some (.inr (.inl (some o))), none] [.inl v, .inl 0, .inr (.inl (some o))] h' 1 6 := by
      intro v h' hv fr hk
      have ho' := (fr o hno).trans ho
      have hk2 := hk (ab_up h' o (.inr (.inl (2, 1, ab_uf f 0 v)))) (ab_uf f 0 v) (ab_up_eq _ _ _) (by simp [ab_uf]) ((fr.sub (fun b hb => List.mem_cons_of_mem _ hb)).up List.mem_cons_self)
      simp only [ab_in] at hv
      refine hV (fun _ => false) 80 _ _ _ _ _ _ ?_
      simp only [ho', ae_astore_n, ae_goto, ae_i2l, ae_iconst, ae_ireturn, ae_lastore, dL_take_7, dL_take_8, dL_take_9, dL_take_12, dL_take_13, dL_take_14, dL_take_15, dL_take_16, dL_take_17, dL_take_18, dL_take_19, ab_wp0, ab_wps, ab_stp, ab_g, ab_st, ab_k2, ab_cl, ab_pop, ab_sz, ab_2, ab_ret, ab_f4, ab_tg, ab_I, ab_II, ab_A, ab_Rf, ab_VR, ab_IR, ab_VIR, ab_1, ab_LL, ab_DD, ab_ob, ab_pr, ab_qr, ab_ln, ab_so, ab_vI, ab_vA, ab_vD, ab_vL, ab_v2, ab_c, ab_fit, ab_rv, ab_tsw, ab_lsw, ab_up_eq, Fin.isValue, ab_f0, ab_f1, ab_f2, ab_f3, List.getElem?_cons_zero, List.getElem?_cons_succ, List.set_cons_zero, List.set_cons_succ, List.length_cons, List.length_nil, List.size_toArray, List.head?_cons, List.tail_cons, Option.map_some, cond_true, cond_false, true_and, and_true, false_and, and_false, not_true_eq_false, not_false_eq_true, true_imp_iff, false_imp_iff, if_true, if_false, ite_true, ite_false, ↓reduceIte, Nat.reduceAdd, Nat.reduceEqDiff, Nat.reduceLeDiff, Nat.reduceLT, Nat.reduceBEq, Nat.reduceBNe, Int.reduceAdd, Int.reduceNeg, Int.reduceSub, Int.reduceLE, Int.reduceLT, Int.reduceToNat, Int.reduceEq, Int.reduceMul, Int.cast_ofNat_Int, Nat.zero_add, Nat.add_zero, Nat.le_refl, eq_self, ne_eq, reduceCtorEq, or_true, true_or, or_false, false_or, Bool.or_true, Bool.or_false, Bool.true_or, Bool.false_or, Nat.zero_le, Int.le_refl, Int.ofNat_zero, Int.ofNat_one, Bool.false_eq_true]
      try simp only [ab_in]
      (repeat' (first | intro _ | refine And.intro ?_ ?_)) <;> (first | exact hk2 | contradiction | omega | (exfalso; omega))
    have hx3 : ∀ q : Nat, K (some (.inl 1)) h → V 12 [some (.inr (.inl (some x))), some (.inl s), some (.inr (.inl (some o))), none] [.inr (.inl (some q))] h 1 6 := by
      intro q hk
      refine hV (fun _ => false) 80 _ _ _ _ _ _ ?_
      simp only [ae_astore_n, ae_iconst, ae_ireturn, dL_take_12, dL_take_13, dL_take_14, dL_take_15, dL_take_16, dL_take_17, dL_take_18, dL_take_19, ab_wp0, ab_wps, ab_stp, ab_g, ab_st, ab_k2, ab_cl, ab_pop, ab_sz, ab_2, ab_ret, ab_f4, ab_tg, ab_I, ab_II, ab_A, ab_Rf, ab_VR, ab_IR, ab_VIR, ab_1, ab_LL, ab_DD, ab_ob, ab_pr, ab_qr, ab_ln, ab_so, ab_vI, ab_vA, ab_vD, ab_vL, ab_v2, ab_c, ab_fit, ab_rv, ab_tsw, ab_lsw, ab_up_eq, Fin.isValue, ab_f0, ab_f1, ab_f2, ab_f3, List.getElem?_cons_zero, List.getElem?_cons_succ, List.set_cons_zero, List.set_cons_succ, List.length_cons, List.length_nil, List.size_toArray, List.head?_cons, List.tail_cons, Option.map_some, cond_true, cond_false, true_and, and_true, false_and, and_false, not_true_eq_false, not_false_eq_true, true_imp_iff, false_imp_iff, if_true, if_false, ite_true, ite_false, ↓reduceIte, Nat.reduceAdd, Nat.reduceEqDiff, Nat.reduceLeDiff, Nat.reduceLT, Nat.reduceBEq, Nat.reduceBNe, Int.reduceAdd, Int.reduceNeg, Int.reduceSub, Int.reduceLE, Int.reduceLT, Int.reduceToNat, Int.reduceEq, Int.reduceMul, Int.cast_ofNat_Int, Nat.zero_add, Nat.add_zero, Nat.le_refl, eq_self, ne_eq, reduceCtorEq, or_true, true_or, or_false, false_or, Bool.or_true, Bool.or_false, Bool.true_or, Bool.false_or, Nat.zero_le, Int.le_refl, Int.ofNat_zero, Int.ofNat_one, Bool.false_eq_true]
      exact hk
    have hx2 : ∀ q : Nat, K (some (.inl 2)) h → V 15 [some (.inr (.inl (some x))), some (.inl s), some (.inr (.inl (some o))), none] [.inr (.inl (some q))] h 1 6 := by
      intro q hk
      refine hV (fun _ => false) 80 _ _ _ _ _ _ ?_
      simp only [ae_astore_n, ae_iconst, ae_ireturn, dL_take_15, dL_take_16, dL_take_17, dL_take_18, dL_take_19, ab_wp0, ab_wps, ab_stp, ab_g, ab_st, ab_k2, ab_cl, ab_pop, ab_sz, ab_2, ab_ret, ab_f4, ab_tg, ab_I, ab_II, ab_A, ab_Rf, ab_VR, ab_IR, ab_VIR, ab_1, ab_LL, ab_DD, ab_ob, ab_pr, ab_qr, ab_ln, ab_so, ab_vI, ab_vA, ab_vD, ab_vL, ab_v2, ab_c, ab_fit, ab_rv, ab_tsw, ab_lsw, ab_up_eq, Fin.isValue, ab_f0, ab_f1, ab_f2, ab_f3, List.getElem?_cons_zero, List.getElem?_cons_succ, List.set_cons_zero, List.set_cons_succ, List.length_cons, List.length_nil, List.size_toArray, List.head?_cons, List.tail_cons, Option.map_some, cond_true, cond_false, true_and, and_true, false_and, and_false, not_true_eq_false, not_false_eq_true, true_imp_iff, false_imp_iff, if_true, if_false, ite_true, ite_false, ↓reduceIte, Nat.reduceAdd, Nat.reduceEqDiff, Nat.reduceLeDiff, Nat.reduceLT, Nat.reduceBEq, Nat.reduceBNe, Int.reduceAdd, Int.reduceNeg, Int.reduceSub, Int.reduceLE, Int.reduceLT, Int.reduceToNat, Int.reduceEq, Int.reduceMul, Int.cast_ofNat_Int, Nat.zero_add, Nat.add_zero, Nat.le_refl, eq_self, ne_eq, reduceCtorEq, or_true, true_or, or_false, false_or, Bool.or_true, Bool.or_false, Bool.true_or, Bool.false_or, Nat.zero_le, Int.le_refl, Int.ofNat_zero, Int.ofNat_one, Bool.false_eq_true]
      exact hk
    have hcall := hC [some (.inr (.inl (some x))), some (.inl s), some (.inr (.inl (some o))), none] [.inr (.inl (some x)), .inl s] [.inl 0, .inr (.inl (some o))] h 0 0 rfl (Nat.le_of_ble_eq_true rfl) (by decide) (by decide) (by simp only [ab_rv, D, ab_ob])
    refine hV (fun p => p == 4) 80 _ _ _ _ _ _ ?_
    simp only [ae_aload_n, ae_iconst, ae_iload_n, dL_take_0, dL_take_1, dL_take_2, dL_take_3, ab_wp0, ab_wps, ab_stp, ab_g, ab_st, ab_k2, ab_cl, ab_pop, ab_sz, ab_2, ab_ret, ab_f4, ab_tg, ab_I, ab_II, ab_A, ab_Rf, ab_VR, ab_IR, ab_VIR, ab_1, ab_LL, ab_DD, ab_ob, ab_pr, ab_qr, ab_ln, ab_so, ab_vI, ab_vA, ab_vD, ab_vL, ab_v2, ab_c, ab_fit, ab_rv, ab_tsw, ab_lsw, ab_up_eq, Fin.isValue, ab_f0, ab_f1, ab_f2, ab_f3, List.getElem?_cons_zero, List.getElem?_cons_succ, List.set_cons_zero, List.set_cons_succ, List.length_cons, List.length_nil, List.size_toArray, List.head?_cons, List.tail_cons, Option.map_some, cond_true, cond_false, true_and, and_true, false_and, and_false, not_true_eq_false, not_false_eq_true, true_imp_iff, false_imp_iff, if_true, if_false, ite_true, ite_false, ↓reduceIte, Nat.reduceAdd, Nat.reduceEqDiff, Nat.reduceLeDiff, Nat.reduceLT, Nat.reduceBEq, Nat.reduceBNe, Int.reduceAdd, Int.reduceNeg, Int.reduceSub, Int.reduceLE, Int.reduceLT, Int.reduceToNat, Int.reduceEq, Int.reduceMul, Int.cast_ofNat_Int, Nat.zero_add, Nat.add_zero, Nat.le_refl, eq_self, ne_eq, reduceCtorEq, or_true, true_or, or_false, false_or, Bool.or_true, Bool.or_false, Bool.true_or, Bool.false_or, Nat.zero_le, Int.le_refl, Int.ofNat_zero, Int.ofNat_one, Bool.false_eq_true]
    refine hcall ?_
    unfold TrX_X3_take
    dsimp only
    rw [hP]
    refine ab_so_mk ?_
    dsimp only
    have hK0 := hK
    refine ⟨⟨rfl, hs⟩, ?_⟩
    · intro hl
      refine ⟨fun v hv => (by cases hv), fun n hn => ?_, fun z => (by cases z), fun r9 z => (by cases z), fun d9 z => (by cases z)⟩
      have hn9 : n = 3 := by
        have := Option.some.inj hn
        simp only [Sum.inr.injEq, Sum.inl.injEq] at this
        omega
      subst hn9
      refine ⟨_, rfl, fun q => hx3 q ?_⟩
      exact hK0 trivial
  · exact hT.elim
set_option maxRecDepth 100000 in
theorem conw_L_take (l : Launch) (hl : l.stackTraces = false) (D : va_G) (ty : Nat → ClassId) (base : Nat) : ab_ConW l D vwCl ty lw_ts base lw_wd yL_take cL_take 4 (some .int) [(0, 9, 12, 21), (0, 9, 15, 15)] 7 111 1 6 Tr_L_take :=
  ab_conW_of (own := RL) (rt := 1) (tb := tbL) (pc := 4) (ci := 3) (n := 1) (i := 17) (yC := yX3_take) (hp := ab_lk [(3, 12), (2, 15)]) (by decide +kernel) rfl rfl lw_wd_ok wtbL lw_ar (conx_X3_take l hl D ty base) dL_take_4 rfl (lw_wi (by decide +kernel) (by decide +kernel)) (lw_wi (by decide +kernel) (by decide +kernel)) (lw_wi (by decide +kernel) (by decide +kernel)) (lw_wi (by decide +kernel) (by decide +kernel)) (lw_wi (by decide +kernel) (by decide +kernel)) (by decide +kernel) ⟨by decide, by decide⟩
    (ab_lk_all (P := fun n t => ab_hd RL lw_wd [(0, 9, 12, 21), (0, 9, 15, 15)] 4 n t) (ab_all_c (⟨[], (0, 9, 12, 21), [(0, 9, 15, 15)], rfl, fun _ h => absurd h List.not_mem_nil, ⟨by decide, by decide⟩, by decide, rfl, (lw_wi (by decide +kernel) (by decide +kernel)), (lw_wi (by decide +kernel) (by decide +kernel))⟩) (ab_all_c (⟨[(0, 9, 12, 21)], (0, 9, 15, 15), [], rfl, List.forall_mem_cons.mpr ⟨⟨by decide, 3, Or.inr (Or.inr rfl), by decide, (lw_wi (by decide +kernel) (by decide +kernel))⟩, fun _ h => absurd h List.not_mem_nil⟩, ⟨by decide, by decide⟩, by decide, rfl, (lw_wi (by decide +kernel) (by decide +kernel)), (lw_wi (by decide +kernel) (by decide +kernel))⟩) (ab_all_n))))
    (by intro as h K ht; unfold Tr_L_take at ht; split at ht <;> first | exact ht.elim | exact Nat.le_of_ble_eq_true rfl) (semw_L_take base)
/- -/
noncomputable def Tr_L_nail : ATr := fun as h K => match as with
  | [.inr (.inl (some x)), .inl s, .inl nails, .inr (.inl (some o))] => ab_so (ab_sr h x) fun P => ab_pr (h o) fun t n _ => (P.2 = sv0 ∧ (t = 2 ∧ n = 1) ∧ o ∉ x :: srL P.1 ∧ ab_in s ∧ ab_in nails) ∧ ((True) → K (some (.inl 1)) h)
  | _ => False
theorem mo_L_nail : ab_mo Tr_L_nail := by
  intro as h K K' hk ht
  unfold Tr_L_nail at ht ⊢
  split at ht
  · exact ab_so_mo (fun P q => ab_pr_mo (fun t n f w => ⟨w.1, fun e => hk _ _ (w.2 e)⟩) q) ht
  · exact ht.elim
set_option maxRecDepth 100000 in
set_option maxHeartbeats 4000000 in
theorem semw_L_nail (base : Nat) : ab_SemW tbL lw_ts base cL_nail 1 5 1 6 (fun as => ab_en as 5) Tr_L_nail 5 3 3 1 6 TrX_X3_nail (ab_lk [(3, 13), (1, 17), (2, 21)]) := by
  intro as h K hT V hV hC
  unfold Tr_L_nail at hT
  split at hT
  · rename_i x s nails o
    obtain ⟨⟨A, v9⟩, hP, hT1⟩ := ab_so_el hT
    obtain ⟨t, n, f, ho, ⟨hv9, ⟨ht, hn⟩, hno, hs⟩, hK⟩ := ab_pr_el hT1
    dsimp only at hv9 hno hK
    subst hv9 ht hn
    have D := (sr_el hP).1
    dsimp only at D
    show V 0 [some (.inr (.inl (some x))), some (.inl s), some (.inl nails),  some (.inr (.inl (some o))), none] [] h 0 0
    have hret : ∀ (v : Int) (h' : AH), ab_in v → ab_fr h h' (x :: srL A) → (∀ h2 f2, h2 o = some (.inr (.inl (2, 1, f2))) → f2 0 = v → ab_fr h h2 (o :: x :: srL A) → K (some (.inl 0)) h2) → V 8 [some (.inr (.inl (some x))), some (.inl s), some (.inl nails), some (.inr (.inl (some o))), none] [.inl v, .inl 0, .inr (.inl (some o))] h' 1 6 := by
      intro v h' hv fr hk
      have ho' := (fr o hno).trans ho
      have hk2 := hk (ab_up h' o (.inr (.inl (2, 1, ab_uf f 0 v)))) (ab_uf f 0 v) (ab_up_eq _ _ _) (by simp [ab_uf]) ((fr.sub (fun b hb => List.mem_cons_of_mem _ hb)).up List.mem_cons_self)
      simp only [ab_in] at hv
      refine hV (fun _ => false) 80 _ _ _ _ _ _ ?_
      simp only [ho', ae_astore, ae_goto, ae_i2l, ae_iconst, ae_ireturn, ae_lastore, dL_nail_8, dL_nail_9, dL_nail_10, dL_nail_13, dL_nail_15, dL_nail_16, dL_nail_17, dL_nail_19, dL_nail_20, dL_nail_21, dL_nail_23, dL_nail_24, dL_nail_25, dL_nail_26, ab_wp0, ab_wps, ab_stp, ab_g, ab_st, ab_k2, ab_cl, ab_pop, ab_sz, ab_2, ab_ret, ab_f4, ab_tg, ab_I, ab_II, ab_A, ab_Rf, ab_VR, ab_IR, ab_VIR, ab_1, ab_LL, ab_DD, ab_ob, ab_pr, ab_qr, ab_ln, ab_so, ab_vI, ab_vA, ab_vD, ab_vL, ab_v2, ab_c, ab_fit, ab_rv, ab_tsw, ab_lsw, ab_up_eq, Fin.isValue, ab_f0, ab_f1, ab_f2, ab_f3, List.getElem?_cons_zero, List.getElem?_cons_succ, List.set_cons_zero, List.set_cons_succ, List.length_cons, List.length_nil, List.size_toArray, List.head?_cons, List.tail_cons, Option.map_some, cond_true, cond_false, true_and, and_true, false_and, and_false, not_true_eq_false, not_false_eq_true, true_imp_iff, false_imp_iff, if_true, if_false, ite_true, ite_false, ↓reduceIte, Nat.reduceAdd, Nat.reduceEqDiff, Nat.reduceLeDiff, Nat.reduceLT, Nat.reduceBEq, Nat.reduceBNe, Int.reduceAdd, Int.reduceNeg, Int.reduceSub, Int.reduceLE, Int.reduceLT, Int.reduceToNat, Int.reduceEq, Int.reduceMul, Int.cast_ofNat_Int, Nat.zero_add, Nat.add_zero, Nat.le_refl, eq_self, ne_eq, reduceCtorEq, or_true, true_or, or_false, false_or, Bool.or_true, Bool.or_false, Bool.true_or, Bool.false_or, Nat.zero_le, Int.le_refl, Int.ofNat_zero, Int.ofNat_one, Bool.false_eq_true]
      try simp only [ab_in]
      (repeat' (first | intro _ | refine And.intro ?_ ?_)) <;> (first | exact hk2 | contradiction | omega | (exfalso; omega))
    have hx3 : ∀ q : Nat, K (some (.inl 1)) h → V 13 [some (.inr (.inl (some x))), some (.inl s), some (.inl nails), some (.inr (.inl (some o))), none] [.inr (.inl (some q))] h 1 6 := by
      intro q hk
      refine hV (fun _ => false) 80 _ _ _ _ _ _ ?_
      simp only [ae_astore, ae_iconst, ae_ireturn, dL_nail_13, dL_nail_15, dL_nail_16, dL_nail_17, dL_nail_19, dL_nail_20, dL_nail_21, dL_nail_23, dL_nail_24, dL_nail_25, dL_nail_26, ab_wp0, ab_wps, ab_stp, ab_g, ab_st, ab_k2, ab_cl, ab_pop, ab_sz, ab_2, ab_ret, ab_f4, ab_tg, ab_I, ab_II, ab_A, ab_Rf, ab_VR, ab_IR, ab_VIR, ab_1, ab_LL, ab_DD, ab_ob, ab_pr, ab_qr, ab_ln, ab_so, ab_vI, ab_vA, ab_vD, ab_vL, ab_v2, ab_c, ab_fit, ab_rv, ab_tsw, ab_lsw, ab_up_eq, Fin.isValue, ab_f0, ab_f1, ab_f2, ab_f3, List.getElem?_cons_zero, List.getElem?_cons_succ, List.set_cons_zero, List.set_cons_succ, List.length_cons, List.length_nil, List.size_toArray, List.head?_cons, List.tail_cons, Option.map_some, cond_true, cond_false, true_and, and_true, false_and, and_false, not_true_eq_false, not_false_eq_true, true_imp_iff, false_imp_iff, if_true, if_false, ite_true, ite_false, ↓reduceIte, Nat.reduceAdd, Nat.reduceEqDiff, Nat.reduceLeDiff, Nat.reduceLT, Nat.reduceBEq, Nat.reduceBNe, Int.reduceAdd, Int.reduceNeg, Int.reduceSub, Int.reduceLE, Int.reduceLT, Int.reduceToNat, Int.reduceEq, Int.reduceMul, Int.cast_ofNat_Int, Nat.zero_add, Nat.add_zero, Nat.le_refl, eq_self, ne_eq, reduceCtorEq, or_true, true_or, or_false, false_or, Bool.or_true, Bool.or_false, Bool.true_or, Bool.false_or, Nat.zero_le, Int.le_refl, Int.ofNat_zero, Int.ofNat_one, Bool.false_eq_true]
      exact hk
    have hx1 : ∀ q : Nat, K (some (.inl 2)) h → V 17 [some (.inr (.inl (some x))), some (.inl s), some (.inl nails), some (.inr (.inl (some o))), none] [.inr (.inl (some q))] h 1 6 := by
      intro q hk
      refine hV (fun _ => false) 80 _ _ _ _ _ _ ?_
      simp only [ae_astore, ae_iconst, ae_ireturn, dL_nail_17, dL_nail_19, dL_nail_20, dL_nail_21, dL_nail_23, dL_nail_24, dL_nail_25, dL_nail_26, ab_wp0, ab_wps, ab_stp, ab_g, ab_st, ab_k2, ab_cl, ab_pop, ab_sz, ab_2, ab_ret, ab_f4, ab_tg, ab_I, ab_II, ab_A, ab_Rf, ab_VR, ab_IR, ab_VIR, ab_1, ab_LL, ab_DD, ab_ob, ab_pr, ab_qr, ab_ln, ab_so, ab_vI, ab_vA, ab_vD, ab_vL, ab_v2, ab_c, ab_fit, ab_rv, ab_tsw, ab_lsw, ab_up_eq, Fin.isValue, ab_f0, ab_f1, ab_f2, ab_f3, List.getElem?_cons_zero, List.getElem?_cons_succ, List.set_cons_zero, List.set_cons_succ, List.length_cons, List.length_nil, List.size_toArray, List.head?_cons, List.tail_cons, Option.map_some, cond_true, cond_false, true_and, and_true, false_and, and_false, not_true_eq_false, not_false_eq_true, true_imp_iff, false_imp_iff, if_true, if_false, ite_true, ite_false, ↓reduceIte, Nat.reduceAdd, Nat.reduceEqDiff, Nat.reduceLeDiff, Nat.reduceLT, Nat.reduceBEq, Nat.reduceBNe, Int.reduceAdd, Int.reduceNeg, Int.reduceSub, Int.reduceLE, Int.reduceLT, Int.reduceToNat, Int.reduceEq, Int.reduceMul, Int.cast_ofNat_Int, Nat.zero_add, Nat.add_zero, Nat.le_refl, eq_self, ne_eq, reduceCtorEq, or_true, true_or, or_false, false_or, Bool.or_true, Bool.or_false, Bool.true_or, Bool.false_or, Nat.zero_le, Int.le_refl, Int.ofNat_zero, Int.ofNat_one, Bool.false_eq_true]
      exact hk
    have hx2 : ∀ q : Nat, K (some (.inl 3)) h → V 21 [some (.inr (.inl (some x))), some (.inl s), some (.inl nails), some (.inr (.inl (some o))), none] [.inr (.inl (some q))] h 1 6 := by
      intro q hk
      refine hV (fun _ => false) 80 _ _ _ _ _ _ ?_
      simp only [ae_astore, ae_iconst, ae_ireturn, dL_nail_21, dL_nail_23, dL_nail_24, dL_nail_25, dL_nail_26, ab_wp0, ab_wps, ab_stp, ab_g, ab_st, ab_k2, ab_cl, ab_pop, ab_sz, ab_2, ab_ret, ab_f4, ab_tg, ab_I, ab_II, ab_A, ab_Rf, ab_VR, ab_IR, ab_VIR, ab_1, ab_LL, ab_DD, ab_ob, ab_pr, ab_qr, ab_ln, ab_so, ab_vI, ab_vA, ab_vD, ab_vL, ab_v2, ab_c, ab_fit, ab_rv, ab_tsw, ab_lsw, ab_up_eq, Fin.isValue, ab_f0, ab_f1, ab_f2, ab_f3, List.getElem?_cons_zero, List.getElem?_cons_succ, List.set_cons_zero, List.set_cons_succ, List.length_cons, List.length_nil, List.size_toArray, List.head?_cons, List.tail_cons, Option.map_some, cond_true, cond_false, true_and, and_true, false_and, and_false, not_true_eq_false, not_false_eq_true, true_imp_iff, false_imp_iff, if_true, if_false, ite_true, ite_false, ↓reduceIte, Nat.reduceAdd, Nat.reduceEqDiff, Nat.reduceLeDiff, Nat.reduceLT, Nat.reduceBEq, Nat.reduceBNe, Int.reduceAdd, Int.reduceNeg, Int.reduceSub, Int.reduceLE, Int.reduceLT, Int.reduceToNat, Int.reduceEq, Int.reduceMul, Int.cast_ofNat_Int, Nat.zero_add, Nat.add_zero, Nat.le_refl, eq_self, ne_eq, reduceCtorEq, or_true, true_or, or_false, false_or, Bool.or_true, Bool.or_false, Bool.true_or, Bool.false_or, Nat.zero_le, Int.le_refl, Int.ofNat_zero, Int.ofNat_one, Bool.false_eq_true]
      exact hk
    have hcall := hC [some (.inr (.inl (some x))), some (.inl s), some (.inl nails), some (.inr (.inl (some o))), none] [.inr (.inl (some x)), .inl s, .inl nails] [.inl 0, .inr (.inl (some o))] h 0 0 rfl (Nat.le_of_ble_eq_true rfl) (by decide) (by decide) (by simp only [ab_rv, D, ab_ob])
    refine hV (fun p => p == 5) 80 _ _ _ _ _ _ ?_
    simp only [ae_aload_n, ae_iconst, ae_iload_n, dL_nail_0, dL_nail_1, dL_nail_2, dL_nail_3, dL_nail_4, ab_wp0, ab_wps, ab_stp, ab_g, ab_st, ab_k2, ab_cl, ab_pop, ab_sz, ab_2, ab_ret, ab_f4, ab_tg, ab_I, ab_II, ab_A, ab_Rf, ab_VR, ab_IR, ab_VIR, ab_1, ab_LL, ab_DD, ab_ob, ab_pr, ab_qr, ab_ln, ab_so, ab_vI, ab_vA, ab_vD, ab_vL, ab_v2, ab_c, ab_fit, ab_rv, ab_tsw, ab_lsw, ab_up_eq, Fin.isValue, ab_f0, ab_f1, ab_f2, ab_f3, List.getElem?_cons_zero, List.getElem?_cons_succ, List.set_cons_zero, List.set_cons_succ, List.length_cons, List.length_nil, List.size_toArray, List.head?_cons, List.tail_cons, Option.map_some, cond_true, cond_false, true_and, and_true, false_and, and_false, not_true_eq_false, not_false_eq_true, true_imp_iff, false_imp_iff, if_true, if_false, ite_true, ite_false, ↓reduceIte, Nat.reduceAdd, Nat.reduceEqDiff, Nat.reduceLeDiff, Nat.reduceLT, Nat.reduceBEq, Nat.reduceBNe, Int.reduceAdd, Int.reduceNeg, Int.reduceSub, Int.reduceLE, Int.reduceLT, Int.reduceToNat, Int.reduceEq, Int.reduceMul, Int.cast_ofNat_Int, Nat.zero_add, Nat.add_zero, Nat.le_refl, eq_self, ne_eq, reduceCtorEq, or_true, true_or, or_false, false_or, Bool.or_true, Bool.or_false, Bool.true_or, Bool.false_or, Nat.zero_le, Int.le_refl, Int.ofNat_zero, Int.ofNat_one, Bool.false_eq_true]
    refine hcall ?_
    unfold TrX_X3_nail
    dsimp only
    rw [hP]
    refine ab_so_mk ?_
    dsimp only
    have hK0 := hK
    refine ⟨⟨rfl, hs⟩, ?_⟩
    · intro hl
      refine ⟨fun v hv => (by cases hv), fun n hn => ?_, fun z => (by cases z), fun r9 z => (by cases z), fun d9 z => (by cases z)⟩
      have hn9 : n = 3 := by
        have := Option.some.inj hn
        simp only [Sum.inr.injEq, Sum.inl.injEq] at this
        omega
      subst hn9
      refine ⟨_, rfl, fun q => hx3 q ?_⟩
      exact hK0 trivial
  · exact hT.elim
set_option maxRecDepth 100000 in
theorem conw_L_nail (l : Launch) (hl : l.stackTraces = false) (D : va_G) (ty : Nat → ClassId) (base : Nat) : ab_ConW l D vwCl ty lw_ts base lw_wd yL_nail cL_nail 5 (some .int) [(0, 10, 13, 21), (0, 10, 17, 13), (0, 10, 21, 15)] 7 113 1 6 Tr_L_nail :=
  ab_conW_of (own := RL) (rt := 1) (tb := tbL) (pc := 5) (ci := 3) (n := 2) (i := 23) (yC := yX3_nail) (hp := ab_lk [(3, 13), (1, 17), (2, 21)]) (by decide +kernel) rfl rfl lw_wd_ok wtbL lw_ar (conx_X3_nail l hl D ty base) dL_nail_5 rfl (lw_wi (by decide +kernel) (by decide +kernel)) (lw_wi (by decide +kernel) (by decide +kernel)) (lw_wi (by decide +kernel) (by decide +kernel)) (lw_wi (by decide +kernel) (by decide +kernel)) (lw_wi (by decide +kernel) (by decide +kernel)) (by decide +kernel) ⟨by decide, by decide⟩
    (ab_lk_all (P := fun n t => ab_hd RL lw_wd [(0, 10, 13, 21), (0, 10, 17, 13), (0, 10, 21, 15)] 5 n t) (ab_all_c (⟨[], (0, 10, 13, 21), [(0, 10, 17, 13), (0, 10, 21, 15)], rfl, fun _ h => absurd h List.not_mem_nil, ⟨by decide, by decide⟩, by decide, rfl, (lw_wi (by decide +kernel) (by decide +kernel)), (lw_wi (by decide +kernel) (by decide +kernel))⟩) (ab_all_c (⟨[(0, 10, 13, 21)], (0, 10, 17, 13), [(0, 10, 21, 15)], rfl, List.forall_mem_cons.mpr ⟨⟨by decide, 3, Or.inr (Or.inr rfl), by decide, (lw_wi (by decide +kernel) (by decide +kernel))⟩, fun _ h => absurd h List.not_mem_nil⟩, ⟨by decide, by decide⟩, by decide, rfl, (lw_wi (by decide +kernel) (by decide +kernel)), (lw_wi (by decide +kernel) (by decide +kernel))⟩) (ab_all_c (⟨[(0, 10, 13, 21), (0, 10, 17, 13)], (0, 10, 21, 15), [], rfl, List.forall_mem_cons.mpr ⟨⟨by decide, 3, Or.inr (Or.inr rfl), by decide, (lw_wi (by decide +kernel) (by decide +kernel))⟩, List.forall_mem_cons.mpr ⟨⟨by decide, 1, Or.inl rfl, by decide, (lw_wi (by decide +kernel) (by decide +kernel))⟩, fun _ h => absurd h List.not_mem_nil⟩⟩, ⟨by decide, by decide⟩, by decide, rfl, (lw_wi (by decide +kernel) (by decide +kernel)), (lw_wi (by decide +kernel) (by decide +kernel))⟩) (ab_all_n)))))
    (by intro as h K ht; unfold Tr_L_nail at ht; split at ht <;> first | exact ht.elim | exact Nat.le_of_ble_eq_true rfl) (semw_L_nail base)
/- -/
noncomputable def Tr_L_board : ATr := fun as h K => match as with
  | [.inr (.inl (some x)), .inl x9, .inl y9, .inr (.inl (some o))] => ab_so (ab_sr h x) fun P => ab_pr (h o) fun t n _ => (P.2 = sv0 ∧ (t = 2 ∧ n = 1) ∧ o ∉ x :: srL P.1 ∧ ab_in x9 ∧ ab_in y9) ∧ ((isPlaceF (x9) (y9) = false) → K (some (.inl 1)) h) ∧ ((isPlaceF (x9) (y9) = true) → ∀ h' f', h' o = some (.inr (.inl (2, 1, f'))) → f' 0 = (0) → ab_fr h h' (o :: x :: srL P.1) → K (some (.inl 0)) h')
  | _ => False
theorem mo_L_board : ab_mo Tr_L_board := by
  intro as h K K' hk ht
  unfold Tr_L_board at ht ⊢
  split at ht
  · exact ab_so_mo (fun P q => ab_pr_mo (fun t n f w => ⟨w.1, fun e => hk _ _ (w.2.1 e), fun e h' f' e1 e2 e3 => hk _ _ (w.2.2 e h' f' e1 e2 e3)⟩) q) ht
  · exact ht.elim
set_option maxRecDepth 100000 in
set_option maxHeartbeats 4000000 in
theorem semw_L_board (base : Nat) : ab_SemW tbL lw_ts base cL_board 1 5 1 6 (fun as => ab_en as 5) Tr_L_board 5 3 3 1 6 TrX_X3_board (ab_lk [(3, 13), (2, 17)]) := by
  intro as h K hT V hV hC
  unfold Tr_L_board at hT
  split at hT
  · rename_i x x9 y9 o
    obtain ⟨⟨A, v9⟩, hP, hT1⟩ := ab_so_el hT
    obtain ⟨t, n, f, ho, ⟨hv9, ⟨ht, hn⟩, hno, hs⟩, hK⟩ := ab_pr_el hT1
    dsimp only at hv9 hno hK
    subst hv9 ht hn
    have D := (sr_el hP).1
    dsimp only at D
    show V 0 [some (.inr (.inl (some x))), some (.inl x9), some (.inl y9),  some (.inr (.inl (some o))), none] [] h 0 0
    have hret : ∀ (v : Int) (h' : AH), ab_in v → ab_fr h h' (x :: srL A) → (∀ h2 f2, h2 o = some (.inr (.inl (2, 1, f2))) → f2 0 = v → ab_fr h h2 (o :: x :: srL A) → K (some (.inl 0)) h2) → V 8 [some (.inr (.inl (some x))), some (.inl x9), some (.inl y9), some (.inr (.inl (some o))), none] [.inl v, .inl 0, .inr (.inl (some o))] h' 1 6 := by
      intro v h' hv fr hk
      have ho' := (fr o hno).trans ho
      have hk2 := hk (ab_up h' o (.inr (.inl (2, 1, ab_uf f 0 v)))) (ab_uf f 0 v) (ab_up_eq _ _ _) (by simp [ab_uf]) ((fr.sub (fun b hb => List.mem_cons_of_mem _ hb)).up List.mem_cons_self)
      simp only [ab_in] at hv
      refine hV (fun _ => false) 80 _ _ _ _ _ _ ?_
      simp only [ho', ae_astore, ae_goto, ae_i2l, ae_iconst, ae_ireturn, ae_lastore, dL_board_8, dL_board_9, dL_board_10, dL_board_13, dL_board_15, dL_board_16, dL_board_17, dL_board_19, dL_board_20, dL_board_21, dL_board_22, ab_wp0, ab_wps, ab_stp, ab_g, ab_st, ab_k2, ab_cl, ab_pop, ab_sz, ab_2, ab_ret, ab_f4, ab_tg, ab_I, ab_II, ab_A, ab_Rf, ab_VR, ab_IR, ab_VIR, ab_1, ab_LL, ab_DD, ab_ob, ab_pr, ab_qr, ab_ln, ab_so, ab_vI, ab_vA, ab_vD, ab_vL, ab_v2, ab_c, ab_fit, ab_rv, ab_tsw, ab_lsw, ab_up_eq, Fin.isValue, ab_f0, ab_f1, ab_f2, ab_f3, List.getElem?_cons_zero, List.getElem?_cons_succ, List.set_cons_zero, List.set_cons_succ, List.length_cons, List.length_nil, List.size_toArray, List.head?_cons, List.tail_cons, Option.map_some, cond_true, cond_false, true_and, and_true, false_and, and_false, not_true_eq_false, not_false_eq_true, true_imp_iff, false_imp_iff, if_true, if_false, ite_true, ite_false, ↓reduceIte, Nat.reduceAdd, Nat.reduceEqDiff, Nat.reduceLeDiff, Nat.reduceLT, Nat.reduceBEq, Nat.reduceBNe, Int.reduceAdd, Int.reduceNeg, Int.reduceSub, Int.reduceLE, Int.reduceLT, Int.reduceToNat, Int.reduceEq, Int.reduceMul, Int.cast_ofNat_Int, Nat.zero_add, Nat.add_zero, Nat.le_refl, eq_self, ne_eq, reduceCtorEq, or_true, true_or, or_false, false_or, Bool.or_true, Bool.or_false, Bool.true_or, Bool.false_or, Nat.zero_le, Int.le_refl, Int.ofNat_zero, Int.ofNat_one, Bool.false_eq_true]
      try simp only [ab_in]
      (repeat' (first | intro _ | refine And.intro ?_ ?_)) <;> (first | exact hk2 | contradiction | omega | (exfalso; omega))
    have hx3 : ∀ q : Nat, K (some (.inl 1)) h → V 13 [some (.inr (.inl (some x))), some (.inl x9), some (.inl y9), some (.inr (.inl (some o))), none] [.inr (.inl (some q))] h 1 6 := by
      intro q hk
      refine hV (fun _ => false) 80 _ _ _ _ _ _ ?_
      simp only [ae_astore, ae_iconst, ae_ireturn, dL_board_13, dL_board_15, dL_board_16, dL_board_17, dL_board_19, dL_board_20, dL_board_21, dL_board_22, ab_wp0, ab_wps, ab_stp, ab_g, ab_st, ab_k2, ab_cl, ab_pop, ab_sz, ab_2, ab_ret, ab_f4, ab_tg, ab_I, ab_II, ab_A, ab_Rf, ab_VR, ab_IR, ab_VIR, ab_1, ab_LL, ab_DD, ab_ob, ab_pr, ab_qr, ab_ln, ab_so, ab_vI, ab_vA, ab_vD, ab_vL, ab_v2, ab_c, ab_fit, ab_rv, ab_tsw, ab_lsw, ab_up_eq, Fin.isValue, ab_f0, ab_f1, ab_f2, ab_f3, List.getElem?_cons_zero, List.getElem?_cons_succ, List.set_cons_zero, List.set_cons_succ, List.length_cons, List.length_nil, List.size_toArray, List.head?_cons, List.tail_cons, Option.map_some, cond_true, cond_false, true_and, and_true, false_and, and_false, not_true_eq_false, not_false_eq_true, true_imp_iff, false_imp_iff, if_true, if_false, ite_true, ite_false, ↓reduceIte, Nat.reduceAdd, Nat.reduceEqDiff, Nat.reduceLeDiff, Nat.reduceLT, Nat.reduceBEq, Nat.reduceBNe, Int.reduceAdd, Int.reduceNeg, Int.reduceSub, Int.reduceLE, Int.reduceLT, Int.reduceToNat, Int.reduceEq, Int.reduceMul, Int.cast_ofNat_Int, Nat.zero_add, Nat.add_zero, Nat.le_refl, eq_self, ne_eq, reduceCtorEq, or_true, true_or, or_false, false_or, Bool.or_true, Bool.or_false, Bool.true_or, Bool.false_or, Nat.zero_le, Int.le_refl, Int.ofNat_zero, Int.ofNat_one, Bool.false_eq_true]
      exact hk
    have hx2 : ∀ q : Nat, K (some (.inl 2)) h → V 17 [some (.inr (.inl (some x))), some (.inl x9), some (.inl y9), some (.inr (.inl (some o))), none] [.inr (.inl (some q))] h 1 6 := by
      intro q hk
      refine hV (fun _ => false) 80 _ _ _ _ _ _ ?_
      simp only [ae_astore, ae_iconst, ae_ireturn, dL_board_17, dL_board_19, dL_board_20, dL_board_21, dL_board_22, ab_wp0, ab_wps, ab_stp, ab_g, ab_st, ab_k2, ab_cl, ab_pop, ab_sz, ab_2, ab_ret, ab_f4, ab_tg, ab_I, ab_II, ab_A, ab_Rf, ab_VR, ab_IR, ab_VIR, ab_1, ab_LL, ab_DD, ab_ob, ab_pr, ab_qr, ab_ln, ab_so, ab_vI, ab_vA, ab_vD, ab_vL, ab_v2, ab_c, ab_fit, ab_rv, ab_tsw, ab_lsw, ab_up_eq, Fin.isValue, ab_f0, ab_f1, ab_f2, ab_f3, List.getElem?_cons_zero, List.getElem?_cons_succ, List.set_cons_zero, List.set_cons_succ, List.length_cons, List.length_nil, List.size_toArray, List.head?_cons, List.tail_cons, Option.map_some, cond_true, cond_false, true_and, and_true, false_and, and_false, not_true_eq_false, not_false_eq_true, true_imp_iff, false_imp_iff, if_true, if_false, ite_true, ite_false, ↓reduceIte, Nat.reduceAdd, Nat.reduceEqDiff, Nat.reduceLeDiff, Nat.reduceLT, Nat.reduceBEq, Nat.reduceBNe, Int.reduceAdd, Int.reduceNeg, Int.reduceSub, Int.reduceLE, Int.reduceLT, Int.reduceToNat, Int.reduceEq, Int.reduceMul, Int.cast_ofNat_Int, Nat.zero_add, Nat.add_zero, Nat.le_refl, eq_self, ne_eq, reduceCtorEq, or_true, true_or, or_false, false_or, Bool.or_true, Bool.or_false, Bool.true_or, Bool.false_or, Nat.zero_le, Int.le_refl, Int.ofNat_zero, Int.ofNat_one, Bool.false_eq_true]
      exact hk
    have hcall := hC [some (.inr (.inl (some x))), some (.inl x9), some (.inl y9), some (.inr (.inl (some o))), none] [.inr (.inl (some x)), .inl x9, .inl y9] [.inl 0, .inr (.inl (some o))] h 0 0 rfl (Nat.le_of_ble_eq_true rfl) (by decide) (by decide) (by simp only [ab_rv, D, ab_ob])
    refine hV (fun p => p == 5) 80 _ _ _ _ _ _ ?_
    simp only [ae_aload_n, ae_iconst, ae_iload_n, dL_board_0, dL_board_1, dL_board_2, dL_board_3, dL_board_4, ab_wp0, ab_wps, ab_stp, ab_g, ab_st, ab_k2, ab_cl, ab_pop, ab_sz, ab_2, ab_ret, ab_f4, ab_tg, ab_I, ab_II, ab_A, ab_Rf, ab_VR, ab_IR, ab_VIR, ab_1, ab_LL, ab_DD, ab_ob, ab_pr, ab_qr, ab_ln, ab_so, ab_vI, ab_vA, ab_vD, ab_vL, ab_v2, ab_c, ab_fit, ab_rv, ab_tsw, ab_lsw, ab_up_eq, Fin.isValue, ab_f0, ab_f1, ab_f2, ab_f3, List.getElem?_cons_zero, List.getElem?_cons_succ, List.set_cons_zero, List.set_cons_succ, List.length_cons, List.length_nil, List.size_toArray, List.head?_cons, List.tail_cons, Option.map_some, cond_true, cond_false, true_and, and_true, false_and, and_false, not_true_eq_false, not_false_eq_true, true_imp_iff, false_imp_iff, if_true, if_false, ite_true, ite_false, ↓reduceIte, Nat.reduceAdd, Nat.reduceEqDiff, Nat.reduceLeDiff, Nat.reduceLT, Nat.reduceBEq, Nat.reduceBNe, Int.reduceAdd, Int.reduceNeg, Int.reduceSub, Int.reduceLE, Int.reduceLT, Int.reduceToNat, Int.reduceEq, Int.reduceMul, Int.cast_ofNat_Int, Nat.zero_add, Nat.add_zero, Nat.le_refl, eq_self, ne_eq, reduceCtorEq, or_true, true_or, or_false, false_or, Bool.or_true, Bool.or_false, Bool.true_or, Bool.false_or, Nat.zero_le, Int.le_refl, Int.ofNat_zero, Int.ofNat_one, Bool.false_eq_true]
    refine hcall ?_
    unfold TrX_X3_board
    dsimp only
    rw [hP]
    refine ab_so_mk ?_
    dsimp only
    obtain ⟨hK0, hK1⟩ := hK
    refine ⟨⟨rfl, hs⟩, ?_, ?_⟩
    · intro hl h' fr
      refine ⟨fun v hv => ?_, fun n hn => (by cases hn), fun z => (by cases z), fun r9 z => (by cases z), fun d9 z => (by cases z)⟩
      cases hv
      refine hret _ h' ?_ fr (hK1 (by simpa using hl))
      exact ⟨by decide, by decide⟩
    · intro hl
      refine ⟨fun v hv => (by cases hv), fun n hn => ?_, fun z => (by cases z), fun r9 z => (by cases z), fun d9 z => (by cases z)⟩
      have hn9 : n = 3 := by
        have := Option.some.inj hn
        simp only [Sum.inr.injEq, Sum.inl.injEq] at this
        omega
      subst hn9
      refine ⟨_, rfl, fun q => hx3 q ?_⟩
      revert hl hK0
      generalize K (some (.inl 1)) h = KK
      cases isPlaceF (x9) (y9) <;> intro hK0 hl <;> first | (exfalso; revert hl; simp; done) | (refine hK0 ?_; simp; done) | (refine hK0 trivial)
  · exact hT.elim
set_option maxRecDepth 100000 in
theorem conw_L_board (l : Launch) (hl : l.stackTraces = false) (D : va_G) (ty : Nat → ClassId) (base : Nat) : ab_ConW l D vwCl ty lw_ts base lw_wd yL_board cL_board 5 (some .int) [(0, 10, 13, 21), (0, 10, 17, 15)] 7 113 1 6 Tr_L_board :=
  ab_conW_of (own := RL) (rt := 1) (tb := tbL) (pc := 5) (ci := 3) (n := 2) (i := 27) (yC := yX3_board) (hp := ab_lk [(3, 13), (2, 17)]) (by decide +kernel) rfl rfl lw_wd_ok wtbL lw_ar (conx_X3_board l hl D ty base) dL_board_5 rfl (lw_wi (by decide +kernel) (by decide +kernel)) (lw_wi (by decide +kernel) (by decide +kernel)) (lw_wi (by decide +kernel) (by decide +kernel)) (lw_wi (by decide +kernel) (by decide +kernel)) (lw_wi (by decide +kernel) (by decide +kernel)) (by decide +kernel) ⟨by decide, by decide⟩
    (ab_lk_all (P := fun n t => ab_hd RL lw_wd [(0, 10, 13, 21), (0, 10, 17, 15)] 5 n t) (ab_all_c (⟨[], (0, 10, 13, 21), [(0, 10, 17, 15)], rfl, fun _ h => absurd h List.not_mem_nil, ⟨by decide, by decide⟩, by decide, rfl, (lw_wi (by decide +kernel) (by decide +kernel)), (lw_wi (by decide +kernel) (by decide +kernel))⟩) (ab_all_c (⟨[(0, 10, 13, 21)], (0, 10, 17, 15), [], rfl, List.forall_mem_cons.mpr ⟨⟨by decide, 3, Or.inr (Or.inr rfl), by decide, (lw_wi (by decide +kernel) (by decide +kernel))⟩, fun _ h => absurd h List.not_mem_nil⟩, ⟨by decide, by decide⟩, by decide, rfl, (lw_wi (by decide +kernel) (by decide +kernel)), (lw_wi (by decide +kernel) (by decide +kernel))⟩) (ab_all_n))))
    (by intro as h K ht; unfold Tr_L_board at ht; split at ht <;> first | exact ht.elim | exact Nat.le_of_ble_eq_true rfl) (semw_L_board base)
/- -/
noncomputable def Tr_L_setDay : ATr := fun as h K => match as with
  | [.inr (.inl (some x)), .inl day, .inl force, .inl right, .inl hail, .inl rain, .inr (.inl (some o))] => ab_so (ab_sr h x) fun P => ab_pr (h o) fun t n _ => (P.2 = sv0 ∧ (t = 2 ∧ n = 1) ∧ o ∉ x :: srL P.1 ∧ ab_in day ∧ ab_in force ∧ ab_in right ∧ ab_in hail ∧ ab_in rain ∧ (right = 0 ∨ right = 1)) ∧ ((isUpToF (day) 6 = false) → K (some (.inl 1)) h) ∧ ((isUpToF (day) 6 = true ∧ isUpToF (force) 20 = false) → K (some (.inl 2)) h) ∧ ((isUpToF (day) 6 = true ∧ isUpToF (force) 20 = true ∧ isUpToF (hail) 9 = false) → K (some (.inl 2)) h) ∧ ((isUpToF (day) 6 = true ∧ isUpToF (force) 20 = true ∧ isUpToF (hail) 9 = true ∧ isUpToF (rain) 9 = false) → K (some (.inl 2)) h) ∧ ((isUpToF (day) 6 = true ∧ isUpToF (force) 20 = true ∧ isUpToF (hail) 9 = true ∧ isUpToF (rain) 9 = true) → ∀ h' f', h' o = some (.inr (.inl (2, 1, f'))) → f' 0 = (0) → ab_fr h h' (o :: x :: srL P.1) → K (some (.inl 0)) h')
  | _ => False
theorem mo_L_setDay : ab_mo Tr_L_setDay := by
  intro as h K K' hk ht
  unfold Tr_L_setDay at ht ⊢
  split at ht
  · exact ab_so_mo (fun P q => ab_pr_mo (fun t n f w => ⟨w.1, fun e => hk _ _ (w.2.1 e), fun e => hk _ _ (w.2.2.1 e), fun e => hk _ _ (w.2.2.2.1 e), fun e => hk _ _ (w.2.2.2.2.1 e), fun e h' f' e1 e2 e3 => hk _ _ (w.2.2.2.2.2 e h' f' e1 e2 e3)⟩) q) ht
  · exact ht.elim
set_option maxRecDepth 100000 in
set_option maxHeartbeats 4000000 in
theorem semw_L_setDay (base : Nat) : ab_SemW tbL lw_ts base cL_setDay 1 8 1 6 (fun as => ab_en as 8) Tr_L_setDay 11 3 6 1 6 TrX_X3_setDay (ab_lk [(3, 19), (1, 23)]) := by
  intro as h K hT V hV hC
  unfold Tr_L_setDay at hT
  split at hT
  · rename_i x day force right hail rain o
    obtain ⟨⟨A, v9⟩, hP, hT1⟩ := ab_so_el hT
    obtain ⟨t, n, f, ho, ⟨hv9, ⟨ht, hn⟩, hno, hs⟩, hK⟩ := ab_pr_el hT1
    dsimp only at hv9 hno hK
    subst hv9 ht hn
    have D := (sr_el hP).1
    dsimp only at D
    show V 0 [some (.inr (.inl (some x))), some (.inl day), some (.inl force), some (.inl right), some (.inl hail), some (.inl rain),  some (.inr (.inl (some o))), none] [] h 0 0
    have hret : ∀ (v : Int) (h' : AH), ab_in v → ab_fr h h' (x :: srL A) → (∀ h2 f2, h2 o = some (.inr (.inl (2, 1, f2))) → f2 0 = v → ab_fr h h2 (o :: x :: srL A) → K (some (.inl 0)) h2) → V 14 [some (.inr (.inl (some x))), some (.inl day), some (.inl force), some (.inl right), some (.inl hail), some (.inl rain), some (.inr (.inl (some o))), none] [.inl v, .inl 0, .inr (.inl (some o))] h' 1 6 := by
      intro v h' hv fr hk
      have ho' := (fr o hno).trans ho
      have hk2 := hk (ab_up h' o (.inr (.inl (2, 1, ab_uf f 0 v)))) (ab_uf f 0 v) (ab_up_eq _ _ _) (by simp [ab_uf]) ((fr.sub (fun b hb => List.mem_cons_of_mem _ hb)).up List.mem_cons_self)
      simp only [ab_in] at hv
      refine hV (fun _ => false) 80 _ _ _ _ _ _ ?_
      simp only [ho', ae_astore, ae_goto, ae_i2l, ae_iconst, ae_ireturn, ae_lastore, dL_setDay_14, dL_setDay_15, dL_setDay_16, dL_setDay_19, dL_setDay_21, dL_setDay_22, dL_setDay_23, dL_setDay_25, dL_setDay_26, dL_setDay_27, dL_setDay_28, ab_wp0, ab_wps, ab_stp, ab_g, ab_st, ab_k2, ab_cl, ab_pop, ab_sz, ab_2, ab_ret, ab_f4, ab_tg, ab_I, ab_II, ab_A, ab_Rf, ab_VR, ab_IR, ab_VIR, ab_1, ab_LL, ab_DD, ab_ob, ab_pr, ab_qr, ab_ln, ab_so, ab_vI, ab_vA, ab_vD, ab_vL, ab_v2, ab_c, ab_fit, ab_rv, ab_tsw, ab_lsw, ab_up_eq, Fin.isValue, ab_f0, ab_f1, ab_f2, ab_f3, List.getElem?_cons_zero, List.getElem?_cons_succ, List.set_cons_zero, List.set_cons_succ, List.length_cons, List.length_nil, List.size_toArray, List.head?_cons, List.tail_cons, Option.map_some, cond_true, cond_false, true_and, and_true, false_and, and_false, not_true_eq_false, not_false_eq_true, true_imp_iff, false_imp_iff, if_true, if_false, ite_true, ite_false, ↓reduceIte, Nat.reduceAdd, Nat.reduceEqDiff, Nat.reduceLeDiff, Nat.reduceLT, Nat.reduceBEq, Nat.reduceBNe, Int.reduceAdd, Int.reduceNeg, Int.reduceSub, Int.reduceLE, Int.reduceLT, Int.reduceToNat, Int.reduceEq, Int.reduceMul, Int.cast_ofNat_Int, Nat.zero_add, Nat.add_zero, Nat.le_refl, eq_self, ne_eq, reduceCtorEq, or_true, true_or, or_false, false_or, Bool.or_true, Bool.or_false, Bool.true_or, Bool.false_or, Nat.zero_le, Int.le_refl, Int.ofNat_zero, Int.ofNat_one, Bool.false_eq_true]
      try simp only [ab_in]
      (repeat' (first | intro _ | refine And.intro ?_ ?_)) <;> (first | exact hk2 | contradiction | omega | (exfalso; omega))
    have hx3 : ∀ q : Nat, K (some (.inl 1)) h → V 19 [some (.inr (.inl (some x))), some (.inl day), some (.inl force), some (.inl right), some (.inl hail), some (.inl rain), some (.inr (.inl (some o))), none] [.inr (.inl (some q))] h 1 6 := by
      intro q hk
      refine hV (fun _ => false) 80 _ _ _ _ _ _ ?_
      simp only [ae_astore, ae_iconst, ae_ireturn, dL_setDay_19, dL_setDay_21, dL_setDay_22, dL_setDay_23, dL_setDay_25, dL_setDay_26, dL_setDay_27, dL_setDay_28, ab_wp0, ab_wps, ab_stp, ab_g, ab_st, ab_k2, ab_cl, ab_pop, ab_sz, ab_2, ab_ret, ab_f4, ab_tg, ab_I, ab_II, ab_A, ab_Rf, ab_VR, ab_IR, ab_VIR, ab_1, ab_LL, ab_DD, ab_ob, ab_pr, ab_qr, ab_ln, ab_so, ab_vI, ab_vA, ab_vD, ab_vL, ab_v2, ab_c, ab_fit, ab_rv, ab_tsw, ab_lsw, ab_up_eq, Fin.isValue, ab_f0, ab_f1, ab_f2, ab_f3, List.getElem?_cons_zero, List.getElem?_cons_succ, List.set_cons_zero, List.set_cons_succ, List.length_cons, List.length_nil, List.size_toArray, List.head?_cons, List.tail_cons, Option.map_some, cond_true, cond_false, true_and, and_true, false_and, and_false, not_true_eq_false, not_false_eq_true, true_imp_iff, false_imp_iff, if_true, if_false, ite_true, ite_false, ↓reduceIte, Nat.reduceAdd, Nat.reduceEqDiff, Nat.reduceLeDiff, Nat.reduceLT, Nat.reduceBEq, Nat.reduceBNe, Int.reduceAdd, Int.reduceNeg, Int.reduceSub, Int.reduceLE, Int.reduceLT, Int.reduceToNat, Int.reduceEq, Int.reduceMul, Int.cast_ofNat_Int, Nat.zero_add, Nat.add_zero, Nat.le_refl, eq_self, ne_eq, reduceCtorEq, or_true, true_or, or_false, false_or, Bool.or_true, Bool.or_false, Bool.true_or, Bool.false_or, Nat.zero_le, Int.le_refl, Int.ofNat_zero, Int.ofNat_one, Bool.false_eq_true]
      exact hk
    have hx1 : ∀ q : Nat, K (some (.inl 2)) h → V 23 [some (.inr (.inl (some x))), some (.inl day), some (.inl force), some (.inl right), some (.inl hail), some (.inl rain), some (.inr (.inl (some o))), none] [.inr (.inl (some q))] h 1 6 := by
      intro q hk
      refine hV (fun _ => false) 80 _ _ _ _ _ _ ?_
      simp only [ae_astore, ae_iconst, ae_ireturn, dL_setDay_23, dL_setDay_25, dL_setDay_26, dL_setDay_27, dL_setDay_28, ab_wp0, ab_wps, ab_stp, ab_g, ab_st, ab_k2, ab_cl, ab_pop, ab_sz, ab_2, ab_ret, ab_f4, ab_tg, ab_I, ab_II, ab_A, ab_Rf, ab_VR, ab_IR, ab_VIR, ab_1, ab_LL, ab_DD, ab_ob, ab_pr, ab_qr, ab_ln, ab_so, ab_vI, ab_vA, ab_vD, ab_vL, ab_v2, ab_c, ab_fit, ab_rv, ab_tsw, ab_lsw, ab_up_eq, Fin.isValue, ab_f0, ab_f1, ab_f2, ab_f3, List.getElem?_cons_zero, List.getElem?_cons_succ, List.set_cons_zero, List.set_cons_succ, List.length_cons, List.length_nil, List.size_toArray, List.head?_cons, List.tail_cons, Option.map_some, cond_true, cond_false, true_and, and_true, false_and, and_false, not_true_eq_false, not_false_eq_true, true_imp_iff, false_imp_iff, if_true, if_false, ite_true, ite_false, ↓reduceIte, Nat.reduceAdd, Nat.reduceEqDiff, Nat.reduceLeDiff, Nat.reduceLT, Nat.reduceBEq, Nat.reduceBNe, Int.reduceAdd, Int.reduceNeg, Int.reduceSub, Int.reduceLE, Int.reduceLT, Int.reduceToNat, Int.reduceEq, Int.reduceMul, Int.cast_ofNat_Int, Nat.zero_add, Nat.add_zero, Nat.le_refl, eq_self, ne_eq, reduceCtorEq, or_true, true_or, or_false, false_or, Bool.or_true, Bool.or_false, Bool.true_or, Bool.false_or, Nat.zero_le, Int.le_refl, Int.ofNat_zero, Int.ofNat_one, Bool.false_eq_true]
      exact hk
    have hcall := hC [some (.inr (.inl (some x))), some (.inl day), some (.inl force), some (.inl right), some (.inl hail), some (.inl rain), some (.inr (.inl (some o))), none] [.inr (.inl (some x)), .inl day, .inl force, .inl right, .inl hail, .inl rain] [.inl 0, .inr (.inl (some o))] h 0 0 rfl (Nat.le_of_ble_eq_true rfl) (by decide) (by decide) (by simp only [ab_rv, D, ab_ob])
    refine hV (fun p => p == 11) 80 _ _ _ _ _ _ ?_
    simp only [ae_aload, ae_aload_n, ae_iconst, ae_iload, ae_iload_n, dL_setDay_0, dL_setDay_2, dL_setDay_3, dL_setDay_4, dL_setDay_5, dL_setDay_6, dL_setDay_7, dL_setDay_9, ab_wp0, ab_wps, ab_stp, ab_g, ab_st, ab_k2, ab_cl, ab_pop, ab_sz, ab_2, ab_ret, ab_f4, ab_tg, ab_I, ab_II, ab_A, ab_Rf, ab_VR, ab_IR, ab_VIR, ab_1, ab_LL, ab_DD, ab_ob, ab_pr, ab_qr, ab_ln, ab_so, ab_vI, ab_vA, ab_vD, ab_vL, ab_v2, ab_c, ab_fit, ab_rv, ab_tsw, ab_lsw, ab_up_eq, Fin.isValue, ab_f0, ab_f1, ab_f2, ab_f3, List.getElem?_cons_zero, List.getElem?_cons_succ, List.set_cons_zero, List.set_cons_succ, List.length_cons, List.length_nil, List.size_toArray, List.head?_cons, List.tail_cons, Option.map_some, cond_true, cond_false, true_and, and_true, false_and, and_false, not_true_eq_false, not_false_eq_true, true_imp_iff, false_imp_iff, if_true, if_false, ite_true, ite_false, ↓reduceIte, Nat.reduceAdd, Nat.reduceEqDiff, Nat.reduceLeDiff, Nat.reduceLT, Nat.reduceBEq, Nat.reduceBNe, Int.reduceAdd, Int.reduceNeg, Int.reduceSub, Int.reduceLE, Int.reduceLT, Int.reduceToNat, Int.reduceEq, Int.reduceMul, Int.cast_ofNat_Int, Nat.zero_add, Nat.add_zero, Nat.le_refl, eq_self, ne_eq, reduceCtorEq, or_true, true_or, or_false, false_or, Bool.or_true, Bool.or_false, Bool.true_or, Bool.false_or, Nat.zero_le, Int.le_refl, Int.ofNat_zero, Int.ofNat_one, Bool.false_eq_true]
    refine hcall ?_
    unfold TrX_X3_setDay
    dsimp only
    rw [hP]
    refine ab_so_mk ?_
    dsimp only
    obtain ⟨hK0, hK1, hK2, hK3, hK4⟩ := hK
    refine ⟨⟨rfl, hs⟩, ?_, ?_, ?_⟩
    · intro hl h' fr
      refine ⟨fun v hv => ?_, fun n hn => (by cases hn), fun z => (by cases z), fun r9 z => (by cases z), fun d9 z => (by cases z)⟩
      cases hv
      refine hret _ h' ?_ fr (hK4 (by simpa using hl))
      exact ⟨by decide, by decide⟩
    · intro hl
      refine ⟨fun v hv => (by cases hv), fun n hn => ?_, fun z => (by cases z), fun r9 z => (by cases z), fun d9 z => (by cases z)⟩
      have hn9 : n = 3 := by
        have := Option.some.inj hn
        simp only [Sum.inr.injEq, Sum.inl.injEq] at this
        omega
      subst hn9
      refine ⟨_, rfl, fun q => hx3 q ?_⟩
      revert hl hK0
      generalize K (some (.inl 1)) h = KK
      cases isUpToF (day) 6 <;> cases isUpToF (force) 20 <;> cases isUpToF (hail) 9 <;> cases isUpToF (rain) 9 <;> intro hK0 hl <;> first | (exfalso; revert hl; simp; done) | (refine hK0 ?_; simp; done) | (refine hK0 trivial)
    · intro hl
      refine ⟨fun v hv => (by cases hv), fun n hn => ?_, fun z => (by cases z), fun r9 z => (by cases z), fun d9 z => (by cases z)⟩
      have hn9 : n = 1 := by
        have := Option.some.inj hn
        simp only [Sum.inr.injEq, Sum.inl.injEq] at this
        omega
      subst hn9
      refine ⟨_, rfl, fun q => hx1 q ?_⟩
      revert hl hK1 hK2 hK3
      generalize K (some (.inl 2)) h = KK
      cases isUpToF (day) 6 <;> cases isUpToF (force) 20 <;> cases isUpToF (hail) 9 <;> cases isUpToF (rain) 9 <;> intro hK1 hK2 hK3 hl <;> first | (exfalso; revert hl; simp; done) | (refine hK1 ?_; simp; done) | (refine hK2 ?_; simp; done) | (refine hK3 ?_; simp; done) | (refine hK1 trivial)
  · exact hT.elim
set_option maxRecDepth 100000 in
theorem conw_L_setDay (l : Launch) (hl : l.stackTraces = false) (D : va_G) (ty : Nat → ClassId) (base : Nat) : ab_ConW l D vwCl ty lw_ts base lw_wd yL_setDay cL_setDay 8 (some .int) [(0, 16, 19, 21), (0, 16, 23, 13)] 7 116 1 6 Tr_L_setDay :=
  ab_conW_of (own := RL) (rt := 1) (tb := tbL) (pc := 11) (ci := 3) (n := 5) (i := 30) (yC := yX3_setDay) (hp := ab_lk [(3, 19), (1, 23)]) (by decide +kernel) rfl rfl lw_wd_ok wtbL lw_ar (conx_X3_setDay l hl D ty base) dL_setDay_11 rfl (lw_wi (by decide +kernel) (by decide +kernel)) (lw_wi (by decide +kernel) (by decide +kernel)) (lw_wi (by decide +kernel) (by decide +kernel)) (lw_wi (by decide +kernel) (by decide +kernel)) (lw_wi (by decide +kernel) (by decide +kernel)) (by decide +kernel) ⟨by decide, by decide⟩
    (ab_lk_all (P := fun n t => ab_hd RL lw_wd [(0, 16, 19, 21), (0, 16, 23, 13)] 11 n t) (ab_all_c (⟨[], (0, 16, 19, 21), [(0, 16, 23, 13)], rfl, fun _ h => absurd h List.not_mem_nil, ⟨by decide, by decide⟩, by decide, rfl, (lw_wi (by decide +kernel) (by decide +kernel)), (lw_wi (by decide +kernel) (by decide +kernel))⟩) (ab_all_c (⟨[(0, 16, 19, 21)], (0, 16, 23, 13), [], rfl, List.forall_mem_cons.mpr ⟨⟨by decide, 3, Or.inr (Or.inr rfl), by decide, (lw_wi (by decide +kernel) (by decide +kernel))⟩, fun _ h => absurd h List.not_mem_nil⟩, ⟨by decide, by decide⟩, by decide, rfl, (lw_wi (by decide +kernel) (by decide +kernel)), (lw_wi (by decide +kernel) (by decide +kernel))⟩) (ab_all_n))))
    (by intro as h K ht; unfold Tr_L_setDay at ht; split at ht <;> first | exact ht.elim | exact Nat.le_of_ble_eq_true rfl) (semw_L_setDay base)
/- -/
noncomputable def Tr_L_slate : ATr := fun as h K => match as with
  | [.inr (.inl (some x)), .inl s, .inl what, .inr (.inl (some o))] => ab_so (ab_sr h x) fun P => ab_pr (h o) fun t n _ => (P.2 = sv0 ∧ (t = 2 ∧ n = 1) ∧ o ∉ x :: srL P.1 ∧ ab_in s ∧ ab_in what) ∧ ((True) → K (some (.inl 1)) h)
  | _ => False
theorem mo_L_slate : ab_mo Tr_L_slate := by
  intro as h K K' hk ht
  unfold Tr_L_slate at ht ⊢
  split at ht
  · exact ab_so_mo (fun P q => ab_pr_mo (fun t n f w => ⟨w.1, fun e => hk _ _ (w.2 e)⟩) q) ht
  · exact ht.elim
set_option maxRecDepth 100000 in
set_option maxHeartbeats 4000000 in
theorem semw_L_slate (base : Nat) : ab_SemW tbL lw_ts base cL_slate 1 5 1 6 (fun as => ab_en as 5) Tr_L_slate 5 3 3 1 6 TrX_X3_slate (ab_lk [(3, 13)]) := by
  intro as h K hT V hV hC
  unfold Tr_L_slate at hT
  split at hT
  · rename_i x s what o
    obtain ⟨⟨A, v9⟩, hP, hT1⟩ := ab_so_el hT
    obtain ⟨t, n, f, ho, ⟨hv9, ⟨ht, hn⟩, hno, hs⟩, hK⟩ := ab_pr_el hT1
    dsimp only at hv9 hno hK
    subst hv9 ht hn
    have D := (sr_el hP).1
    dsimp only at D
    show V 0 [some (.inr (.inl (some x))), some (.inl s), some (.inl what),  some (.inr (.inl (some o))), none] [] h 0 0
    have hret : ∀ (v : Int) (h' : AH), ab_in v → ab_fr h h' (x :: srL A) → (∀ h2 f2, h2 o = some (.inr (.inl (2, 1, f2))) → f2 0 = v → ab_fr h h2 (o :: x :: srL A) → K (some (.inl 0)) h2) → V 8 [some (.inr (.inl (some x))), some (.inl s), some (.inl what), some (.inr (.inl (some o))), none] [.inl v, .inl 0, .inr (.inl (some o))] h' 1 6 := by
      intro v h' hv fr hk
      have ho' := (fr o hno).trans ho
      have hk2 := hk (ab_up h' o (.inr (.inl (2, 1, ab_uf f 0 v)))) (ab_uf f 0 v) (ab_up_eq _ _ _) (by simp [ab_uf]) ((fr.sub (fun b hb => List.mem_cons_of_mem _ hb)).up List.mem_cons_self)
      simp only [ab_in] at hv
      refine hV (fun _ => false) 80 _ _ _ _ _ _ ?_
      simp only [ho', ae_astore, ae_goto, ae_i2l, ae_iconst, ae_ireturn, ae_lastore, dL_slate_8, dL_slate_9, dL_slate_10, dL_slate_13, dL_slate_15, dL_slate_16, dL_slate_17, dL_slate_18, ab_wp0, ab_wps, ab_stp, ab_g, ab_st, ab_k2, ab_cl, ab_pop, ab_sz, ab_2, ab_ret, ab_f4, ab_tg, ab_I, ab_II, ab_A, ab_Rf, ab_VR, ab_IR, ab_VIR, ab_1, ab_LL, ab_DD, ab_ob, ab_pr, ab_qr, ab_ln, ab_so, ab_vI, ab_vA, ab_vD, ab_vL, ab_v2, ab_c, ab_fit, ab_rv, ab_tsw, ab_lsw, ab_up_eq, Fin.isValue, ab_f0, ab_f1, ab_f2, ab_f3, List.getElem?_cons_zero, List.getElem?_cons_succ, List.set_cons_zero, List.set_cons_succ, List.length_cons, List.length_nil, List.size_toArray, List.head?_cons, List.tail_cons, Option.map_some, cond_true, cond_false, true_and, and_true, false_and, and_false, not_true_eq_false, not_false_eq_true, true_imp_iff, false_imp_iff, if_true, if_false, ite_true, ite_false, ↓reduceIte, Nat.reduceAdd, Nat.reduceEqDiff, Nat.reduceLeDiff, Nat.reduceLT, Nat.reduceBEq, Nat.reduceBNe, Int.reduceAdd, Int.reduceNeg, Int.reduceSub, Int.reduceLE, Int.reduceLT, Int.reduceToNat, Int.reduceEq, Int.reduceMul, Int.cast_ofNat_Int, Nat.zero_add, Nat.add_zero, Nat.le_refl, eq_self, ne_eq, reduceCtorEq, or_true, true_or, or_false, false_or, Bool.or_true, Bool.or_false, Bool.true_or, Bool.false_or, Nat.zero_le, Int.le_refl, Int.ofNat_zero, Int.ofNat_one, Bool.false_eq_true]
      try simp only [ab_in]
      (repeat' (first | intro _ | refine And.intro ?_ ?_)) <;> (first | exact hk2 | contradiction | omega | (exfalso; omega))
    have hx3 : ∀ q : Nat, K (some (.inl 1)) h → V 13 [some (.inr (.inl (some x))), some (.inl s), some (.inl what), some (.inr (.inl (some o))), none] [.inr (.inl (some q))] h 1 6 := by
      intro q hk
      refine hV (fun _ => false) 80 _ _ _ _ _ _ ?_
      simp only [ae_astore, ae_iconst, ae_ireturn, dL_slate_13, dL_slate_15, dL_slate_16, dL_slate_17, dL_slate_18, ab_wp0, ab_wps, ab_stp, ab_g, ab_st, ab_k2, ab_cl, ab_pop, ab_sz, ab_2, ab_ret, ab_f4, ab_tg, ab_I, ab_II, ab_A, ab_Rf, ab_VR, ab_IR, ab_VIR, ab_1, ab_LL, ab_DD, ab_ob, ab_pr, ab_qr, ab_ln, ab_so, ab_vI, ab_vA, ab_vD, ab_vL, ab_v2, ab_c, ab_fit, ab_rv, ab_tsw, ab_lsw, ab_up_eq, Fin.isValue, ab_f0, ab_f1, ab_f2, ab_f3, List.getElem?_cons_zero, List.getElem?_cons_succ, List.set_cons_zero, List.set_cons_succ, List.length_cons, List.length_nil, List.size_toArray, List.head?_cons, List.tail_cons, Option.map_some, cond_true, cond_false, true_and, and_true, false_and, and_false, not_true_eq_false, not_false_eq_true, true_imp_iff, false_imp_iff, if_true, if_false, ite_true, ite_false, ↓reduceIte, Nat.reduceAdd, Nat.reduceEqDiff, Nat.reduceLeDiff, Nat.reduceLT, Nat.reduceBEq, Nat.reduceBNe, Int.reduceAdd, Int.reduceNeg, Int.reduceSub, Int.reduceLE, Int.reduceLT, Int.reduceToNat, Int.reduceEq, Int.reduceMul, Int.cast_ofNat_Int, Nat.zero_add, Nat.add_zero, Nat.le_refl, eq_self, ne_eq, reduceCtorEq, or_true, true_or, or_false, false_or, Bool.or_true, Bool.or_false, Bool.true_or, Bool.false_or, Nat.zero_le, Int.le_refl, Int.ofNat_zero, Int.ofNat_one, Bool.false_eq_true]
      exact hk
    have hcall := hC [some (.inr (.inl (some x))), some (.inl s), some (.inl what), some (.inr (.inl (some o))), none] [.inr (.inl (some x)), .inl s, .inl what] [.inl 0, .inr (.inl (some o))] h 0 0 rfl (Nat.le_of_ble_eq_true rfl) (by decide) (by decide) (by simp only [ab_rv, D, ab_ob])
    refine hV (fun p => p == 5) 80 _ _ _ _ _ _ ?_
    simp only [ae_aload_n, ae_iconst, ae_iload_n, dL_slate_0, dL_slate_1, dL_slate_2, dL_slate_3, dL_slate_4, ab_wp0, ab_wps, ab_stp, ab_g, ab_st, ab_k2, ab_cl, ab_pop, ab_sz, ab_2, ab_ret, ab_f4, ab_tg, ab_I, ab_II, ab_A, ab_Rf, ab_VR, ab_IR, ab_VIR, ab_1, ab_LL, ab_DD, ab_ob, ab_pr, ab_qr, ab_ln, ab_so, ab_vI, ab_vA, ab_vD, ab_vL, ab_v2, ab_c, ab_fit, ab_rv, ab_tsw, ab_lsw, ab_up_eq, Fin.isValue, ab_f0, ab_f1, ab_f2, ab_f3, List.getElem?_cons_zero, List.getElem?_cons_succ, List.set_cons_zero, List.set_cons_succ, List.length_cons, List.length_nil, List.size_toArray, List.head?_cons, List.tail_cons, Option.map_some, cond_true, cond_false, true_and, and_true, false_and, and_false, not_true_eq_false, not_false_eq_true, true_imp_iff, false_imp_iff, if_true, if_false, ite_true, ite_false, ↓reduceIte, Nat.reduceAdd, Nat.reduceEqDiff, Nat.reduceLeDiff, Nat.reduceLT, Nat.reduceBEq, Nat.reduceBNe, Int.reduceAdd, Int.reduceNeg, Int.reduceSub, Int.reduceLE, Int.reduceLT, Int.reduceToNat, Int.reduceEq, Int.reduceMul, Int.cast_ofNat_Int, Nat.zero_add, Nat.add_zero, Nat.le_refl, eq_self, ne_eq, reduceCtorEq, or_true, true_or, or_false, false_or, Bool.or_true, Bool.or_false, Bool.true_or, Bool.false_or, Nat.zero_le, Int.le_refl, Int.ofNat_zero, Int.ofNat_one, Bool.false_eq_true]
    refine hcall ?_
    unfold TrX_X3_slate
    dsimp only
    rw [hP]
    refine ab_so_mk ?_
    dsimp only
    have hK0 := hK
    refine ⟨⟨rfl, hs⟩, ?_⟩
    · intro hl
      refine ⟨fun v hv => (by cases hv), fun n hn => ?_, fun z => (by cases z), fun r9 z => (by cases z), fun d9 z => (by cases z)⟩
      have hn9 : n = 3 := by
        have := Option.some.inj hn
        simp only [Sum.inr.injEq, Sum.inl.injEq] at this
        omega
      subst hn9
      refine ⟨_, rfl, fun q => hx3 q ?_⟩
      exact hK0 trivial
  · exact hT.elim
set_option maxRecDepth 100000 in
theorem conw_L_slate (l : Launch) (hl : l.stackTraces = false) (D : va_G) (ty : Nat → ClassId) (base : Nat) : ab_ConW l D vwCl ty lw_ts base lw_wd yL_slate cL_slate 5 (some .int) [(0, 10, 13, 21)] 7 114 1 6 Tr_L_slate :=
  ab_conW_of (own := RL) (rt := 1) (tb := tbL) (pc := 5) (ci := 3) (n := 2) (i := 34) (yC := yX3_slate) (hp := ab_lk [(3, 13)]) (by decide +kernel) rfl rfl lw_wd_ok wtbL lw_ar (conx_X3_slate l hl D ty base) dL_slate_5 rfl (lw_wi (by decide +kernel) (by decide +kernel)) (lw_wi (by decide +kernel) (by decide +kernel)) (lw_wi (by decide +kernel) (by decide +kernel)) (lw_wi (by decide +kernel) (by decide +kernel)) (lw_wi (by decide +kernel) (by decide +kernel)) (by decide +kernel) ⟨by decide, by decide⟩
    (ab_lk_all (P := fun n t => ab_hd RL lw_wd [(0, 10, 13, 21)] 5 n t) (ab_all_c (⟨[], (0, 10, 13, 21), [], rfl, fun _ h => absurd h List.not_mem_nil, ⟨by decide, by decide⟩, by decide, rfl, (lw_wi (by decide +kernel) (by decide +kernel)), (lw_wi (by decide +kernel) (by decide +kernel))⟩) (ab_all_n)))
    (by intro as h K ht; unfold Tr_L_slate at ht; split at ht <;> first | exact ht.elim | exact Nat.le_of_ble_eq_true rfl) (semw_L_slate base)
/- -/
noncomputable def Tr_L_place : ATr := fun as h K => match as with
  | [.inr (.inl (some x)), .inl x9, .inl y9, .inl what, .inr (.inl (some o))] => ab_so (ab_sr h x) fun P => ab_pr (h o) fun t n _ => (P.2 = sv0 ∧ (t = 2 ∧ n = 1) ∧ o ∉ x :: srL P.1 ∧ ab_in x9 ∧ ab_in y9 ∧ ab_in what) ∧ ((isPlaceF (x9) (y9) = false) → K (some (.inl 1)) h) ∧ ((isPlaceF (x9) (y9) = true ∧ isUpToF (what) 2 = false) → K (some (.inl 1)) h) ∧ ((isPlaceF (x9) (y9) = true ∧ isUpToF (what) 2 = true) → ∀ h' f', h' o = some (.inr (.inl (2, 1, f'))) → f' 0 = (if what = 0 then -1 else 0) → ab_fr h h' (o :: x :: srL P.1) → K (some (.inl 0)) h')
  | _ => False
theorem mo_L_place : ab_mo Tr_L_place := by
  intro as h K K' hk ht
  unfold Tr_L_place at ht ⊢
  split at ht
  · exact ab_so_mo (fun P q => ab_pr_mo (fun t n f w => ⟨w.1, fun e => hk _ _ (w.2.1 e), fun e => hk _ _ (w.2.2.1 e), fun e h' f' e1 e2 e3 => hk _ _ (w.2.2.2 e h' f' e1 e2 e3)⟩) q) ht
  · exact ht.elim
set_option maxRecDepth 100000 in
set_option maxHeartbeats 4000000 in
theorem semw_L_place (base : Nat) : ab_SemW tbL lw_ts base cL_place 1 6 1 6 (fun as => ab_en as 6) Tr_L_place 7 3 4 1 6 TrX_X3_place (ab_lk [(3, 15)]) := by
  intro as h K hT V hV hC
  unfold Tr_L_place at hT
  split at hT
  · rename_i x x9 y9 what o
    obtain ⟨⟨A, v9⟩, hP, hT1⟩ := ab_so_el hT
    obtain ⟨t, n, f, ho, ⟨hv9, ⟨ht, hn⟩, hno, hs⟩, hK⟩ := ab_pr_el hT1
    dsimp only at hv9 hno hK
    subst hv9 ht hn
    have D := (sr_el hP).1
    dsimp only at D
    show V 0 [some (.inr (.inl (some x))), some (.inl x9), some (.inl y9), some (.inl what),  some (.inr (.inl (some o))), none] [] h 0 0
    have hret : ∀ (v : Int) (h' : AH), ab_in v → ab_fr h h' (x :: srL A) → (∀ h2 f2, h2 o = some (.inr (.inl (2, 1, f2))) → f2 0 = v → ab_fr h h2 (o :: x :: srL A) → K (some (.inl 0)) h2) → V 10 [some (.inr (.inl (some x))), some (.inl x9), some (.inl y9), some (.inl what), some (.inr (.inl (some o))), none] [.inl v, .inl 0, .inr (.inl (some o))] h' 1 6 := by
      intro v h' hv fr hk
      have ho' := (fr o hno).trans ho
      have hk2 := hk (ab_up h' o (.inr (.inl (2, 1, ab_uf f 0 v)))) (ab_uf f 0 v) (ab_up_eq _ _ _) (by simp [ab_uf]) ((fr.sub (fun b hb => List.mem_cons_of_mem _ hb)).up List.mem_cons_self)
      simp only [ab_in] at hv
      refine hV (fun _ => false) 80 _ _ _ _ _ _ ?_
      simp only [ho', ae_astore, ae_goto, ae_i2l, ae_iconst, ae_ireturn, ae_lastore, dL_place_10, dL_place_11, dL_place_12, dL_place_15, dL_place_17, dL_place_18, dL_place_19, dL_place_20, ab_wp0, ab_wps, ab_stp, ab_g, ab_st, ab_k2, ab_cl, ab_pop, ab_sz, ab_2, ab_ret, ab_f4, ab_tg, ab_I, ab_II, ab_A, ab_Rf, ab_VR, ab_IR, ab_VIR, ab_1, ab_LL, ab_DD, ab_ob, ab_pr, ab_qr, ab_ln, ab_so, ab_vI, ab_vA, ab_vD, ab_vL, ab_v2, ab_c, ab_fit, ab_rv, ab_tsw, ab_lsw, ab_up_eq, Fin.isValue, ab_f0, ab_f1, ab_f2, ab_f3, List.getElem?_cons_zero, List.getElem?_cons_succ, List.set_cons_zero, List.set_cons_succ, List.length_cons, List.length_nil, List.size_toArray, List.head?_cons, List.tail_cons, Option.map_some, cond_true, cond_false, true_and, and_true, false_and, and_false, not_true_eq_false, not_false_eq_true, true_imp_iff, false_imp_iff, if_true, if_false, ite_true, ite_false, ↓reduceIte, Nat.reduceAdd, Nat.reduceEqDiff, Nat.reduceLeDiff, Nat.reduceLT, Nat.reduceBEq, Nat.reduceBNe, Int.reduceAdd, Int.reduceNeg, Int.reduceSub, Int.reduceLE, Int.reduceLT, Int.reduceToNat, Int.reduceEq, Int.reduceMul, Int.cast_ofNat_Int, Nat.zero_add, Nat.add_zero, Nat.le_refl, eq_self, ne_eq, reduceCtorEq, or_true, true_or, or_false, false_or, Bool.or_true, Bool.or_false, Bool.true_or, Bool.false_or, Nat.zero_le, Int.le_refl, Int.ofNat_zero, Int.ofNat_one, Bool.false_eq_true]
      try simp only [ab_in]
      (repeat' (first | intro _ | refine And.intro ?_ ?_)) <;> (first | exact hk2 | contradiction | omega | (exfalso; omega))
    have hx3 : ∀ q : Nat, K (some (.inl 1)) h → V 15 [some (.inr (.inl (some x))), some (.inl x9), some (.inl y9), some (.inl what), some (.inr (.inl (some o))), none] [.inr (.inl (some q))] h 1 6 := by
      intro q hk
      refine hV (fun _ => false) 80 _ _ _ _ _ _ ?_
      simp only [ae_astore, ae_iconst, ae_ireturn, dL_place_15, dL_place_17, dL_place_18, dL_place_19, dL_place_20, ab_wp0, ab_wps, ab_stp, ab_g, ab_st, ab_k2, ab_cl, ab_pop, ab_sz, ab_2, ab_ret, ab_f4, ab_tg, ab_I, ab_II, ab_A, ab_Rf, ab_VR, ab_IR, ab_VIR, ab_1, ab_LL, ab_DD, ab_ob, ab_pr, ab_qr, ab_ln, ab_so, ab_vI, ab_vA, ab_vD, ab_vL, ab_v2, ab_c, ab_fit, ab_rv, ab_tsw, ab_lsw, ab_up_eq, Fin.isValue, ab_f0, ab_f1, ab_f2, ab_f3, List.getElem?_cons_zero, List.getElem?_cons_succ, List.set_cons_zero, List.set_cons_succ, List.length_cons, List.length_nil, List.size_toArray, List.head?_cons, List.tail_cons, Option.map_some, cond_true, cond_false, true_and, and_true, false_and, and_false, not_true_eq_false, not_false_eq_true, true_imp_iff, false_imp_iff, if_true, if_false, ite_true, ite_false, ↓reduceIte, Nat.reduceAdd, Nat.reduceEqDiff, Nat.reduceLeDiff, Nat.reduceLT, Nat.reduceBEq, Nat.reduceBNe, Int.reduceAdd, Int.reduceNeg, Int.reduceSub, Int.reduceLE, Int.reduceLT, Int.reduceToNat, Int.reduceEq, Int.reduceMul, Int.cast_ofNat_Int, Nat.zero_add, Nat.add_zero, Nat.le_refl, eq_self, ne_eq, reduceCtorEq, or_true, true_or, or_false, false_or, Bool.or_true, Bool.or_false, Bool.true_or, Bool.false_or, Nat.zero_le, Int.le_refl, Int.ofNat_zero, Int.ofNat_one, Bool.false_eq_true]
      exact hk
    have hcall := hC [some (.inr (.inl (some x))), some (.inl x9), some (.inl y9), some (.inl what), some (.inr (.inl (some o))), none] [.inr (.inl (some x)), .inl x9, .inl y9, .inl what] [.inl 0, .inr (.inl (some o))] h 0 0 rfl (Nat.le_of_ble_eq_true rfl) (by decide) (by decide) (by simp only [ab_rv, D, ab_ob])
    refine hV (fun p => p == 7) 80 _ _ _ _ _ _ ?_
    simp only [ae_aload, ae_aload_n, ae_iconst, ae_iload_n, dL_place_0, dL_place_2, dL_place_3, dL_place_4, dL_place_5, dL_place_6, ab_wp0, ab_wps, ab_stp, ab_g, ab_st, ab_k2, ab_cl, ab_pop, ab_sz, ab_2, ab_ret, ab_f4, ab_tg, ab_I, ab_II, ab_A, ab_Rf, ab_VR, ab_IR, ab_VIR, ab_1, ab_LL, ab_DD, ab_ob, ab_pr, ab_qr, ab_ln, ab_so, ab_vI, ab_vA, ab_vD, ab_vL, ab_v2, ab_c, ab_fit, ab_rv, ab_tsw, ab_lsw, ab_up_eq, Fin.isValue, ab_f0, ab_f1, ab_f2, ab_f3, List.getElem?_cons_zero, List.getElem?_cons_succ, List.set_cons_zero, List.set_cons_succ, List.length_cons, List.length_nil, List.size_toArray, List.head?_cons, List.tail_cons, Option.map_some, cond_true, cond_false, true_and, and_true, false_and, and_false, not_true_eq_false, not_false_eq_true, true_imp_iff, false_imp_iff, if_true, if_false, ite_true, ite_false, ↓reduceIte, Nat.reduceAdd, Nat.reduceEqDiff, Nat.reduceLeDiff, Nat.reduceLT, Nat.reduceBEq, Nat.reduceBNe, Int.reduceAdd, Int.reduceNeg, Int.reduceSub, Int.reduceLE, Int.reduceLT, Int.reduceToNat, Int.reduceEq, Int.reduceMul, Int.cast_ofNat_Int, Nat.zero_add, Nat.add_zero, Nat.le_refl, eq_self, ne_eq, reduceCtorEq, or_true, true_or, or_false, false_or, Bool.or_true, Bool.or_false, Bool.true_or, Bool.false_or, Nat.zero_le, Int.le_refl, Int.ofNat_zero, Int.ofNat_one, Bool.false_eq_true]
    refine hcall ?_
    unfold TrX_X3_place
    dsimp only
    rw [hP]
    refine ab_so_mk ?_
    dsimp only
    obtain ⟨hK0, hK1, hK2⟩ := hK
    refine ⟨⟨rfl, hs⟩, ?_, ?_⟩
    · intro hl h' fr
      refine ⟨fun v hv => ?_, fun n hn => (by cases hn), fun z => (by cases z), fun r9 z => (by cases z), fun d9 z => (by cases z)⟩
      cases hv
      refine hret _ h' ?_ fr (hK2 (by simpa using hl))
      split <;> exact ⟨by decide, by decide⟩
    · intro hl
      refine ⟨fun v hv => (by cases hv), fun n hn => ?_, fun z => (by cases z), fun r9 z => (by cases z), fun d9 z => (by cases z)⟩
      have hn9 : n = 3 := by
        have := Option.some.inj hn
        simp only [Sum.inr.injEq, Sum.inl.injEq] at this
        omega
      subst hn9
      refine ⟨_, rfl, fun q => hx3 q ?_⟩
      revert hl hK0 hK1
      generalize K (some (.inl 1)) h = KK
      cases isPlaceF (x9) (y9) <;> cases isUpToF (what) 2 <;> intro hK0 hK1 hl <;> first | (exfalso; revert hl; simp; done) | (refine hK0 ?_; simp; done) | (refine hK1 ?_; simp; done) | (refine hK0 trivial)
  · exact hT.elim
set_option maxRecDepth 100000 in
theorem conw_L_place (l : Launch) (hl : l.stackTraces = false) (D : va_G) (ty : Nat → ClassId) (base : Nat) : ab_ConW l D vwCl ty lw_ts base lw_wd yL_place cL_place 6 (some .int) [(0, 12, 15, 21)] 7 113 1 6 Tr_L_place :=
  ab_conW_of (own := RL) (rt := 1) (tb := tbL) (pc := 7) (ci := 3) (n := 3) (i := 37) (yC := yX3_place) (hp := ab_lk [(3, 15)]) (by decide +kernel) rfl rfl lw_wd_ok wtbL lw_ar (conx_X3_place l hl D ty base) dL_place_7 rfl (lw_wi (by decide +kernel) (by decide +kernel)) (lw_wi (by decide +kernel) (by decide +kernel)) (lw_wi (by decide +kernel) (by decide +kernel)) (lw_wi (by decide +kernel) (by decide +kernel)) (lw_wi (by decide +kernel) (by decide +kernel)) (by decide +kernel) ⟨by decide, by decide⟩
    (ab_lk_all (P := fun n t => ab_hd RL lw_wd [(0, 12, 15, 21)] 7 n t) (ab_all_c (⟨[], (0, 12, 15, 21), [], rfl, fun _ h => absurd h List.not_mem_nil, ⟨by decide, by decide⟩, by decide, rfl, (lw_wi (by decide +kernel) (by decide +kernel)), (lw_wi (by decide +kernel) (by decide +kernel))⟩) (ab_all_n)))
    (by intro as h K ht; unfold Tr_L_place at ht; split at ht <;> first | exact ht.elim | exact Nat.le_of_ble_eq_true rfl) (semw_L_place base)
/- -/
noncomputable def Tr_L_count : ATr := fun as h K => match as with
  | [.inr (.inl (some x)), .inl what, .inr (.inl (some o))] => ab_so (ab_sr h x) fun P => ab_pr (h o) fun t n _ => (P.2 = sv0 ∧ (t = 2 ∧ n = 1) ∧ o ∉ x :: srL P.1 ∧ ab_in what) ∧ ((isUpToF (what) 6 = false) → K (some (.inl 1)) h) ∧ ((isUpToF (what) 6 = true) → ∀ h' f', h' o = some (.inr (.inl (2, 1, f'))) → f' 0 = (0) → ab_fr h h' (o :: x :: srL P.1) → K (some (.inl 0)) h')
  | _ => False
theorem mo_L_count : ab_mo Tr_L_count := by
  intro as h K K' hk ht
  unfold Tr_L_count at ht ⊢
  split at ht
  · exact ab_so_mo (fun P q => ab_pr_mo (fun t n f w => ⟨w.1, fun e => hk _ _ (w.2.1 e), fun e h' f' e1 e2 e3 => hk _ _ (w.2.2 e h' f' e1 e2 e3)⟩) q) ht
  · exact ht.elim
set_option maxRecDepth 100000 in
set_option maxHeartbeats 4000000 in
theorem semw_L_count (base : Nat) : ab_SemW tbL lw_ts base cL_count 1 4 1 6 (fun as => ab_en as 4) Tr_L_count 4 3 2 1 6 TrX_X3_count (ab_lk [(3, 12)]) := by
  intro as h K hT V hV hC
  unfold Tr_L_count at hT
  split at hT
  · rename_i x what o
    obtain ⟨⟨A, v9⟩, hP, hT1⟩ := ab_so_el hT
    obtain ⟨t, n, f, ho, ⟨hv9, ⟨ht, hn⟩, hno, hs⟩, hK⟩ := ab_pr_el hT1
    dsimp only at hv9 hno hK
    subst hv9 ht hn
    have D := (sr_el hP).1
    dsimp only at D
    show V 0 [some (.inr (.inl (some x))), some (.inl what),  some (.inr (.inl (some o))), none] [] h 0 0
    have hret : ∀ (v : Int) (h' : AH), ab_in v → ab_fr h h' (x :: srL A) → (∀ h2 f2, h2 o = some (.inr (.inl (2, 1, f2))) → f2 0 = v → ab_fr h h2 (o :: x :: srL A) → K (some (.inl 0)) h2) → V 7 [some (.inr (.inl (some x))), some (.inl what), some (.inr (.inl (some o))), none] [.inl v, .inl 0, .inr (.inl (some o))] h' 1 6 := by
      intro v h' hv fr hk
      have ho' := (fr o hno).trans ho
      have hk2 := hk (ab_up h' o (.inr (.inl (2, 1, ab_uf f 0 v)))) (ab_uf f 0 v) (ab_up_eq _ _ _) (by simp [ab_uf]) ((fr.sub (fun b hb => List.mem_cons_of_mem _ hb)).up List.mem_cons_self)
      simp only [ab_in] at hv
      refine hV (fun _ => false) 80 _ _ _ _ _ _ ?_
      simp only [ho', ae_astore_n, ae_goto, ae_i2l, ae_iconst, ae_ireturn, ae_lastore, dL_count_7, dL_count_8, dL_count_9, dL_count_12, dL_count_13, dL_count_14, dL_count_15, dL_count_16, ab_wp0, ab_wps, ab_stp, ab_g, ab_st, ab_k2, ab_cl, ab_pop, ab_sz, ab_2, ab_ret, ab_f4, ab_tg, ab_I, ab_II, ab_A, ab_Rf, ab_VR, ab_IR, ab_VIR, ab_1, ab_LL, ab_DD, ab_ob, ab_pr, ab_qr, ab_ln, ab_so, ab_vI, ab_vA, ab_vD, ab_vL, ab_v2, ab_c, ab_fit, ab_rv, ab_tsw, ab_lsw, ab_up_eq, Fin.isValue, ab_f0, ab_f1, ab_f2, ab_f3, List.getElem?_cons_zero, List.getElem?_cons_succ, List.set_cons_zero, List.set_cons_succ, List.length_cons, List.length_nil, List.size_toArray, List.head?_cons, List.tail_cons, Option.map_some, cond_true, cond_false, true_and, and_true, false_and, and_false, not_true_eq_false, not_false_eq_true, true_imp_iff, false_imp_iff, if_true, if_false, ite_true, ite_false, ↓reduceIte, Nat.reduceAdd, Nat.reduceEqDiff, Nat.reduceLeDiff, Nat.reduceLT, Nat.reduceBEq, Nat.reduceBNe, Int.reduceAdd, Int.reduceNeg, Int.reduceSub, Int.reduceLE, Int.reduceLT, Int.reduceToNat, Int.reduceEq, Int.reduceMul, Int.cast_ofNat_Int, Nat.zero_add, Nat.add_zero, Nat.le_refl, eq_self, ne_eq, reduceCtorEq, or_true, true_or, or_false, false_or, Bool.or_true, Bool.or_false, Bool.true_or, Bool.false_or, Nat.zero_le, Int.le_refl, Int.ofNat_zero, Int.ofNat_one, Bool.false_eq_true]
      try simp only [ab_in]
      (repeat' (first | intro _ | refine And.intro ?_ ?_)) <;> (first | exact hk2 | contradiction | omega | (exfalso; omega))
    have hx3 : ∀ q : Nat, K (some (.inl 1)) h → V 12 [some (.inr (.inl (some x))), some (.inl what), some (.inr (.inl (some o))), none] [.inr (.inl (some q))] h 1 6 := by
      intro q hk
      refine hV (fun _ => false) 80 _ _ _ _ _ _ ?_
      simp only [ae_astore_n, ae_iconst, ae_ireturn, dL_count_12, dL_count_13, dL_count_14, dL_count_15, dL_count_16, ab_wp0, ab_wps, ab_stp, ab_g, ab_st, ab_k2, ab_cl, ab_pop, ab_sz, ab_2, ab_ret, ab_f4, ab_tg, ab_I, ab_II, ab_A, ab_Rf, ab_VR, ab_IR, ab_VIR, ab_1, ab_LL, ab_DD, ab_ob, ab_pr, ab_qr, ab_ln, ab_so, ab_vI, ab_vA, ab_vD, ab_vL, ab_v2, ab_c, ab_fit, ab_rv, ab_tsw, ab_lsw, ab_up_eq, Fin.isValue, ab_f0, ab_f1, ab_f2, ab_f3, List.getElem?_cons_zero, List.getElem?_cons_succ, List.set_cons_zero, List.set_cons_succ, List.length_cons, List.length_nil, List.size_toArray, List.head?_cons, List.tail_cons, Option.map_some, cond_true, cond_false, true_and, and_true, false_and, and_false, not_true_eq_false, not_false_eq_true, true_imp_iff, false_imp_iff, if_true, if_false, ite_true, ite_false, ↓reduceIte, Nat.reduceAdd, Nat.reduceEqDiff, Nat.reduceLeDiff, Nat.reduceLT, Nat.reduceBEq, Nat.reduceBNe, Int.reduceAdd, Int.reduceNeg, Int.reduceSub, Int.reduceLE, Int.reduceLT, Int.reduceToNat, Int.reduceEq, Int.reduceMul, Int.cast_ofNat_Int, Nat.zero_add, Nat.add_zero, Nat.le_refl, eq_self, ne_eq, reduceCtorEq, or_true, true_or, or_false, false_or, Bool.or_true, Bool.or_false, Bool.true_or, Bool.false_or, Nat.zero_le, Int.le_refl, Int.ofNat_zero, Int.ofNat_one, Bool.false_eq_true]
      exact hk
    have hcall := hC [some (.inr (.inl (some x))), some (.inl what), some (.inr (.inl (some o))), none] [.inr (.inl (some x)), .inl what] [.inl 0, .inr (.inl (some o))] h 0 0 rfl (Nat.le_of_ble_eq_true rfl) (by decide) (by decide) (by simp only [ab_rv, D, ab_ob])
    refine hV (fun p => p == 4) 80 _ _ _ _ _ _ ?_
    simp only [ae_aload_n, ae_iconst, ae_iload_n, dL_count_0, dL_count_1, dL_count_2, dL_count_3, ab_wp0, ab_wps, ab_stp, ab_g, ab_st, ab_k2, ab_cl, ab_pop, ab_sz, ab_2, ab_ret, ab_f4, ab_tg, ab_I, ab_II, ab_A, ab_Rf, ab_VR, ab_IR, ab_VIR, ab_1, ab_LL, ab_DD, ab_ob, ab_pr, ab_qr, ab_ln, ab_so, ab_vI, ab_vA, ab_vD, ab_vL, ab_v2, ab_c, ab_fit, ab_rv, ab_tsw, ab_lsw, ab_up_eq, Fin.isValue, ab_f0, ab_f1, ab_f2, ab_f3, List.getElem?_cons_zero, List.getElem?_cons_succ, List.set_cons_zero, List.set_cons_succ, List.length_cons, List.length_nil, List.size_toArray, List.head?_cons, List.tail_cons, Option.map_some, cond_true, cond_false, true_and, and_true, false_and, and_false, not_true_eq_false, not_false_eq_true, true_imp_iff, false_imp_iff, if_true, if_false, ite_true, ite_false, ↓reduceIte, Nat.reduceAdd, Nat.reduceEqDiff, Nat.reduceLeDiff, Nat.reduceLT, Nat.reduceBEq, Nat.reduceBNe, Int.reduceAdd, Int.reduceNeg, Int.reduceSub, Int.reduceLE, Int.reduceLT, Int.reduceToNat, Int.reduceEq, Int.reduceMul, Int.cast_ofNat_Int, Nat.zero_add, Nat.add_zero, Nat.le_refl, eq_self, ne_eq, reduceCtorEq, or_true, true_or, or_false, false_or, Bool.or_true, Bool.or_false, Bool.true_or, Bool.false_or, Nat.zero_le, Int.le_refl, Int.ofNat_zero, Int.ofNat_one, Bool.false_eq_true]
    refine hcall ?_
    unfold TrX_X3_count
    dsimp only
    rw [hP]
    refine ab_so_mk ?_
    dsimp only
    obtain ⟨hK0, hK1⟩ := hK
    refine ⟨⟨rfl, hs⟩, ?_, ?_⟩
    · intro hl h' fr
      refine ⟨fun v hv => ?_, fun n hn => (by cases hn), fun z => (by cases z), fun r9 z => (by cases z), fun d9 z => (by cases z)⟩
      cases hv
      refine hret _ h' ?_ fr (hK1 (by simpa using hl))
      exact ⟨by decide, by decide⟩
    · intro hl
      refine ⟨fun v hv => (by cases hv), fun n hn => ?_, fun z => (by cases z), fun r9 z => (by cases z), fun d9 z => (by cases z)⟩
      have hn9 : n = 3 := by
        have := Option.some.inj hn
        simp only [Sum.inr.injEq, Sum.inl.injEq] at this
        omega
      subst hn9
      refine ⟨_, rfl, fun q => hx3 q ?_⟩
      revert hl hK0
      generalize K (some (.inl 1)) h = KK
      cases isUpToF (what) 6 <;> intro hK0 hl <;> first | (exfalso; revert hl; simp; done) | (refine hK0 ?_; simp; done) | (refine hK0 trivial)
  · exact hT.elim
set_option maxRecDepth 100000 in
theorem conw_L_count (l : Launch) (hl : l.stackTraces = false) (D : va_G) (ty : Nat → ClassId) (base : Nat) : ab_ConW l D vwCl ty lw_ts base lw_wd yL_count cL_count 4 (some .int) [(0, 9, 12, 21)] 7 111 1 6 Tr_L_count :=
  ab_conW_of (own := RL) (rt := 1) (tb := tbL) (pc := 4) (ci := 3) (n := 1) (i := 41) (yC := yX3_count) (hp := ab_lk [(3, 12)]) (by decide +kernel) rfl rfl lw_wd_ok wtbL lw_ar (conx_X3_count l hl D ty base) dL_count_4 rfl (lw_wi (by decide +kernel) (by decide +kernel)) (lw_wi (by decide +kernel) (by decide +kernel)) (lw_wi (by decide +kernel) (by decide +kernel)) (lw_wi (by decide +kernel) (by decide +kernel)) (lw_wi (by decide +kernel) (by decide +kernel)) (by decide +kernel) ⟨by decide, by decide⟩
    (ab_lk_all (P := fun n t => ab_hd RL lw_wd [(0, 9, 12, 21)] 4 n t) (ab_all_c (⟨[], (0, 9, 12, 21), [], rfl, fun _ h => absurd h List.not_mem_nil, ⟨by decide, by decide⟩, by decide, rfl, (lw_wi (by decide +kernel) (by decide +kernel)), (lw_wi (by decide +kernel) (by decide +kernel))⟩) (ab_all_n)))
    (by intro as h K ht; unfold Tr_L_count at ht; split at ht <;> first | exact ht.elim | exact Nat.le_of_ble_eq_true rfl) (semw_L_count base)
/- -/
noncomputable def Tr_L_lift : ATr := fun as h K => match as with
  | [.inr (.inl (some x)), .inl s, .inl force, .inl right, .inr (.inl (some o))] => ab_so (ab_sr h x) fun P => ab_pr (h o) fun t n _ => (P.2 = sv0 ∧ (t = 2 ∧ n = 1) ∧ o ∉ x :: srL P.1 ∧ ab_in s ∧ ab_in force ∧ ab_in right) ∧ ((True) → K (some (.inl 1)) h)
  | _ => False
theorem mo_L_lift : ab_mo Tr_L_lift := by
  intro as h K K' hk ht
  unfold Tr_L_lift at ht ⊢
  split at ht
  · exact ab_so_mo (fun P q => ab_pr_mo (fun t n f w => ⟨w.1, fun e => hk _ _ (w.2 e)⟩) q) ht
  · exact ht.elim
set_option maxRecDepth 100000 in
set_option maxHeartbeats 4000000 in
theorem semw_L_lift (base : Nat) : ab_SemW tbL lw_ts base cL_lift 1 6 1 6 (fun as => ab_en as 6) Tr_L_lift 7 3 4 1 6 TrX_X3_lift (ab_lk [(3, 15), (1, 19), (2, 23)]) := by
  intro as h K hT V hV hC
  unfold Tr_L_lift at hT
  split at hT
  · rename_i x s force right o
    obtain ⟨⟨A, v9⟩, hP, hT1⟩ := ab_so_el hT
    obtain ⟨t, n, f, ho, ⟨hv9, ⟨ht, hn⟩, hno, hs⟩, hK⟩ := ab_pr_el hT1
    dsimp only at hv9 hno hK
    subst hv9 ht hn
    have D := (sr_el hP).1
    dsimp only at D
    show V 0 [some (.inr (.inl (some x))), some (.inl s), some (.inl force), some (.inl right),  some (.inr (.inl (some o))), none] [] h 0 0
    have hret : ∀ (v : Int) (h' : AH), ab_in v → ab_fr h h' (x :: srL A) → (∀ h2 f2, h2 o = some (.inr (.inl (2, 1, f2))) → f2 0 = v → ab_fr h h2 (o :: x :: srL A) → K (some (.inl 0)) h2) → V 10 [some (.inr (.inl (some x))), some (.inl s), some (.inl force), some (.inl right), some (.inr (.inl (some o))), none] [.inl v, .inl 0, .inr (.inl (some o))] h' 1 6 := by
      intro v h' hv fr hk
      have ho' := (fr o hno).trans ho
      have hk2 := hk (ab_up h' o (.inr (.inl (2, 1, ab_uf f 0 v)))) (ab_uf f 0 v) (ab_up_eq _ _ _) (by simp [ab_uf]) ((fr.sub (fun b hb => List.mem_cons_of_mem _ hb)).up List.mem_cons_self)
      simp only [ab_in] at hv
      refine hV (fun _ => false) 80 _ _ _ _ _ _ ?_
      simp only [ho', ae_astore, ae_goto, ae_i2l, ae_iconst, ae_ireturn, ae_lastore, dL_lift_10, dL_lift_11, dL_lift_12, dL_lift_15, dL_lift_17, dL_lift_18, dL_lift_19, dL_lift_21, dL_lift_22, dL_lift_23, dL_lift_25, dL_lift_26, dL_lift_27, dL_lift_28, ab_wp0, ab_wps, ab_stp, ab_g, ab_st, ab_k2, ab_cl, ab_pop, ab_sz, ab_2, ab_ret, ab_f4, ab_tg, ab_I, ab_II, ab_A, ab_Rf, ab_VR, ab_IR, ab_VIR, ab_1, ab_LL, ab_DD, ab_ob, ab_pr, ab_qr, ab_ln, ab_so, ab_vI, ab_vA, ab_vD, ab_vL, ab_v2, ab_c, ab_fit, ab_rv, ab_tsw, ab_lsw, ab_up_eq, Fin.isValue, ab_f0, ab_f1, ab_f2, ab_f3, List.getElem?_cons_zero, List.getElem?_cons_succ, List.set_cons_zero, List.set_cons_succ, List.length_cons, List.length_nil, List.size_toArray, List.head?_cons, List.tail_cons, Option.map_some, cond_true, cond_false, true_and, and_true, false_and, and_false, not_true_eq_false, not_false_eq_true, true_imp_iff, false_imp_iff, if_true, if_false, ite_true, ite_false, ↓reduceIte, Nat.reduceAdd, Nat.reduceEqDiff, Nat.reduceLeDiff, Nat.reduceLT, Nat.reduceBEq, Nat.reduceBNe, Int.reduceAdd, Int.reduceNeg, Int.reduceSub, Int.reduceLE, Int.reduceLT, Int.reduceToNat, Int.reduceEq, Int.reduceMul, Int.cast_ofNat_Int, Nat.zero_add, Nat.add_zero, Nat.le_refl, eq_self, ne_eq, reduceCtorEq, or_true, true_or, or_false, false_or, Bool.or_true, Bool.or_false, Bool.true_or, Bool.false_or, Nat.zero_le, Int.le_refl, Int.ofNat_zero, Int.ofNat_one, Bool.false_eq_true]
      try simp only [ab_in]
      (repeat' (first | intro _ | refine And.intro ?_ ?_)) <;> (first | exact hk2 | contradiction | omega | (exfalso; omega))
    have hx3 : ∀ q : Nat, K (some (.inl 1)) h → V 15 [some (.inr (.inl (some x))), some (.inl s), some (.inl force), some (.inl right), some (.inr (.inl (some o))), none] [.inr (.inl (some q))] h 1 6 := by
      intro q hk
      refine hV (fun _ => false) 80 _ _ _ _ _ _ ?_
      simp only [ae_astore, ae_iconst, ae_ireturn, dL_lift_15, dL_lift_17, dL_lift_18, dL_lift_19, dL_lift_21, dL_lift_22, dL_lift_23, dL_lift_25, dL_lift_26, dL_lift_27, dL_lift_28, ab_wp0, ab_wps, ab_stp, ab_g, ab_st, ab_k2, ab_cl, ab_pop, ab_sz, ab_2, ab_ret, ab_f4, ab_tg, ab_I, ab_II, ab_A, ab_Rf, ab_VR, ab_IR, ab_VIR, ab_1, ab_LL, ab_DD, ab_ob, ab_pr, ab_qr, ab_ln, ab_so, ab_vI, ab_vA, ab_vD, ab_vL, ab_v2, ab_c, ab_fit, ab_rv, ab_tsw, ab_lsw, ab_up_eq, Fin.isValue, ab_f0, ab_f1, ab_f2, ab_f3, List.getElem?_cons_zero, List.getElem?_cons_succ, List.set_cons_zero, List.set_cons_succ, List.length_cons, List.length_nil, List.size_toArray, List.head?_cons, List.tail_cons, Option.map_some, cond_true, cond_false, true_and, and_true, false_and, and_false, not_true_eq_false, not_false_eq_true, true_imp_iff, false_imp_iff, if_true, if_false, ite_true, ite_false, ↓reduceIte, Nat.reduceAdd, Nat.reduceEqDiff, Nat.reduceLeDiff, Nat.reduceLT, Nat.reduceBEq, Nat.reduceBNe, Int.reduceAdd, Int.reduceNeg, Int.reduceSub, Int.reduceLE, Int.reduceLT, Int.reduceToNat, Int.reduceEq, Int.reduceMul, Int.cast_ofNat_Int, Nat.zero_add, Nat.add_zero, Nat.le_refl, eq_self, ne_eq, reduceCtorEq, or_true, true_or, or_false, false_or, Bool.or_true, Bool.or_false, Bool.true_or, Bool.false_or, Nat.zero_le, Int.le_refl, Int.ofNat_zero, Int.ofNat_one, Bool.false_eq_true]
      exact hk
    have hx1 : ∀ q : Nat, K (some (.inl 2)) h → V 19 [some (.inr (.inl (some x))), some (.inl s), some (.inl force), some (.inl right), some (.inr (.inl (some o))), none] [.inr (.inl (some q))] h 1 6 := by
      intro q hk
      refine hV (fun _ => false) 80 _ _ _ _ _ _ ?_
      simp only [ae_astore, ae_iconst, ae_ireturn, dL_lift_19, dL_lift_21, dL_lift_22, dL_lift_23, dL_lift_25, dL_lift_26, dL_lift_27, dL_lift_28, ab_wp0, ab_wps, ab_stp, ab_g, ab_st, ab_k2, ab_cl, ab_pop, ab_sz, ab_2, ab_ret, ab_f4, ab_tg, ab_I, ab_II, ab_A, ab_Rf, ab_VR, ab_IR, ab_VIR, ab_1, ab_LL, ab_DD, ab_ob, ab_pr, ab_qr, ab_ln, ab_so, ab_vI, ab_vA, ab_vD, ab_vL, ab_v2, ab_c, ab_fit, ab_rv, ab_tsw, ab_lsw, ab_up_eq, Fin.isValue, ab_f0, ab_f1, ab_f2, ab_f3, List.getElem?_cons_zero, List.getElem?_cons_succ, List.set_cons_zero, List.set_cons_succ, List.length_cons, List.length_nil, List.size_toArray, List.head?_cons, List.tail_cons, Option.map_some, cond_true, cond_false, true_and, and_true, false_and, and_false, not_true_eq_false, not_false_eq_true, true_imp_iff, false_imp_iff, if_true, if_false, ite_true, ite_false, ↓reduceIte, Nat.reduceAdd, Nat.reduceEqDiff, Nat.reduceLeDiff, Nat.reduceLT, Nat.reduceBEq, Nat.reduceBNe, Int.reduceAdd, Int.reduceNeg, Int.reduceSub, Int.reduceLE, Int.reduceLT, Int.reduceToNat, Int.reduceEq, Int.reduceMul, Int.cast_ofNat_Int, Nat.zero_add, Nat.add_zero, Nat.le_refl, eq_self, ne_eq, reduceCtorEq, or_true, true_or, or_false, false_or, Bool.or_true, Bool.or_false, Bool.true_or, Bool.false_or, Nat.zero_le, Int.le_refl, Int.ofNat_zero, Int.ofNat_one, Bool.false_eq_true]
      exact hk
    have hx2 : ∀ q : Nat, K (some (.inl 3)) h → V 23 [some (.inr (.inl (some x))), some (.inl s), some (.inl force), some (.inl right), some (.inr (.inl (some o))), none] [.inr (.inl (some q))] h 1 6 := by
      intro q hk
      refine hV (fun _ => false) 80 _ _ _ _ _ _ ?_
      simp only [ae_astore, ae_iconst, ae_ireturn, dL_lift_23, dL_lift_25, dL_lift_26, dL_lift_27, dL_lift_28, ab_wp0, ab_wps, ab_stp, ab_g, ab_st, ab_k2, ab_cl, ab_pop, ab_sz, ab_2, ab_ret, ab_f4, ab_tg, ab_I, ab_II, ab_A, ab_Rf, ab_VR, ab_IR, ab_VIR, ab_1, ab_LL, ab_DD, ab_ob, ab_pr, ab_qr, ab_ln, ab_so, ab_vI, ab_vA, ab_vD, ab_vL, ab_v2, ab_c, ab_fit, ab_rv, ab_tsw, ab_lsw, ab_up_eq, Fin.isValue, ab_f0, ab_f1, ab_f2, ab_f3, List.getElem?_cons_zero, List.getElem?_cons_succ, List.set_cons_zero, List.set_cons_succ, List.length_cons, List.length_nil, List.size_toArray, List.head?_cons, List.tail_cons, Option.map_some, cond_true, cond_false, true_and, and_true, false_and, and_false, not_true_eq_false, not_false_eq_true, true_imp_iff, false_imp_iff, if_true, if_false, ite_true, ite_false, ↓reduceIte, Nat.reduceAdd, Nat.reduceEqDiff, Nat.reduceLeDiff, Nat.reduceLT, Nat.reduceBEq, Nat.reduceBNe, Int.reduceAdd, Int.reduceNeg, Int.reduceSub, Int.reduceLE, Int.reduceLT, Int.reduceToNat, Int.reduceEq, Int.reduceMul, Int.cast_ofNat_Int, Nat.zero_add, Nat.add_zero, Nat.le_refl, eq_self, ne_eq, reduceCtorEq, or_true, true_or, or_false, false_or, Bool.or_true, Bool.or_false, Bool.true_or, Bool.false_or, Nat.zero_le, Int.le_refl, Int.ofNat_zero, Int.ofNat_one, Bool.false_eq_true]
      exact hk
    have hcall := hC [some (.inr (.inl (some x))), some (.inl s), some (.inl force), some (.inl right), some (.inr (.inl (some o))), none] [.inr (.inl (some x)), .inl s, .inl force, .inl right] [.inl 0, .inr (.inl (some o))] h 0 0 rfl (Nat.le_of_ble_eq_true rfl) (by decide) (by decide) (by simp only [ab_rv, D, ab_ob])
    refine hV (fun p => p == 7) 80 _ _ _ _ _ _ ?_
    simp only [ae_aload, ae_aload_n, ae_iconst, ae_iload_n, dL_lift_0, dL_lift_2, dL_lift_3, dL_lift_4, dL_lift_5, dL_lift_6, ab_wp0, ab_wps, ab_stp, ab_g, ab_st, ab_k2, ab_cl, ab_pop, ab_sz, ab_2, ab_ret, ab_f4, ab_tg, ab_I, ab_II, ab_A, ab_Rf, ab_VR, ab_IR, ab_VIR, ab_1, ab_LL, ab_DD, ab_ob, ab_pr, ab_qr, ab_ln, ab_so, ab_vI, ab_vA, ab_vD, ab_vL, ab_v2, ab_c, ab_fit, ab_rv, ab_tsw, ab_lsw, ab_up_eq, Fin.isValue, ab_f0, ab_f1, ab_f2, ab_f3, List.getElem?_cons_zero, List.getElem?_cons_succ, List.set_cons_zero, List.set_cons_succ, List.length_cons, List.length_nil, List.size_toArray, List.head?_cons, List.tail_cons, Option.map_some, cond_true, cond_false, true_and, and_true, false_and, and_false, not_true_eq_false, not_false_eq_true, true_imp_iff, false_imp_iff, if_true, if_false, ite_true, ite_false, ↓reduceIte, Nat.reduceAdd, Nat.reduceEqDiff, Nat.reduceLeDiff, Nat.reduceLT, Nat.reduceBEq, Nat.reduceBNe, Int.reduceAdd, Int.reduceNeg, Int.reduceSub, Int.reduceLE, Int.reduceLT, Int.reduceToNat, Int.reduceEq, Int.reduceMul, Int.cast_ofNat_Int, Nat.zero_add, Nat.add_zero, Nat.le_refl, eq_self, ne_eq, reduceCtorEq, or_true, true_or, or_false, false_or, Bool.or_true, Bool.or_false, Bool.true_or, Bool.false_or, Nat.zero_le, Int.le_refl, Int.ofNat_zero, Int.ofNat_one, Bool.false_eq_true]
    refine hcall ?_
    unfold TrX_X3_lift
    dsimp only
    rw [hP]
    refine ab_so_mk ?_
    dsimp only
    have hK0 := hK
    refine ⟨⟨rfl, hs⟩, ?_⟩
    · intro hl
      refine ⟨fun v hv => (by cases hv), fun n hn => ?_, fun z => (by cases z), fun r9 z => (by cases z), fun d9 z => (by cases z)⟩
      have hn9 : n = 3 := by
        have := Option.some.inj hn
        simp only [Sum.inr.injEq, Sum.inl.injEq] at this
        omega
      subst hn9
      refine ⟨_, rfl, fun q => hx3 q ?_⟩
      exact hK0 trivial
  · exact hT.elim
set_option maxRecDepth 100000 in
theorem conw_L_lift (l : Launch) (hl : l.stackTraces = false) (D : va_G) (ty : Nat → ClassId) (base : Nat) : ab_ConW l D vwCl ty lw_ts base lw_wd yL_lift cL_lift 6 (some .int) [(0, 12, 15, 21), (0, 12, 19, 13), (0, 12, 23, 15)] 7 113 1 6 Tr_L_lift :=
  ab_conW_of (own := RL) (rt := 1) (tb := tbL) (pc := 7) (ci := 3) (n := 3) (i := 44) (yC := yX3_lift) (hp := ab_lk [(3, 15), (1, 19), (2, 23)]) (by decide +kernel) rfl rfl lw_wd_ok wtbL lw_ar (conx_X3_lift l hl D ty base) dL_lift_7 rfl (lw_wi (by decide +kernel) (by decide +kernel)) (lw_wi (by decide +kernel) (by decide +kernel)) (lw_wi (by decide +kernel) (by decide +kernel)) (lw_wi (by decide +kernel) (by decide +kernel)) (lw_wi (by decide +kernel) (by decide +kernel)) (by decide +kernel) ⟨by decide, by decide⟩
    (ab_lk_all (P := fun n t => ab_hd RL lw_wd [(0, 12, 15, 21), (0, 12, 19, 13), (0, 12, 23, 15)] 7 n t) (ab_all_c (⟨[], (0, 12, 15, 21), [(0, 12, 19, 13), (0, 12, 23, 15)], rfl, fun _ h => absurd h List.not_mem_nil, ⟨by decide, by decide⟩, by decide, rfl, (lw_wi (by decide +kernel) (by decide +kernel)), (lw_wi (by decide +kernel) (by decide +kernel))⟩) (ab_all_c (⟨[(0, 12, 15, 21)], (0, 12, 19, 13), [(0, 12, 23, 15)], rfl, List.forall_mem_cons.mpr ⟨⟨by decide, 3, Or.inr (Or.inr rfl), by decide, (lw_wi (by decide +kernel) (by decide +kernel))⟩, fun _ h => absurd h List.not_mem_nil⟩, ⟨by decide, by decide⟩, by decide, rfl, (lw_wi (by decide +kernel) (by decide +kernel)), (lw_wi (by decide +kernel) (by decide +kernel))⟩) (ab_all_c (⟨[(0, 12, 15, 21), (0, 12, 19, 13)], (0, 12, 23, 15), [], rfl, List.forall_mem_cons.mpr ⟨⟨by decide, 3, Or.inr (Or.inr rfl), by decide, (lw_wi (by decide +kernel) (by decide +kernel))⟩, List.forall_mem_cons.mpr ⟨⟨by decide, 1, Or.inl rfl, by decide, (lw_wi (by decide +kernel) (by decide +kernel))⟩, fun _ h => absurd h List.not_mem_nil⟩⟩, ⟨by decide, by decide⟩, by decide, rfl, (lw_wi (by decide +kernel) (by decide +kernel)), (lw_wi (by decide +kernel) (by decide +kernel))⟩) (ab_all_n)))))
    (by intro as h K ht; unfold Tr_L_lift at ht; split at ht <;> first | exact ht.elim | exact Nat.le_of_ble_eq_true rfl) (semw_L_lift base)
/- -/
noncomputable def Tr_L_storm : ATr := fun as h K => match as with
  | [.inr (.inl (some x)), .inl force, .inl right, .inl what, .inr (.inl (some o))] => ab_so (ab_sr h x) fun P => ab_pr (h o) fun t n _ => (P.2 = sv0 ∧ (t = 2 ∧ n = 1) ∧ o ∉ x :: srL P.1 ∧ ab_in force ∧ ab_in right ∧ ab_in what ∧ (right = 0 ∨ right = 1)) ∧ ((isUpToF (force) 20 = false) → K (some (.inl 1)) h) ∧ ((isUpToF (force) 20 = true ∧ isUpToF (what) 2 = false) → K (some (.inl 2)) h) ∧ ((isUpToF (force) 20 = true ∧ isUpToF (what) 2 = true) → ∀ h' f', h' o = some (.inr (.inl (2, 1, f'))) → f' 0 = (if what = 1 then (if force < 1 then 0 else 1) else 0) → ab_fr h h' (o :: x :: srL P.1) → K (some (.inl 0)) h')
  | _ => False
theorem mo_L_storm : ab_mo Tr_L_storm := by
  intro as h K K' hk ht
  unfold Tr_L_storm at ht ⊢
  split at ht
  · exact ab_so_mo (fun P q => ab_pr_mo (fun t n f w => ⟨w.1, fun e => hk _ _ (w.2.1 e), fun e => hk _ _ (w.2.2.1 e), fun e h' f' e1 e2 e3 => hk _ _ (w.2.2.2 e h' f' e1 e2 e3)⟩) q) ht
  · exact ht.elim
set_option maxRecDepth 100000 in
set_option maxHeartbeats 4000000 in
theorem semw_L_storm (base : Nat) : ab_SemW tbL lw_ts base cL_storm 1 6 1 6 (fun as => ab_en as 6) Tr_L_storm 7 3 4 1 6 TrX_X3_storm (ab_lk [(1, 15), (3, 19)]) := by
  intro as h K hT V hV hC
  unfold Tr_L_storm at hT
  split at hT
  · rename_i x force right what o
    obtain ⟨⟨A, v9⟩, hP, hT1⟩ := ab_so_el hT
    obtain ⟨t, n, f, ho, ⟨hv9, ⟨ht, hn⟩, hno, hs⟩, hK⟩ := ab_pr_el hT1
    dsimp only at hv9 hno hK
    subst hv9 ht hn
    have D := (sr_el hP).1
    dsimp only at D
    show V 0 [some (.inr (.inl (some x))), some (.inl force), some (.inl right), some (.inl what),  some (.inr (.inl (some o))), none] [] h 0 0
    have hret : ∀ (v : Int) (h' : AH), ab_in v → ab_fr h h' (x :: srL A) → (∀ h2 f2, h2 o = some (.inr (.inl (2, 1, f2))) → f2 0 = v → ab_fr h h2 (o :: x :: srL A) → K (some (.inl 0)) h2) → V 10 [some (.inr (.inl (some x))), some (.inl force), some (.inl right), some (.inl what), some (.inr (.inl (some o))), none] [.inl v, .inl 0, .inr (.inl (some o))] h' 1 6 := by
      intro v h' hv fr hk
      have ho' := (fr o hno).trans ho
      have hk2 := hk (ab_up h' o (.inr (.inl (2, 1, ab_uf f 0 v)))) (ab_uf f 0 v) (ab_up_eq _ _ _) (by simp [ab_uf]) ((fr.sub (fun b hb => List.mem_cons_of_mem _ hb)).up List.mem_cons_self)
      simp only [ab_in] at hv
      refine hV (fun _ => false) 80 _ _ _ _ _ _ ?_
      simp only [ho', ae_astore, ae_goto, ae_i2l, ae_iconst, ae_ireturn, ae_lastore, dL_storm_10, dL_storm_11, dL_storm_12, dL_storm_15, dL_storm_17, dL_storm_18, dL_storm_19, dL_storm_21, dL_storm_22, dL_storm_23, dL_storm_24, ab_wp0, ab_wps, ab_stp, ab_g, ab_st, ab_k2, ab_cl, ab_pop, ab_sz, ab_2, ab_ret, ab_f4, ab_tg, ab_I, ab_II, ab_A, ab_Rf, ab_VR, ab_IR, ab_VIR, ab_1, ab_LL, ab_DD, ab_ob, ab_pr, ab_qr, ab_ln, ab_so, ab_vI, ab_vA, ab_vD, ab_vL, ab_v2, ab_c, ab_fit, ab_rv, ab_tsw, ab_lsw, ab_up_eq, Fin.isValue, ab_f0, ab_f1, ab_f2, ab_f3, List.getElem?_cons_zero, List.getElem?_cons_succ, List.set_cons_zero, List.set_cons_succ, List.length_cons, List.length_nil, List.size_toArray, List.head?_cons, List.tail_cons, Option.map_some, cond_true, cond_false, true_and, and_true, false_and, and_false, not_true_eq_false, not_false_eq_true, true_imp_iff, false_imp_iff, if_true, if_false, ite_true, ite_false, ↓reduceIte, Nat.reduceAdd, Nat.reduceEqDiff, Nat.reduceLeDiff, Nat.reduceLT, Nat.reduceBEq, Nat.reduceBNe, Int.reduceAdd, Int.reduceNeg, Int.reduceSub, Int.reduceLE, Int.reduceLT, Int.reduceToNat, Int.reduceEq, Int.reduceMul, Int.cast_ofNat_Int, Nat.zero_add, Nat.add_zero, Nat.le_refl, eq_self, ne_eq, reduceCtorEq, or_true, true_or, or_false, false_or, Bool.or_true, Bool.or_false, Bool.true_or, Bool.false_or, Nat.zero_le, Int.le_refl, Int.ofNat_zero, Int.ofNat_one, Bool.false_eq_true]
      try simp only [ab_in]
      (repeat' (first | intro _ | refine And.intro ?_ ?_)) <;> (first | exact hk2 | contradiction | omega | (exfalso; omega))
    have hx1 : ∀ q : Nat, K (some (.inl 1)) h → V 15 [some (.inr (.inl (some x))), some (.inl force), some (.inl right), some (.inl what), some (.inr (.inl (some o))), none] [.inr (.inl (some q))] h 1 6 := by
      intro q hk
      refine hV (fun _ => false) 80 _ _ _ _ _ _ ?_
      simp only [ae_astore, ae_iconst, ae_ireturn, dL_storm_15, dL_storm_17, dL_storm_18, dL_storm_19, dL_storm_21, dL_storm_22, dL_storm_23, dL_storm_24, ab_wp0, ab_wps, ab_stp, ab_g, ab_st, ab_k2, ab_cl, ab_pop, ab_sz, ab_2, ab_ret, ab_f4, ab_tg, ab_I, ab_II, ab_A, ab_Rf, ab_VR, ab_IR, ab_VIR, ab_1, ab_LL, ab_DD, ab_ob, ab_pr, ab_qr, ab_ln, ab_so, ab_vI, ab_vA, ab_vD, ab_vL, ab_v2, ab_c, ab_fit, ab_rv, ab_tsw, ab_lsw, ab_up_eq, Fin.isValue, ab_f0, ab_f1, ab_f2, ab_f3, List.getElem?_cons_zero, List.getElem?_cons_succ, List.set_cons_zero, List.set_cons_succ, List.length_cons, List.length_nil, List.size_toArray, List.head?_cons, List.tail_cons, Option.map_some, cond_true, cond_false, true_and, and_true, false_and, and_false, not_true_eq_false, not_false_eq_true, true_imp_iff, false_imp_iff, if_true, if_false, ite_true, ite_false, ↓reduceIte, Nat.reduceAdd, Nat.reduceEqDiff, Nat.reduceLeDiff, Nat.reduceLT, Nat.reduceBEq, Nat.reduceBNe, Int.reduceAdd, Int.reduceNeg, Int.reduceSub, Int.reduceLE, Int.reduceLT, Int.reduceToNat, Int.reduceEq, Int.reduceMul, Int.cast_ofNat_Int, Nat.zero_add, Nat.add_zero, Nat.le_refl, eq_self, ne_eq, reduceCtorEq, or_true, true_or, or_false, false_or, Bool.or_true, Bool.or_false, Bool.true_or, Bool.false_or, Nat.zero_le, Int.le_refl, Int.ofNat_zero, Int.ofNat_one, Bool.false_eq_true]
      exact hk
    have hx3 : ∀ q : Nat, K (some (.inl 2)) h → V 19 [some (.inr (.inl (some x))), some (.inl force), some (.inl right), some (.inl what), some (.inr (.inl (some o))), none] [.inr (.inl (some q))] h 1 6 := by
      intro q hk
      refine hV (fun _ => false) 80 _ _ _ _ _ _ ?_
      simp only [ae_astore, ae_iconst, ae_ireturn, dL_storm_19, dL_storm_21, dL_storm_22, dL_storm_23, dL_storm_24, ab_wp0, ab_wps, ab_stp, ab_g, ab_st, ab_k2, ab_cl, ab_pop, ab_sz, ab_2, ab_ret, ab_f4, ab_tg, ab_I, ab_II, ab_A, ab_Rf, ab_VR, ab_IR, ab_VIR, ab_1, ab_LL, ab_DD, ab_ob, ab_pr, ab_qr, ab_ln, ab_so, ab_vI, ab_vA, ab_vD, ab_vL, ab_v2, ab_c, ab_fit, ab_rv, ab_tsw, ab_lsw, ab_up_eq, Fin.isValue, ab_f0, ab_f1, ab_f2, ab_f3, List.getElem?_cons_zero, List.getElem?_cons_succ, List.set_cons_zero, List.set_cons_succ, List.length_cons, List.length_nil, List.size_toArray, List.head?_cons, List.tail_cons, Option.map_some, cond_true, cond_false, true_and, and_true, false_and, and_false, not_true_eq_false, not_false_eq_true, true_imp_iff, false_imp_iff, if_true, if_false, ite_true, ite_false, ↓reduceIte, Nat.reduceAdd, Nat.reduceEqDiff, Nat.reduceLeDiff, Nat.reduceLT, Nat.reduceBEq, Nat.reduceBNe, Int.reduceAdd, Int.reduceNeg, Int.reduceSub, Int.reduceLE, Int.reduceLT, Int.reduceToNat, Int.reduceEq, Int.reduceMul, Int.cast_ofNat_Int, Nat.zero_add, Nat.add_zero, Nat.le_refl, eq_self, ne_eq, reduceCtorEq, or_true, true_or, or_false, false_or, Bool.or_true, Bool.or_false, Bool.true_or, Bool.false_or, Nat.zero_le, Int.le_refl, Int.ofNat_zero, Int.ofNat_one, Bool.false_eq_true]
      exact hk
    have hcall := hC [some (.inr (.inl (some x))), some (.inl force), some (.inl right), some (.inl what), some (.inr (.inl (some o))), none] [.inr (.inl (some x)), .inl force, .inl right, .inl what] [.inl 0, .inr (.inl (some o))] h 0 0 rfl (Nat.le_of_ble_eq_true rfl) (by decide) (by decide) (by simp only [ab_rv, D, ab_ob])
    refine hV (fun p => p == 7) 80 _ _ _ _ _ _ ?_
    simp only [ae_aload, ae_aload_n, ae_iconst, ae_iload_n, dL_storm_0, dL_storm_2, dL_storm_3, dL_storm_4, dL_storm_5, dL_storm_6, ab_wp0, ab_wps, ab_stp, ab_g, ab_st, ab_k2, ab_cl, ab_pop, ab_sz, ab_2, ab_ret, ab_f4, ab_tg, ab_I, ab_II, ab_A, ab_Rf, ab_VR, ab_IR, ab_VIR, ab_1, ab_LL, ab_DD, ab_ob, ab_pr, ab_qr, ab_ln, ab_so, ab_vI, ab_vA, ab_vD, ab_vL, ab_v2, ab_c, ab_fit, ab_rv, ab_tsw, ab_lsw, ab_up_eq, Fin.isValue, ab_f0, ab_f1, ab_f2, ab_f3, List.getElem?_cons_zero, List.getElem?_cons_succ, List.set_cons_zero, List.set_cons_succ, List.length_cons, List.length_nil, List.size_toArray, List.head?_cons, List.tail_cons, Option.map_some, cond_true, cond_false, true_and, and_true, false_and, and_false, not_true_eq_false, not_false_eq_true, true_imp_iff, false_imp_iff, if_true, if_false, ite_true, ite_false, ↓reduceIte, Nat.reduceAdd, Nat.reduceEqDiff, Nat.reduceLeDiff, Nat.reduceLT, Nat.reduceBEq, Nat.reduceBNe, Int.reduceAdd, Int.reduceNeg, Int.reduceSub, Int.reduceLE, Int.reduceLT, Int.reduceToNat, Int.reduceEq, Int.reduceMul, Int.cast_ofNat_Int, Nat.zero_add, Nat.add_zero, Nat.le_refl, eq_self, ne_eq, reduceCtorEq, or_true, true_or, or_false, false_or, Bool.or_true, Bool.or_false, Bool.true_or, Bool.false_or, Nat.zero_le, Int.le_refl, Int.ofNat_zero, Int.ofNat_one, Bool.false_eq_true]
    refine hcall ?_
    unfold TrX_X3_storm
    dsimp only
    rw [hP]
    refine ab_so_mk ?_
    dsimp only
    obtain ⟨hK0, hK1, hK2⟩ := hK
    refine ⟨⟨rfl, hs⟩, ?_, ?_, ?_⟩
    · intro hl h' fr
      refine ⟨fun v hv => ?_, fun n hn => (by cases hn), fun z => (by cases z), fun r9 z => (by cases z), fun d9 z => (by cases z)⟩
      cases hv
      refine hret _ h' ?_ fr (hK2 (by simpa using hl))
      split
      · split <;> exact ⟨by decide, by decide⟩
      · exact ⟨by decide, by decide⟩
    · intro hl
      refine ⟨fun v hv => (by cases hv), fun n hn => ?_, fun z => (by cases z), fun r9 z => (by cases z), fun d9 z => (by cases z)⟩
      have hn9 : n = 1 := by
        have := Option.some.inj hn
        simp only [Sum.inr.injEq, Sum.inl.injEq] at this
        omega
      subst hn9
      refine ⟨_, rfl, fun q => hx1 q ?_⟩
      revert hl hK0
      generalize K (some (.inl 1)) h = KK
      cases isUpToF (force) 20 <;> cases isUpToF (what) 2 <;> intro hK0 hl <;> first | (exfalso; revert hl; simp; done) | (refine hK0 ?_; simp; done) | (refine hK0 trivial)
    · intro hl
      refine ⟨fun v hv => (by cases hv), fun n hn => ?_, fun z => (by cases z), fun r9 z => (by cases z), fun d9 z => (by cases z)⟩
      have hn9 : n = 3 := by
        have := Option.some.inj hn
        simp only [Sum.inr.injEq, Sum.inl.injEq] at this
        omega
      subst hn9
      refine ⟨_, rfl, fun q => hx3 q ?_⟩
      revert hl hK1
      generalize K (some (.inl 2)) h = KK
      cases isUpToF (force) 20 <;> cases isUpToF (what) 2 <;> intro hK1 hl <;> first | (exfalso; revert hl; simp; done) | (refine hK1 ?_; simp; done) | (refine hK1 trivial)
  · exact hT.elim
set_option maxRecDepth 100000 in
theorem conw_L_storm (l : Launch) (hl : l.stackTraces = false) (D : va_G) (ty : Nat → ClassId) (base : Nat) : ab_ConW l D vwCl ty lw_ts base lw_wd yL_storm cL_storm 6 (some .int) [(0, 12, 15, 13), (0, 12, 19, 21)] 7 141 1 6 Tr_L_storm :=
  ab_conW_of (own := RL) (rt := 1) (tb := tbL) (pc := 7) (ci := 3) (n := 3) (i := 48) (yC := yX3_storm) (hp := ab_lk [(1, 15), (3, 19)]) (by decide +kernel) rfl rfl lw_wd_ok wtbL lw_ar (conx_X3_storm l hl D ty base) dL_storm_7 rfl (lw_wi (by decide +kernel) (by decide +kernel)) (lw_wi (by decide +kernel) (by decide +kernel)) (lw_wi (by decide +kernel) (by decide +kernel)) (lw_wi (by decide +kernel) (by decide +kernel)) (lw_wi (by decide +kernel) (by decide +kernel)) (by decide +kernel) ⟨by decide, by decide⟩
    (ab_lk_all (P := fun n t => ab_hd RL lw_wd [(0, 12, 15, 13), (0, 12, 19, 21)] 7 n t) (ab_all_c (⟨[], (0, 12, 15, 13), [(0, 12, 19, 21)], rfl, fun _ h => absurd h List.not_mem_nil, ⟨by decide, by decide⟩, by decide, rfl, (lw_wi (by decide +kernel) (by decide +kernel)), (lw_wi (by decide +kernel) (by decide +kernel))⟩) (ab_all_c (⟨[(0, 12, 15, 13)], (0, 12, 19, 21), [], rfl, List.forall_mem_cons.mpr ⟨⟨by decide, 1, Or.inl rfl, by decide, (lw_wi (by decide +kernel) (by decide +kernel))⟩, fun _ h => absurd h List.not_mem_nil⟩, ⟨by decide, by decide⟩, by decide, rfl, (lw_wi (by decide +kernel) (by decide +kernel)), (lw_wi (by decide +kernel) (by decide +kernel))⟩) (ab_all_n))))
    (by intro as h K ht; unfold Tr_L_storm at ht; split at ht <;> first | exact ht.elim | exact Nat.le_of_ble_eq_true rfl) (semw_L_storm base)
/- -/
noncomputable def Tr_L_comes : ATr := fun as h K => match as with
  | [.inr (.inl (some x)), .inl rain, .inl x9, .inl y9, .inr (.inl (some o))] => ab_so (ab_sr h x) fun P => ab_pr (h o) fun t n _ => (P.2 = sv0 ∧ (t = 2 ∧ n = 1) ∧ o ∉ x :: srL P.1 ∧ ab_in rain ∧ ab_in x9 ∧ ab_in y9) ∧ ((isUpToF (rain) 9 = false) → K (some (.inl 1)) h) ∧ ((isUpToF (rain) 9 = true ∧ isPlaceF (x9) (y9) = false) → K (some (.inl 2)) h) ∧ ((isUpToF (rain) 9 = true ∧ isPlaceF (x9) (y9) = true) → ∀ h' f', h' o = some (.inr (.inl (2, 1, f'))) → f' 0 = (cF (rain) (8 - y9).toNat 0) → ab_fr h h' (o :: x :: srL P.1) → K (some (.inl 0)) h')
  | _ => False
theorem mo_L_comes : ab_mo Tr_L_comes := by
  intro as h K K' hk ht
  unfold Tr_L_comes at ht ⊢
  split at ht
  · exact ab_so_mo (fun P q => ab_pr_mo (fun t n f w => ⟨w.1, fun e => hk _ _ (w.2.1 e), fun e => hk _ _ (w.2.2.1 e), fun e h' f' e1 e2 e3 => hk _ _ (w.2.2.2 e h' f' e1 e2 e3)⟩) q) ht
  · exact ht.elim
set_option maxRecDepth 100000 in
set_option maxHeartbeats 4000000 in
theorem semw_L_comes (base : Nat) : ab_SemW tbL lw_ts base cL_comes 1 6 1 6 (fun as => ab_en as 6) Tr_L_comes 7 3 4 1 6 TrX_X3_comes (ab_lk [(1, 15), (3, 19)]) := by
  intro as h K hT V hV hC
  unfold Tr_L_comes at hT
  split at hT
  · rename_i x rain x9 y9 o
    obtain ⟨⟨A, v9⟩, hP, hT1⟩ := ab_so_el hT
    obtain ⟨t, n, f, ho, ⟨hv9, ⟨ht, hn⟩, hno, hs⟩, hK⟩ := ab_pr_el hT1
    dsimp only at hv9 hno hK
    subst hv9 ht hn
    have D := (sr_el hP).1
    dsimp only at D
    show V 0 [some (.inr (.inl (some x))), some (.inl rain), some (.inl x9), some (.inl y9),  some (.inr (.inl (some o))), none] [] h 0 0
    have hret : ∀ (v : Int) (h' : AH), ab_in v → ab_fr h h' (x :: srL A) → (∀ h2 f2, h2 o = some (.inr (.inl (2, 1, f2))) → f2 0 = v → ab_fr h h2 (o :: x :: srL A) → K (some (.inl 0)) h2) → V 10 [some (.inr (.inl (some x))), some (.inl rain), some (.inl x9), some (.inl y9), some (.inr (.inl (some o))), none] [.inl v, .inl 0, .inr (.inl (some o))] h' 1 6 := by
      intro v h' hv fr hk
      have ho' := (fr o hno).trans ho
      have hk2 := hk (ab_up h' o (.inr (.inl (2, 1, ab_uf f 0 v)))) (ab_uf f 0 v) (ab_up_eq _ _ _) (by simp [ab_uf]) ((fr.sub (fun b hb => List.mem_cons_of_mem _ hb)).up List.mem_cons_self)
      simp only [ab_in] at hv
      refine hV (fun _ => false) 80 _ _ _ _ _ _ ?_
      simp only [ho', ae_astore, ae_goto, ae_i2l, ae_iconst, ae_ireturn, ae_lastore, dL_comes_10, dL_comes_11, dL_comes_12, dL_comes_15, dL_comes_17, dL_comes_18, dL_comes_19, dL_comes_21, dL_comes_22, dL_comes_23, dL_comes_24, ab_wp0, ab_wps, ab_stp, ab_g, ab_st, ab_k2, ab_cl, ab_pop, ab_sz, ab_2, ab_ret, ab_f4, ab_tg, ab_I, ab_II, ab_A, ab_Rf, ab_VR, ab_IR, ab_VIR, ab_1, ab_LL, ab_DD, ab_ob, ab_pr, ab_qr, ab_ln, ab_so, ab_vI, ab_vA, ab_vD, ab_vL, ab_v2, ab_c, ab_fit, ab_rv, ab_tsw, ab_lsw, ab_up_eq, Fin.isValue, ab_f0, ab_f1, ab_f2, ab_f3, List.getElem?_cons_zero, List.getElem?_cons_succ, List.set_cons_zero, List.set_cons_succ, List.length_cons, List.length_nil, List.size_toArray, List.head?_cons, List.tail_cons, Option.map_some, cond_true, cond_false, true_and, and_true, false_and, and_false, not_true_eq_false, not_false_eq_true, true_imp_iff, false_imp_iff, if_true, if_false, ite_true, ite_false, ↓reduceIte, Nat.reduceAdd, Nat.reduceEqDiff, Nat.reduceLeDiff, Nat.reduceLT, Nat.reduceBEq, Nat.reduceBNe, Int.reduceAdd, Int.reduceNeg, Int.reduceSub, Int.reduceLE, Int.reduceLT, Int.reduceToNat, Int.reduceEq, Int.reduceMul, Int.cast_ofNat_Int, Nat.zero_add, Nat.add_zero, Nat.le_refl, eq_self, ne_eq, reduceCtorEq, or_true, true_or, or_false, false_or, Bool.or_true, Bool.or_false, Bool.true_or, Bool.false_or, Nat.zero_le, Int.le_refl, Int.ofNat_zero, Int.ofNat_one, Bool.false_eq_true]
      try simp only [ab_in]
      (repeat' (first | intro _ | refine And.intro ?_ ?_)) <;> (first | exact hk2 | contradiction | omega | (exfalso; omega))
    have hx1 : ∀ q : Nat, K (some (.inl 1)) h → V 15 [some (.inr (.inl (some x))), some (.inl rain), some (.inl x9), some (.inl y9), some (.inr (.inl (some o))), none] [.inr (.inl (some q))] h 1 6 := by
      intro q hk
      refine hV (fun _ => false) 80 _ _ _ _ _ _ ?_
      simp only [ae_astore, ae_iconst, ae_ireturn, dL_comes_15, dL_comes_17, dL_comes_18, dL_comes_19, dL_comes_21, dL_comes_22, dL_comes_23, dL_comes_24, ab_wp0, ab_wps, ab_stp, ab_g, ab_st, ab_k2, ab_cl, ab_pop, ab_sz, ab_2, ab_ret, ab_f4, ab_tg, ab_I, ab_II, ab_A, ab_Rf, ab_VR, ab_IR, ab_VIR, ab_1, ab_LL, ab_DD, ab_ob, ab_pr, ab_qr, ab_ln, ab_so, ab_vI, ab_vA, ab_vD, ab_vL, ab_v2, ab_c, ab_fit, ab_rv, ab_tsw, ab_lsw, ab_up_eq, Fin.isValue, ab_f0, ab_f1, ab_f2, ab_f3, List.getElem?_cons_zero, List.getElem?_cons_succ, List.set_cons_zero, List.set_cons_succ, List.length_cons, List.length_nil, List.size_toArray, List.head?_cons, List.tail_cons, Option.map_some, cond_true, cond_false, true_and, and_true, false_and, and_false, not_true_eq_false, not_false_eq_true, true_imp_iff, false_imp_iff, if_true, if_false, ite_true, ite_false, ↓reduceIte, Nat.reduceAdd, Nat.reduceEqDiff, Nat.reduceLeDiff, Nat.reduceLT, Nat.reduceBEq, Nat.reduceBNe, Int.reduceAdd, Int.reduceNeg, Int.reduceSub, Int.reduceLE, Int.reduceLT, Int.reduceToNat, Int.reduceEq, Int.reduceMul, Int.cast_ofNat_Int, Nat.zero_add, Nat.add_zero, Nat.le_refl, eq_self, ne_eq, reduceCtorEq, or_true, true_or, or_false, false_or, Bool.or_true, Bool.or_false, Bool.true_or, Bool.false_or, Nat.zero_le, Int.le_refl, Int.ofNat_zero, Int.ofNat_one, Bool.false_eq_true]
      exact hk
    have hx3 : ∀ q : Nat, K (some (.inl 2)) h → V 19 [some (.inr (.inl (some x))), some (.inl rain), some (.inl x9), some (.inl y9), some (.inr (.inl (some o))), none] [.inr (.inl (some q))] h 1 6 := by
      intro q hk
      refine hV (fun _ => false) 80 _ _ _ _ _ _ ?_
      simp only [ae_astore, ae_iconst, ae_ireturn, dL_comes_19, dL_comes_21, dL_comes_22, dL_comes_23, dL_comes_24, ab_wp0, ab_wps, ab_stp, ab_g, ab_st, ab_k2, ab_cl, ab_pop, ab_sz, ab_2, ab_ret, ab_f4, ab_tg, ab_I, ab_II, ab_A, ab_Rf, ab_VR, ab_IR, ab_VIR, ab_1, ab_LL, ab_DD, ab_ob, ab_pr, ab_qr, ab_ln, ab_so, ab_vI, ab_vA, ab_vD, ab_vL, ab_v2, ab_c, ab_fit, ab_rv, ab_tsw, ab_lsw, ab_up_eq, Fin.isValue, ab_f0, ab_f1, ab_f2, ab_f3, List.getElem?_cons_zero, List.getElem?_cons_succ, List.set_cons_zero, List.set_cons_succ, List.length_cons, List.length_nil, List.size_toArray, List.head?_cons, List.tail_cons, Option.map_some, cond_true, cond_false, true_and, and_true, false_and, and_false, not_true_eq_false, not_false_eq_true, true_imp_iff, false_imp_iff, if_true, if_false, ite_true, ite_false, ↓reduceIte, Nat.reduceAdd, Nat.reduceEqDiff, Nat.reduceLeDiff, Nat.reduceLT, Nat.reduceBEq, Nat.reduceBNe, Int.reduceAdd, Int.reduceNeg, Int.reduceSub, Int.reduceLE, Int.reduceLT, Int.reduceToNat, Int.reduceEq, Int.reduceMul, Int.cast_ofNat_Int, Nat.zero_add, Nat.add_zero, Nat.le_refl, eq_self, ne_eq, reduceCtorEq, or_true, true_or, or_false, false_or, Bool.or_true, Bool.or_false, Bool.true_or, Bool.false_or, Nat.zero_le, Int.le_refl, Int.ofNat_zero, Int.ofNat_one, Bool.false_eq_true]
      exact hk
    have hcall := hC [some (.inr (.inl (some x))), some (.inl rain), some (.inl x9), some (.inl y9), some (.inr (.inl (some o))), none] [.inr (.inl (some x)), .inl rain, .inl x9, .inl y9] [.inl 0, .inr (.inl (some o))] h 0 0 rfl (Nat.le_of_ble_eq_true rfl) (by decide) (by decide) (by simp only [ab_rv, D, ab_ob])
    refine hV (fun p => p == 7) 80 _ _ _ _ _ _ ?_
    simp only [ae_aload, ae_aload_n, ae_iconst, ae_iload_n, dL_comes_0, dL_comes_2, dL_comes_3, dL_comes_4, dL_comes_5, dL_comes_6, ab_wp0, ab_wps, ab_stp, ab_g, ab_st, ab_k2, ab_cl, ab_pop, ab_sz, ab_2, ab_ret, ab_f4, ab_tg, ab_I, ab_II, ab_A, ab_Rf, ab_VR, ab_IR, ab_VIR, ab_1, ab_LL, ab_DD, ab_ob, ab_pr, ab_qr, ab_ln, ab_so, ab_vI, ab_vA, ab_vD, ab_vL, ab_v2, ab_c, ab_fit, ab_rv, ab_tsw, ab_lsw, ab_up_eq, Fin.isValue, ab_f0, ab_f1, ab_f2, ab_f3, List.getElem?_cons_zero, List.getElem?_cons_succ, List.set_cons_zero, List.set_cons_succ, List.length_cons, List.length_nil, List.size_toArray, List.head?_cons, List.tail_cons, Option.map_some, cond_true, cond_false, true_and, and_true, false_and, and_false, not_true_eq_false, not_false_eq_true, true_imp_iff, false_imp_iff, if_true, if_false, ite_true, ite_false, ↓reduceIte, Nat.reduceAdd, Nat.reduceEqDiff, Nat.reduceLeDiff, Nat.reduceLT, Nat.reduceBEq, Nat.reduceBNe, Int.reduceAdd, Int.reduceNeg, Int.reduceSub, Int.reduceLE, Int.reduceLT, Int.reduceToNat, Int.reduceEq, Int.reduceMul, Int.cast_ofNat_Int, Nat.zero_add, Nat.add_zero, Nat.le_refl, eq_self, ne_eq, reduceCtorEq, or_true, true_or, or_false, false_or, Bool.or_true, Bool.or_false, Bool.true_or, Bool.false_or, Nat.zero_le, Int.le_refl, Int.ofNat_zero, Int.ofNat_one, Bool.false_eq_true]
    refine hcall ?_
    unfold TrX_X3_comes
    dsimp only
    rw [hP]
    refine ab_so_mk ?_
    dsimp only
    obtain ⟨hK0, hK1, hK2⟩ := hK
    refine ⟨⟨rfl, hs⟩, ?_, ?_, ?_⟩
    · intro hl h' fr
      refine ⟨fun v hv => ?_, fun n hn => (by cases hn), fun z => (by cases z), fun r9 z => (by cases z), fun d9 z => (by cases z)⟩
      cases hv
      refine hret _ h' ?_ fr (hK2 (by simpa using hl))
      have := cF_r (rain := rain) (of_decide_eq_true hl.1) (8 - y9).toNat 0 (by omega)
      exact ⟨by omega, by omega⟩
    · intro hl
      refine ⟨fun v hv => (by cases hv), fun n hn => ?_, fun z => (by cases z), fun r9 z => (by cases z), fun d9 z => (by cases z)⟩
      have hn9 : n = 1 := by
        have := Option.some.inj hn
        simp only [Sum.inr.injEq, Sum.inl.injEq] at this
        omega
      subst hn9
      refine ⟨_, rfl, fun q => hx1 q ?_⟩
      revert hl hK0
      generalize K (some (.inl 1)) h = KK
      cases isUpToF (rain) 9 <;> cases isPlaceF (x9) (y9) <;> intro hK0 hl <;> first | (exfalso; revert hl; simp; done) | (refine hK0 ?_; simp; done) | (refine hK0 trivial)
    · intro hl
      refine ⟨fun v hv => (by cases hv), fun n hn => ?_, fun z => (by cases z), fun r9 z => (by cases z), fun d9 z => (by cases z)⟩
      have hn9 : n = 3 := by
        have := Option.some.inj hn
        simp only [Sum.inr.injEq, Sum.inl.injEq] at this
        omega
      subst hn9
      refine ⟨_, rfl, fun q => hx3 q ?_⟩
      revert hl hK1
      generalize K (some (.inl 2)) h = KK
      cases isUpToF (rain) 9 <;> cases isPlaceF (x9) (y9) <;> intro hK1 hl <;> first | (exfalso; revert hl; simp; done) | (refine hK1 ?_; simp; done) | (refine hK1 trivial)
  · exact hT.elim
set_option maxRecDepth 100000 in
theorem conw_L_comes (l : Launch) (hl : l.stackTraces = false) (D : va_G) (ty : Nat → ClassId) (base : Nat) : ab_ConW l D vwCl ty lw_ts base lw_wd yL_comes cL_comes 6 (some .int) [(0, 12, 15, 13), (0, 12, 19, 21)] 7 113 1 6 Tr_L_comes :=
  ab_conW_of (own := RL) (rt := 1) (tb := tbL) (pc := 7) (ci := 3) (n := 3) (i := 52) (yC := yX3_comes) (hp := ab_lk [(1, 15), (3, 19)]) (by decide +kernel) rfl rfl lw_wd_ok wtbL lw_ar (conx_X3_comes l hl D ty base) dL_comes_7 rfl (lw_wi (by decide +kernel) (by decide +kernel)) (lw_wi (by decide +kernel) (by decide +kernel)) (lw_wi (by decide +kernel) (by decide +kernel)) (lw_wi (by decide +kernel) (by decide +kernel)) (lw_wi (by decide +kernel) (by decide +kernel)) (by decide +kernel) ⟨by decide, by decide⟩
    (ab_lk_all (P := fun n t => ab_hd RL lw_wd [(0, 12, 15, 13), (0, 12, 19, 21)] 7 n t) (ab_all_c (⟨[], (0, 12, 15, 13), [(0, 12, 19, 21)], rfl, fun _ h => absurd h List.not_mem_nil, ⟨by decide, by decide⟩, by decide, rfl, (lw_wi (by decide +kernel) (by decide +kernel)), (lw_wi (by decide +kernel) (by decide +kernel))⟩) (ab_all_c (⟨[(0, 12, 15, 13)], (0, 12, 19, 21), [], rfl, List.forall_mem_cons.mpr ⟨⟨by decide, 1, Or.inl rfl, by decide, (lw_wi (by decide +kernel) (by decide +kernel))⟩, fun _ h => absurd h List.not_mem_nil⟩, ⟨by decide, by decide⟩, by decide, rfl, (lw_wi (by decide +kernel) (by decide +kernel)), (lw_wi (by decide +kernel) (by decide +kernel))⟩) (ab_all_n))))
    (by intro as h K ht; unfold Tr_L_comes at ht; split at ht <;> first | exact ht.elim | exact Nat.le_of_ble_eq_true rfl) (semw_L_comes base)
/- -/
noncomputable def Tr_L_leaks : ATr := fun as h K => match as with
  | [.inr (.inl (some x)), .inl rain, .inr (.inl (some o))] => ab_so (ab_sr h x) fun P => ab_pr (h o) fun t n _ => (P.2 = sv0 ∧ (t = 2 ∧ n = 1) ∧ o ∉ x :: srL P.1 ∧ ab_in rain) ∧ ((isUpToF (rain) 9 = false) → K (some (.inl 1)) h) ∧ ((isUpToF (rain) 9 = true) → ∀ h' f', h' o = some (.inr (.inl (2, 1, f'))) → f' 0 = (allIF (rain)) → ab_fr h h' (o :: x :: srL P.1) → K (some (.inl 0)) h')
  | _ => False
theorem mo_L_leaks : ab_mo Tr_L_leaks := by
  intro as h K K' hk ht
  unfold Tr_L_leaks at ht ⊢
  split at ht
  · exact ab_so_mo (fun P q => ab_pr_mo (fun t n f w => ⟨w.1, fun e => hk _ _ (w.2.1 e), fun e h' f' e1 e2 e3 => hk _ _ (w.2.2 e h' f' e1 e2 e3)⟩) q) ht
  · exact ht.elim
set_option maxRecDepth 100000 in
set_option maxHeartbeats 4000000 in
theorem semw_L_leaks (base : Nat) : ab_SemW tbL lw_ts base cL_leaks 1 4 1 6 (fun as => ab_en as 4) Tr_L_leaks 4 3 2 1 6 TrX_X3_leaks (ab_lk [(1, 12)]) := by
  intro as h K hT V hV hC
  unfold Tr_L_leaks at hT
  split at hT
  · rename_i x rain o
    obtain ⟨⟨A, v9⟩, hP, hT1⟩ := ab_so_el hT
    obtain ⟨t, n, f, ho, ⟨hv9, ⟨ht, hn⟩, hno, hs⟩, hK⟩ := ab_pr_el hT1
    dsimp only at hv9 hno hK
    subst hv9 ht hn
    have D := (sr_el hP).1
    dsimp only at D
    show V 0 [some (.inr (.inl (some x))), some (.inl rain),  some (.inr (.inl (some o))), none] [] h 0 0
    have hret : ∀ (v : Int) (h' : AH), ab_in v → ab_fr h h' (x :: srL A) → (∀ h2 f2, h2 o = some (.inr (.inl (2, 1, f2))) → f2 0 = v → ab_fr h h2 (o :: x :: srL A) → K (some (.inl 0)) h2) → V 7 [some (.inr (.inl (some x))), some (.inl rain), some (.inr (.inl (some o))), none] [.inl v, .inl 0, .inr (.inl (some o))] h' 1 6 := by
      intro v h' hv fr hk
      have ho' := (fr o hno).trans ho
      have hk2 := hk (ab_up h' o (.inr (.inl (2, 1, ab_uf f 0 v)))) (ab_uf f 0 v) (ab_up_eq _ _ _) (by simp [ab_uf]) ((fr.sub (fun b hb => List.mem_cons_of_mem _ hb)).up List.mem_cons_self)
      simp only [ab_in] at hv
      refine hV (fun _ => false) 80 _ _ _ _ _ _ ?_
      simp only [ho', ae_astore_n, ae_goto, ae_i2l, ae_iconst, ae_ireturn, ae_lastore, dL_leaks_7, dL_leaks_8, dL_leaks_9, dL_leaks_12, dL_leaks_13, dL_leaks_14, dL_leaks_15, dL_leaks_16, ab_wp0, ab_wps, ab_stp, ab_g, ab_st, ab_k2, ab_cl, ab_pop, ab_sz, ab_2, ab_ret, ab_f4, ab_tg, ab_I, ab_II, ab_A, ab_Rf, ab_VR, ab_IR, ab_VIR, ab_1, ab_LL, ab_DD, ab_ob, ab_pr, ab_qr, ab_ln, ab_so, ab_vI, ab_vA, ab_vD, ab_vL, ab_v2, ab_c, ab_fit, ab_rv, ab_tsw, ab_lsw, ab_up_eq, Fin.isValue, ab_f0, ab_f1, ab_f2, ab_f3, List.getElem?_cons_zero, List.getElem?_cons_succ, List.set_cons_zero, List.set_cons_succ, List.length_cons, List.length_nil, List.size_toArray, List.head?_cons, List.tail_cons, Option.map_some, cond_true, cond_false, true_and, and_true, false_and, and_false, not_true_eq_false, not_false_eq_true, true_imp_iff, false_imp_iff, if_true, if_false, ite_true, ite_false, ↓reduceIte, Nat.reduceAdd, Nat.reduceEqDiff, Nat.reduceLeDiff, Nat.reduceLT, Nat.reduceBEq, Nat.reduceBNe, Int.reduceAdd, Int.reduceNeg, Int.reduceSub, Int.reduceLE, Int.reduceLT, Int.reduceToNat, Int.reduceEq, Int.reduceMul, Int.cast_ofNat_Int, Nat.zero_add, Nat.add_zero, Nat.le_refl, eq_self, ne_eq, reduceCtorEq, or_true, true_or, or_false, false_or, Bool.or_true, Bool.or_false, Bool.true_or, Bool.false_or, Nat.zero_le, Int.le_refl, Int.ofNat_zero, Int.ofNat_one, Bool.false_eq_true]
      try simp only [ab_in]
      (repeat' (first | intro _ | refine And.intro ?_ ?_)) <;> (first | exact hk2 | contradiction | omega | (exfalso; omega))
    have hx1 : ∀ q : Nat, K (some (.inl 1)) h → V 12 [some (.inr (.inl (some x))), some (.inl rain), some (.inr (.inl (some o))), none] [.inr (.inl (some q))] h 1 6 := by
      intro q hk
      refine hV (fun _ => false) 80 _ _ _ _ _ _ ?_
      simp only [ae_astore_n, ae_iconst, ae_ireturn, dL_leaks_12, dL_leaks_13, dL_leaks_14, dL_leaks_15, dL_leaks_16, ab_wp0, ab_wps, ab_stp, ab_g, ab_st, ab_k2, ab_cl, ab_pop, ab_sz, ab_2, ab_ret, ab_f4, ab_tg, ab_I, ab_II, ab_A, ab_Rf, ab_VR, ab_IR, ab_VIR, ab_1, ab_LL, ab_DD, ab_ob, ab_pr, ab_qr, ab_ln, ab_so, ab_vI, ab_vA, ab_vD, ab_vL, ab_v2, ab_c, ab_fit, ab_rv, ab_tsw, ab_lsw, ab_up_eq, Fin.isValue, ab_f0, ab_f1, ab_f2, ab_f3, List.getElem?_cons_zero, List.getElem?_cons_succ, List.set_cons_zero, List.set_cons_succ, List.length_cons, List.length_nil, List.size_toArray, List.head?_cons, List.tail_cons, Option.map_some, cond_true, cond_false, true_and, and_true, false_and, and_false, not_true_eq_false, not_false_eq_true, true_imp_iff, false_imp_iff, if_true, if_false, ite_true, ite_false, ↓reduceIte, Nat.reduceAdd, Nat.reduceEqDiff, Nat.reduceLeDiff, Nat.reduceLT, Nat.reduceBEq, Nat.reduceBNe, Int.reduceAdd, Int.reduceNeg, Int.reduceSub, Int.reduceLE, Int.reduceLT, Int.reduceToNat, Int.reduceEq, Int.reduceMul, Int.cast_ofNat_Int, Nat.zero_add, Nat.add_zero, Nat.le_refl, eq_self, ne_eq, reduceCtorEq, or_true, true_or, or_false, false_or, Bool.or_true, Bool.or_false, Bool.true_or, Bool.false_or, Nat.zero_le, Int.le_refl, Int.ofNat_zero, Int.ofNat_one, Bool.false_eq_true]
      exact hk
    have hcall := hC [some (.inr (.inl (some x))), some (.inl rain), some (.inr (.inl (some o))), none] [.inr (.inl (some x)), .inl rain] [.inl 0, .inr (.inl (some o))] h 0 0 rfl (Nat.le_of_ble_eq_true rfl) (by decide) (by decide) (by simp only [ab_rv, D, ab_ob])
    refine hV (fun p => p == 4) 80 _ _ _ _ _ _ ?_
    simp only [ae_aload_n, ae_iconst, ae_iload_n, dL_leaks_0, dL_leaks_1, dL_leaks_2, dL_leaks_3, ab_wp0, ab_wps, ab_stp, ab_g, ab_st, ab_k2, ab_cl, ab_pop, ab_sz, ab_2, ab_ret, ab_f4, ab_tg, ab_I, ab_II, ab_A, ab_Rf, ab_VR, ab_IR, ab_VIR, ab_1, ab_LL, ab_DD, ab_ob, ab_pr, ab_qr, ab_ln, ab_so, ab_vI, ab_vA, ab_vD, ab_vL, ab_v2, ab_c, ab_fit, ab_rv, ab_tsw, ab_lsw, ab_up_eq, Fin.isValue, ab_f0, ab_f1, ab_f2, ab_f3, List.getElem?_cons_zero, List.getElem?_cons_succ, List.set_cons_zero, List.set_cons_succ, List.length_cons, List.length_nil, List.size_toArray, List.head?_cons, List.tail_cons, Option.map_some, cond_true, cond_false, true_and, and_true, false_and, and_false, not_true_eq_false, not_false_eq_true, true_imp_iff, false_imp_iff, if_true, if_false, ite_true, ite_false, ↓reduceIte, Nat.reduceAdd, Nat.reduceEqDiff, Nat.reduceLeDiff, Nat.reduceLT, Nat.reduceBEq, Nat.reduceBNe, Int.reduceAdd, Int.reduceNeg, Int.reduceSub, Int.reduceLE, Int.reduceLT, Int.reduceToNat, Int.reduceEq, Int.reduceMul, Int.cast_ofNat_Int, Nat.zero_add, Nat.add_zero, Nat.le_refl, eq_self, ne_eq, reduceCtorEq, or_true, true_or, or_false, false_or, Bool.or_true, Bool.or_false, Bool.true_or, Bool.false_or, Nat.zero_le, Int.le_refl, Int.ofNat_zero, Int.ofNat_one, Bool.false_eq_true]
    refine hcall ?_
    unfold TrX_X3_leaks
    dsimp only
    rw [hP]
    refine ab_so_mk ?_
    dsimp only
    obtain ⟨hK0, hK1⟩ := hK
    refine ⟨⟨rfl, hs⟩, ?_, ?_⟩
    · intro hl h' fr
      refine ⟨fun v hv => ?_, fun n hn => (by cases hn), fun z => (by cases z), fun r9 z => (by cases z), fun d9 z => (by cases z)⟩
      cases hv
      refine hret _ h' ?_ fr (hK1 (by simpa using hl))
      have := allIF_r (rain := rain) (of_decide_eq_true hl)
      exact ⟨by omega, by omega⟩
    · intro hl
      refine ⟨fun v hv => (by cases hv), fun n hn => ?_, fun z => (by cases z), fun r9 z => (by cases z), fun d9 z => (by cases z)⟩
      have hn9 : n = 1 := by
        have := Option.some.inj hn
        simp only [Sum.inr.injEq, Sum.inl.injEq] at this
        omega
      subst hn9
      refine ⟨_, rfl, fun q => hx1 q ?_⟩
      revert hl hK0
      generalize K (some (.inl 1)) h = KK
      cases isUpToF (rain) 9 <;> intro hK0 hl <;> first | (exfalso; revert hl; simp; done) | (refine hK0 ?_; simp; done) | (refine hK0 trivial)
  · exact hT.elim
set_option maxRecDepth 100000 in
theorem conw_L_leaks (l : Launch) (hl : l.stackTraces = false) (D : va_G) (ty : Nat → ClassId) (base : Nat) : ab_ConW l D vwCl ty lw_ts base lw_wd yL_leaks cL_leaks 4 (some .int) [(0, 9, 12, 13)] 7 111 1 6 Tr_L_leaks :=
  ab_conW_of (own := RL) (rt := 1) (tb := tbL) (pc := 4) (ci := 3) (n := 1) (i := 55) (yC := yX3_leaks) (hp := ab_lk [(1, 12)]) (by decide +kernel) rfl rfl lw_wd_ok wtbL lw_ar (conx_X3_leaks l hl D ty base) dL_leaks_4 rfl (lw_wi (by decide +kernel) (by decide +kernel)) (lw_wi (by decide +kernel) (by decide +kernel)) (lw_wi (by decide +kernel) (by decide +kernel)) (lw_wi (by decide +kernel) (by decide +kernel)) (lw_wi (by decide +kernel) (by decide +kernel)) (by decide +kernel) ⟨by decide, by decide⟩
    (ab_lk_all (P := fun n t => ab_hd RL lw_wd [(0, 9, 12, 13)] 4 n t) (ab_all_c (⟨[], (0, 9, 12, 13), [], rfl, fun _ h => absurd h List.not_mem_nil, ⟨by decide, by decide⟩, by decide, rfl, (lw_wi (by decide +kernel) (by decide +kernel)), (lw_wi (by decide +kernel) (by decide +kernel))⟩) (ab_all_n)))
    (by intro as h K ht; unfold Tr_L_leaks at ht; split at ht <;> first | exact ht.elim | exact Nat.le_of_ble_eq_true rfl) (semw_L_leaks base)
/- -/
noncomputable def Tr_L_needs : ATr := fun as h K => match as with
  | [.inr (.inl (some x)), .inl row, .inl from9, .inl wide, .inr (.inl (some o))] => ab_so (ab_sr h x) fun P => ab_pr (h o) fun t n _ => (P.2 = sv0 ∧ (t = 2 ∧ n = 1) ∧ o ∉ x :: srL P.1 ∧ ab_in row ∧ ab_in from9 ∧ ab_in wide) ∧ ((fitsF (row) (from9) (wide) = false) → K (some (.inl 1)) h) ∧ ((fitsF (row) (from9) (wide) = true) → ∀ h' f', h' o = some (.inr (.inl (2, 1, f'))) → f' 0 = (0) → ab_fr h h' (o :: x :: srL P.1) → K (some (.inl 0)) h')
  | _ => False
theorem mo_L_needs : ab_mo Tr_L_needs := by
  intro as h K K' hk ht
  unfold Tr_L_needs at ht ⊢
  split at ht
  · exact ab_so_mo (fun P q => ab_pr_mo (fun t n f w => ⟨w.1, fun e => hk _ _ (w.2.1 e), fun e h' f' e1 e2 e3 => hk _ _ (w.2.2 e h' f' e1 e2 e3)⟩) q) ht
  · exact ht.elim
set_option maxRecDepth 100000 in
set_option maxHeartbeats 4000000 in
theorem semw_L_needs (base : Nat) : ab_SemW tbL lw_ts base cL_needs 1 6 1 6 (fun as => ab_en as 6) Tr_L_needs 7 3 4 1 6 TrX_X3_needs (ab_lk [(1, 15)]) := by
  intro as h K hT V hV hC
  unfold Tr_L_needs at hT
  split at hT
  · rename_i x row from9 wide o
    obtain ⟨⟨A, v9⟩, hP, hT1⟩ := ab_so_el hT
    obtain ⟨t, n, f, ho, ⟨hv9, ⟨ht, hn⟩, hno, hs⟩, hK⟩ := ab_pr_el hT1
    dsimp only at hv9 hno hK
    subst hv9 ht hn
    have D := (sr_el hP).1
    dsimp only at D
    show V 0 [some (.inr (.inl (some x))), some (.inl row), some (.inl from9), some (.inl wide),  some (.inr (.inl (some o))), none] [] h 0 0
    have hret : ∀ (v : Int) (h' : AH), ab_in v → ab_fr h h' (x :: srL A) → (∀ h2 f2, h2 o = some (.inr (.inl (2, 1, f2))) → f2 0 = v → ab_fr h h2 (o :: x :: srL A) → K (some (.inl 0)) h2) → V 10 [some (.inr (.inl (some x))), some (.inl row), some (.inl from9), some (.inl wide), some (.inr (.inl (some o))), none] [.inl v, .inl 0, .inr (.inl (some o))] h' 1 6 := by
      intro v h' hv fr hk
      have ho' := (fr o hno).trans ho
      have hk2 := hk (ab_up h' o (.inr (.inl (2, 1, ab_uf f 0 v)))) (ab_uf f 0 v) (ab_up_eq _ _ _) (by simp [ab_uf]) ((fr.sub (fun b hb => List.mem_cons_of_mem _ hb)).up List.mem_cons_self)
      simp only [ab_in] at hv
      refine hV (fun _ => false) 80 _ _ _ _ _ _ ?_
      simp only [ho', ae_astore, ae_goto, ae_i2l, ae_iconst, ae_ireturn, ae_lastore, dL_needs_10, dL_needs_11, dL_needs_12, dL_needs_15, dL_needs_17, dL_needs_18, dL_needs_19, dL_needs_20, ab_wp0, ab_wps, ab_stp, ab_g, ab_st, ab_k2, ab_cl, ab_pop, ab_sz, ab_2, ab_ret, ab_f4, ab_tg, ab_I, ab_II, ab_A, ab_Rf, ab_VR, ab_IR, ab_VIR, ab_1, ab_LL, ab_DD, ab_ob, ab_pr, ab_qr, ab_ln, ab_so, ab_vI, ab_vA, ab_vD, ab_vL, ab_v2, ab_c, ab_fit, ab_rv, ab_tsw, ab_lsw, ab_up_eq, Fin.isValue, ab_f0, ab_f1, ab_f2, ab_f3, List.getElem?_cons_zero, List.getElem?_cons_succ, List.set_cons_zero, List.set_cons_succ, List.length_cons, List.length_nil, List.size_toArray, List.head?_cons, List.tail_cons, Option.map_some, cond_true, cond_false, true_and, and_true, false_and, and_false, not_true_eq_false, not_false_eq_true, true_imp_iff, false_imp_iff, if_true, if_false, ite_true, ite_false, ↓reduceIte, Nat.reduceAdd, Nat.reduceEqDiff, Nat.reduceLeDiff, Nat.reduceLT, Nat.reduceBEq, Nat.reduceBNe, Int.reduceAdd, Int.reduceNeg, Int.reduceSub, Int.reduceLE, Int.reduceLT, Int.reduceToNat, Int.reduceEq, Int.reduceMul, Int.cast_ofNat_Int, Nat.zero_add, Nat.add_zero, Nat.le_refl, eq_self, ne_eq, reduceCtorEq, or_true, true_or, or_false, false_or, Bool.or_true, Bool.or_false, Bool.true_or, Bool.false_or, Nat.zero_le, Int.le_refl, Int.ofNat_zero, Int.ofNat_one, Bool.false_eq_true]
      try simp only [ab_in]
      (repeat' (first | intro _ | refine And.intro ?_ ?_)) <;> (first | exact hk2 | contradiction | omega | (exfalso; omega))
    have hx1 : ∀ q : Nat, K (some (.inl 1)) h → V 15 [some (.inr (.inl (some x))), some (.inl row), some (.inl from9), some (.inl wide), some (.inr (.inl (some o))), none] [.inr (.inl (some q))] h 1 6 := by
      intro q hk
      refine hV (fun _ => false) 80 _ _ _ _ _ _ ?_
      simp only [ae_astore, ae_iconst, ae_ireturn, dL_needs_15, dL_needs_17, dL_needs_18, dL_needs_19, dL_needs_20, ab_wp0, ab_wps, ab_stp, ab_g, ab_st, ab_k2, ab_cl, ab_pop, ab_sz, ab_2, ab_ret, ab_f4, ab_tg, ab_I, ab_II, ab_A, ab_Rf, ab_VR, ab_IR, ab_VIR, ab_1, ab_LL, ab_DD, ab_ob, ab_pr, ab_qr, ab_ln, ab_so, ab_vI, ab_vA, ab_vD, ab_vL, ab_v2, ab_c, ab_fit, ab_rv, ab_tsw, ab_lsw, ab_up_eq, Fin.isValue, ab_f0, ab_f1, ab_f2, ab_f3, List.getElem?_cons_zero, List.getElem?_cons_succ, List.set_cons_zero, List.set_cons_succ, List.length_cons, List.length_nil, List.size_toArray, List.head?_cons, List.tail_cons, Option.map_some, cond_true, cond_false, true_and, and_true, false_and, and_false, not_true_eq_false, not_false_eq_true, true_imp_iff, false_imp_iff, if_true, if_false, ite_true, ite_false, ↓reduceIte, Nat.reduceAdd, Nat.reduceEqDiff, Nat.reduceLeDiff, Nat.reduceLT, Nat.reduceBEq, Nat.reduceBNe, Int.reduceAdd, Int.reduceNeg, Int.reduceSub, Int.reduceLE, Int.reduceLT, Int.reduceToNat, Int.reduceEq, Int.reduceMul, Int.cast_ofNat_Int, Nat.zero_add, Nat.add_zero, Nat.le_refl, eq_self, ne_eq, reduceCtorEq, or_true, true_or, or_false, false_or, Bool.or_true, Bool.or_false, Bool.true_or, Bool.false_or, Nat.zero_le, Int.le_refl, Int.ofNat_zero, Int.ofNat_one, Bool.false_eq_true]
      exact hk
    have hcall := hC [some (.inr (.inl (some x))), some (.inl row), some (.inl from9), some (.inl wide), some (.inr (.inl (some o))), none] [.inr (.inl (some x)), .inl row, .inl from9, .inl wide] [.inl 0, .inr (.inl (some o))] h 0 0 rfl (Nat.le_of_ble_eq_true rfl) (by decide) (by decide) (by simp only [ab_rv, D, ab_ob])
    refine hV (fun p => p == 7) 80 _ _ _ _ _ _ ?_
    simp only [ae_aload, ae_aload_n, ae_iconst, ae_iload_n, dL_needs_0, dL_needs_2, dL_needs_3, dL_needs_4, dL_needs_5, dL_needs_6, ab_wp0, ab_wps, ab_stp, ab_g, ab_st, ab_k2, ab_cl, ab_pop, ab_sz, ab_2, ab_ret, ab_f4, ab_tg, ab_I, ab_II, ab_A, ab_Rf, ab_VR, ab_IR, ab_VIR, ab_1, ab_LL, ab_DD, ab_ob, ab_pr, ab_qr, ab_ln, ab_so, ab_vI, ab_vA, ab_vD, ab_vL, ab_v2, ab_c, ab_fit, ab_rv, ab_tsw, ab_lsw, ab_up_eq, Fin.isValue, ab_f0, ab_f1, ab_f2, ab_f3, List.getElem?_cons_zero, List.getElem?_cons_succ, List.set_cons_zero, List.set_cons_succ, List.length_cons, List.length_nil, List.size_toArray, List.head?_cons, List.tail_cons, Option.map_some, cond_true, cond_false, true_and, and_true, false_and, and_false, not_true_eq_false, not_false_eq_true, true_imp_iff, false_imp_iff, if_true, if_false, ite_true, ite_false, ↓reduceIte, Nat.reduceAdd, Nat.reduceEqDiff, Nat.reduceLeDiff, Nat.reduceLT, Nat.reduceBEq, Nat.reduceBNe, Int.reduceAdd, Int.reduceNeg, Int.reduceSub, Int.reduceLE, Int.reduceLT, Int.reduceToNat, Int.reduceEq, Int.reduceMul, Int.cast_ofNat_Int, Nat.zero_add, Nat.add_zero, Nat.le_refl, eq_self, ne_eq, reduceCtorEq, or_true, true_or, or_false, false_or, Bool.or_true, Bool.or_false, Bool.true_or, Bool.false_or, Nat.zero_le, Int.le_refl, Int.ofNat_zero, Int.ofNat_one, Bool.false_eq_true]
    refine hcall ?_
    unfold TrX_X3_needs
    dsimp only
    rw [hP]
    refine ab_so_mk ?_
    dsimp only
    obtain ⟨hK0, hK1⟩ := hK
    refine ⟨⟨rfl, hs⟩, ?_, ?_⟩
    · intro hl h' fr
      refine ⟨fun v hv => ?_, fun n hn => (by cases hn), fun z => (by cases z), fun r9 z => (by cases z), fun d9 z => (by cases z)⟩
      cases hv
      refine hret _ h' ?_ fr (hK1 (by simpa using hl))
      exact ⟨by decide, by decide⟩
    · intro hl
      refine ⟨fun v hv => (by cases hv), fun n hn => ?_, fun z => (by cases z), fun r9 z => (by cases z), fun d9 z => (by cases z)⟩
      have hn9 : n = 1 := by
        have := Option.some.inj hn
        simp only [Sum.inr.injEq, Sum.inl.injEq] at this
        omega
      subst hn9
      refine ⟨_, rfl, fun q => hx1 q ?_⟩
      revert hl hK0
      generalize K (some (.inl 1)) h = KK
      cases fitsF (row) (from9) (wide) <;> intro hK0 hl <;> first | (exfalso; revert hl; simp; done) | (refine hK0 ?_; simp; done) | (refine hK0 trivial)
  · exact hT.elim
set_option maxRecDepth 100000 in
theorem conw_L_needs (l : Launch) (hl : l.stackTraces = false) (D : va_G) (ty : Nat → ClassId) (base : Nat) : ab_ConW l D vwCl ty lw_ts base lw_wd yL_needs cL_needs 6 (some .int) [(0, 12, 15, 13)] 7 113 1 6 Tr_L_needs :=
  ab_conW_of (own := RL) (rt := 1) (tb := tbL) (pc := 7) (ci := 3) (n := 3) (i := 58) (yC := yX3_needs) (hp := ab_lk [(1, 15)]) (by decide +kernel) rfl rfl lw_wd_ok wtbL lw_ar (conx_X3_needs l hl D ty base) dL_needs_7 rfl (lw_wi (by decide +kernel) (by decide +kernel)) (lw_wi (by decide +kernel) (by decide +kernel)) (lw_wi (by decide +kernel) (by decide +kernel)) (lw_wi (by decide +kernel) (by decide +kernel)) (lw_wi (by decide +kernel) (by decide +kernel)) (by decide +kernel) ⟨by decide, by decide⟩
    (ab_lk_all (P := fun n t => ab_hd RL lw_wd [(0, 12, 15, 13)] 7 n t) (ab_all_c (⟨[], (0, 12, 15, 13), [], rfl, fun _ h => absurd h List.not_mem_nil, ⟨by decide, by decide⟩, by decide, rfl, (lw_wi (by decide +kernel) (by decide +kernel)), (lw_wi (by decide +kernel) (by decide +kernel))⟩) (ab_all_n)))
    (by intro as h K ht; unfold Tr_L_needs at ht; split at ht <;> first | exact ht.elim | exact Nat.le_of_ble_eq_true rfl) (semw_L_needs base)
/- -/
noncomputable def Tr_L_pass : ATr := fun as h K => match as with
  | [.inr (.inl (some x)), .inl days, .inr (.inl (some o))] => ab_so (ab_sr h x) fun P => ab_pr (h o) fun t n _ => (P.2 = sv0 ∧ (t = 2 ∧ n = 1) ∧ o ∉ x :: srL P.1 ∧ ab_in days) ∧ ((decide (1 ≤ days ∧ days ≤ 60) = false) → K (some (.inl 1)) h) ∧ ((decide (1 ≤ days ∧ days ≤ 60) = true) → ∀ h' f', h' o = some (.inr (.inl (2, 1, f'))) → f' 0 = (0) → ab_fr h h' (o :: x :: srL P.1) → K (some (.inl 0)) h')
  | _ => False
theorem mo_L_pass : ab_mo Tr_L_pass := by
  intro as h K K' hk ht
  unfold Tr_L_pass at ht ⊢
  split at ht
  · exact ab_so_mo (fun P q => ab_pr_mo (fun t n f w => ⟨w.1, fun e => hk _ _ (w.2.1 e), fun e h' f' e1 e2 e3 => hk _ _ (w.2.2 e h' f' e1 e2 e3)⟩) q) ht
  · exact ht.elim
set_option maxRecDepth 100000 in
set_option maxHeartbeats 4000000 in
theorem semw_L_pass (base : Nat) : ab_SemW tbL lw_ts base cL_pass 1 4 1 6 (fun as => ab_en as 4) Tr_L_pass 4 3 2 1 6 TrX_X3_pass (ab_lk [(1, 12)]) := by
  intro as h K hT V hV hC
  unfold Tr_L_pass at hT
  split at hT
  · rename_i x days o
    obtain ⟨⟨A, v9⟩, hP, hT1⟩ := ab_so_el hT
    obtain ⟨t, n, f, ho, ⟨hv9, ⟨ht, hn⟩, hno, hs⟩, hK⟩ := ab_pr_el hT1
    dsimp only at hv9 hno hK
    subst hv9 ht hn
    have D := (sr_el hP).1
    dsimp only at D
    show V 0 [some (.inr (.inl (some x))), some (.inl days),  some (.inr (.inl (some o))), none] [] h 0 0
    have hret : ∀ (v : Int) (h' : AH), ab_in v → ab_fr h h' (x :: srL A) → (∀ h2 f2, h2 o = some (.inr (.inl (2, 1, f2))) → f2 0 = v → ab_fr h h2 (o :: x :: srL A) → K (some (.inl 0)) h2) → V 7 [some (.inr (.inl (some x))), some (.inl days), some (.inr (.inl (some o))), none] [.inl v, .inl 0, .inr (.inl (some o))] h' 1 6 := by
      intro v h' hv fr hk
      have ho' := (fr o hno).trans ho
      have hk2 := hk (ab_up h' o (.inr (.inl (2, 1, ab_uf f 0 v)))) (ab_uf f 0 v) (ab_up_eq _ _ _) (by simp [ab_uf]) ((fr.sub (fun b hb => List.mem_cons_of_mem _ hb)).up List.mem_cons_self)
      simp only [ab_in] at hv
      refine hV (fun _ => false) 80 _ _ _ _ _ _ ?_
      simp only [ho', ae_astore_n, ae_goto, ae_i2l, ae_iconst, ae_ireturn, ae_lastore, dL_pass_7, dL_pass_8, dL_pass_9, dL_pass_12, dL_pass_13, dL_pass_14, dL_pass_15, dL_pass_16, ab_wp0, ab_wps, ab_stp, ab_g, ab_st, ab_k2, ab_cl, ab_pop, ab_sz, ab_2, ab_ret, ab_f4, ab_tg, ab_I, ab_II, ab_A, ab_Rf, ab_VR, ab_IR, ab_VIR, ab_1, ab_LL, ab_DD, ab_ob, ab_pr, ab_qr, ab_ln, ab_so, ab_vI, ab_vA, ab_vD, ab_vL, ab_v2, ab_c, ab_fit, ab_rv, ab_tsw, ab_lsw, ab_up_eq, Fin.isValue, ab_f0, ab_f1, ab_f2, ab_f3, List.getElem?_cons_zero, List.getElem?_cons_succ, List.set_cons_zero, List.set_cons_succ, List.length_cons, List.length_nil, List.size_toArray, List.head?_cons, List.tail_cons, Option.map_some, cond_true, cond_false, true_and, and_true, false_and, and_false, not_true_eq_false, not_false_eq_true, true_imp_iff, false_imp_iff, if_true, if_false, ite_true, ite_false, ↓reduceIte, Nat.reduceAdd, Nat.reduceEqDiff, Nat.reduceLeDiff, Nat.reduceLT, Nat.reduceBEq, Nat.reduceBNe, Int.reduceAdd, Int.reduceNeg, Int.reduceSub, Int.reduceLE, Int.reduceLT, Int.reduceToNat, Int.reduceEq, Int.reduceMul, Int.cast_ofNat_Int, Nat.zero_add, Nat.add_zero, Nat.le_refl, eq_self, ne_eq, reduceCtorEq, or_true, true_or, or_false, false_or, Bool.or_true, Bool.or_false, Bool.true_or, Bool.false_or, Nat.zero_le, Int.le_refl, Int.ofNat_zero, Int.ofNat_one, Bool.false_eq_true]
      try simp only [ab_in]
      (repeat' (first | intro _ | refine And.intro ?_ ?_)) <;> (first | exact hk2 | contradiction | omega | (exfalso; omega))
    have hx1 : ∀ q : Nat, K (some (.inl 1)) h → V 12 [some (.inr (.inl (some x))), some (.inl days), some (.inr (.inl (some o))), none] [.inr (.inl (some q))] h 1 6 := by
      intro q hk
      refine hV (fun _ => false) 80 _ _ _ _ _ _ ?_
      simp only [ae_astore_n, ae_iconst, ae_ireturn, dL_pass_12, dL_pass_13, dL_pass_14, dL_pass_15, dL_pass_16, ab_wp0, ab_wps, ab_stp, ab_g, ab_st, ab_k2, ab_cl, ab_pop, ab_sz, ab_2, ab_ret, ab_f4, ab_tg, ab_I, ab_II, ab_A, ab_Rf, ab_VR, ab_IR, ab_VIR, ab_1, ab_LL, ab_DD, ab_ob, ab_pr, ab_qr, ab_ln, ab_so, ab_vI, ab_vA, ab_vD, ab_vL, ab_v2, ab_c, ab_fit, ab_rv, ab_tsw, ab_lsw, ab_up_eq, Fin.isValue, ab_f0, ab_f1, ab_f2, ab_f3, List.getElem?_cons_zero, List.getElem?_cons_succ, List.set_cons_zero, List.set_cons_succ, List.length_cons, List.length_nil, List.size_toArray, List.head?_cons, List.tail_cons, Option.map_some, cond_true, cond_false, true_and, and_true, false_and, and_false, not_true_eq_false, not_false_eq_true, true_imp_iff, false_imp_iff, if_true, if_false, ite_true, ite_false, ↓reduceIte, Nat.reduceAdd, Nat.reduceEqDiff, Nat.reduceLeDiff, Nat.reduceLT, Nat.reduceBEq, Nat.reduceBNe, Int.reduceAdd, Int.reduceNeg, Int.reduceSub, Int.reduceLE, Int.reduceLT, Int.reduceToNat, Int.reduceEq, Int.reduceMul, Int.cast_ofNat_Int, Nat.zero_add, Nat.add_zero, Nat.le_refl, eq_self, ne_eq, reduceCtorEq, or_true, true_or, or_false, false_or, Bool.or_true, Bool.or_false, Bool.true_or, Bool.false_or, Nat.zero_le, Int.le_refl, Int.ofNat_zero, Int.ofNat_one, Bool.false_eq_true]
      exact hk
    have hcall := hC [some (.inr (.inl (some x))), some (.inl days), some (.inr (.inl (some o))), none] [.inr (.inl (some x)), .inl days] [.inl 0, .inr (.inl (some o))] h 0 0 rfl (Nat.le_of_ble_eq_true rfl) (by decide) (by decide) (by simp only [ab_rv, D, ab_ob])
    refine hV (fun p => p == 4) 80 _ _ _ _ _ _ ?_
    simp only [ae_aload_n, ae_iconst, ae_iload_n, dL_pass_0, dL_pass_1, dL_pass_2, dL_pass_3, ab_wp0, ab_wps, ab_stp, ab_g, ab_st, ab_k2, ab_cl, ab_pop, ab_sz, ab_2, ab_ret, ab_f4, ab_tg, ab_I, ab_II, ab_A, ab_Rf, ab_VR, ab_IR, ab_VIR, ab_1, ab_LL, ab_DD, ab_ob, ab_pr, ab_qr, ab_ln, ab_so, ab_vI, ab_vA, ab_vD, ab_vL, ab_v2, ab_c, ab_fit, ab_rv, ab_tsw, ab_lsw, ab_up_eq, Fin.isValue, ab_f0, ab_f1, ab_f2, ab_f3, List.getElem?_cons_zero, List.getElem?_cons_succ, List.set_cons_zero, List.set_cons_succ, List.length_cons, List.length_nil, List.size_toArray, List.head?_cons, List.tail_cons, Option.map_some, cond_true, cond_false, true_and, and_true, false_and, and_false, not_true_eq_false, not_false_eq_true, true_imp_iff, false_imp_iff, if_true, if_false, ite_true, ite_false, ↓reduceIte, Nat.reduceAdd, Nat.reduceEqDiff, Nat.reduceLeDiff, Nat.reduceLT, Nat.reduceBEq, Nat.reduceBNe, Int.reduceAdd, Int.reduceNeg, Int.reduceSub, Int.reduceLE, Int.reduceLT, Int.reduceToNat, Int.reduceEq, Int.reduceMul, Int.cast_ofNat_Int, Nat.zero_add, Nat.add_zero, Nat.le_refl, eq_self, ne_eq, reduceCtorEq, or_true, true_or, or_false, false_or, Bool.or_true, Bool.or_false, Bool.true_or, Bool.false_or, Nat.zero_le, Int.le_refl, Int.ofNat_zero, Int.ofNat_one, Bool.false_eq_true]
    refine hcall ?_
    unfold TrX_X3_pass
    dsimp only
    rw [hP]
    refine ab_so_mk ?_
    dsimp only
    obtain ⟨hK0, hK1⟩ := hK
    refine ⟨⟨rfl, hs⟩, ?_, ?_⟩
    · intro hl h' fr
      refine ⟨fun v hv => ?_, fun n hn => (by cases hn), fun z => (by cases z), fun r9 z => (by cases z), fun d9 z => (by cases z)⟩
      cases hv
      refine hret _ h' ?_ fr (hK1 (by simpa using hl))
      exact ⟨by decide, by decide⟩
    · intro hl
      refine ⟨fun v hv => (by cases hv), fun n hn => ?_, fun z => (by cases z), fun r9 z => (by cases z), fun d9 z => (by cases z)⟩
      have hn9 : n = 1 := by
        have := Option.some.inj hn
        simp only [Sum.inr.injEq, Sum.inl.injEq] at this
        omega
      subst hn9
      refine ⟨_, rfl, fun q => hx1 q ?_⟩
      revert hl hK0
      generalize K (some (.inl 1)) h = KK
      cases decide (1 ≤ days ∧ days ≤ 60) <;> intro hK0 hl <;> first | (exfalso; revert hl; simp; done) | (refine hK0 ?_; simp; done) | (refine hK0 trivial)
  · exact hT.elim
set_option maxRecDepth 100000 in
theorem conw_L_pass (l : Launch) (hl : l.stackTraces = false) (D : va_G) (ty : Nat → ClassId) (base : Nat) : ab_ConW l D vwCl ty lw_ts base lw_wd yL_pass cL_pass 4 (some .int) [(0, 9, 12, 13)] 7 163 1 6 Tr_L_pass :=
  ab_conW_of (own := RL) (rt := 1) (tb := tbL) (pc := 4) (ci := 3) (n := 1) (i := 61) (yC := yX3_pass) (hp := ab_lk [(1, 12)]) (by decide +kernel) rfl rfl lw_wd_ok wtbL lw_ar (conx_X3_pass l hl D ty base) dL_pass_4 rfl (lw_wi (by decide +kernel) (by decide +kernel)) (lw_wi (by decide +kernel) (by decide +kernel)) (lw_wi (by decide +kernel) (by decide +kernel)) (lw_wi (by decide +kernel) (by decide +kernel)) (lw_wi (by decide +kernel) (by decide +kernel)) (by decide +kernel) ⟨by decide, by decide⟩
    (ab_lk_all (P := fun n t => ab_hd RL lw_wd [(0, 9, 12, 13)] 4 n t) (ab_all_c (⟨[], (0, 9, 12, 13), [], rfl, fun _ h => absurd h List.not_mem_nil, ⟨by decide, by decide⟩, by decide, rfl, (lw_wi (by decide +kernel) (by decide +kernel)), (lw_wi (by decide +kernel) (by decide +kernel))⟩) (ab_all_n)))
    (by intro as h K ht; unfold Tr_L_pass at ht; split at ht <;> first | exact ht.elim | exact Nat.le_of_ble_eq_true rfl) (semw_L_pass base)
/- -/
noncomputable def Tr_L_foresee : ATr := fun as h K => match as with
  | [.inr (.inl (some x)), .inl days, .inl what, .inr (.inl (some o))] => ab_so (ab_sr h x) fun P => ab_pr (h o) fun t n _ => (P.2 = sv0 ∧ (t = 2 ∧ n = 1) ∧ o ∉ x :: srL P.1 ∧ ab_in days ∧ ab_in what) ∧ ((decide (1 ≤ days ∧ days ≤ 60) = false) → K (some (.inl 1)) h) ∧ ((decide (1 ≤ days ∧ days ≤ 60) = true ∧ isUpToF (what) 2 = false) → K (some (.inl 2)) h) ∧ ((decide (1 ≤ days ∧ days ≤ 60) = true ∧ isUpToF (what) 2 = true) → ∀ h' f', h' o = some (.inr (.inl (2, 1, f'))) → f' 0 = (0) → ab_fr h h' (o :: x :: srL P.1) → K (some (.inl 0)) h')
  | _ => False
theorem mo_L_foresee : ab_mo Tr_L_foresee := by
  intro as h K K' hk ht
  unfold Tr_L_foresee at ht ⊢
  split at ht
  · exact ab_so_mo (fun P q => ab_pr_mo (fun t n f w => ⟨w.1, fun e => hk _ _ (w.2.1 e), fun e => hk _ _ (w.2.2.1 e), fun e h' f' e1 e2 e3 => hk _ _ (w.2.2.2 e h' f' e1 e2 e3)⟩) q) ht
  · exact ht.elim
set_option maxRecDepth 100000 in
set_option maxHeartbeats 4000000 in
theorem semw_L_foresee (base : Nat) : ab_SemW tbL lw_ts base cL_foresee 1 5 1 6 (fun as => ab_en as 5) Tr_L_foresee 5 3 3 1 6 TrX_X3_foresee (ab_lk [(1, 13), (3, 17)]) := by
  intro as h K hT V hV hC
  unfold Tr_L_foresee at hT
  split at hT
  · rename_i x days what o
    obtain ⟨⟨A, v9⟩, hP, hT1⟩ := ab_so_el hT
    obtain ⟨t, n, f, ho, ⟨hv9, ⟨ht, hn⟩, hno, hs⟩, hK⟩ := ab_pr_el hT1
    dsimp only at hv9 hno hK
    subst hv9 ht hn
    have D := (sr_el hP).1
    dsimp only at D
    show V 0 [some (.inr (.inl (some x))), some (.inl days), some (.inl what),  some (.inr (.inl (some o))), none] [] h 0 0
    have hret : ∀ (v : Int) (h' : AH), ab_in v → ab_fr h h' (x :: srL A) → (∀ h2 f2, h2 o = some (.inr (.inl (2, 1, f2))) → f2 0 = v → ab_fr h h2 (o :: x :: srL A) → K (some (.inl 0)) h2) → V 8 [some (.inr (.inl (some x))), some (.inl days), some (.inl what), some (.inr (.inl (some o))), none] [.inl v, .inl 0, .inr (.inl (some o))] h' 1 6 := by
      intro v h' hv fr hk
      have ho' := (fr o hno).trans ho
      have hk2 := hk (ab_up h' o (.inr (.inl (2, 1, ab_uf f 0 v)))) (ab_uf f 0 v) (ab_up_eq _ _ _) (by simp [ab_uf]) ((fr.sub (fun b hb => List.mem_cons_of_mem _ hb)).up List.mem_cons_self)
      simp only [ab_in] at hv
      refine hV (fun _ => false) 80 _ _ _ _ _ _ ?_
      simp only [ho', ae_astore, ae_goto, ae_i2l, ae_iconst, ae_ireturn, ae_lastore, dL_foresee_8, dL_foresee_9, dL_foresee_10, dL_foresee_13, dL_foresee_15, dL_foresee_16, dL_foresee_17, dL_foresee_19, dL_foresee_20, dL_foresee_21, dL_foresee_22, ab_wp0, ab_wps, ab_stp, ab_g, ab_st, ab_k2, ab_cl, ab_pop, ab_sz, ab_2, ab_ret, ab_f4, ab_tg, ab_I, ab_II, ab_A, ab_Rf, ab_VR, ab_IR, ab_VIR, ab_1, ab_LL, ab_DD, ab_ob, ab_pr, ab_qr, ab_ln, ab_so, ab_vI, ab_vA, ab_vD, ab_vL, ab_v2, ab_c, ab_fit, ab_rv, ab_tsw, ab_lsw, ab_up_eq, Fin.isValue, ab_f0, ab_f1, ab_f2, ab_f3, List.getElem?_cons_zero, List.getElem?_cons_succ, List.set_cons_zero, List.set_cons_succ, List.length_cons, List.length_nil, List.size_toArray, List.head?_cons, List.tail_cons, Option.map_some, cond_true, cond_false, true_and, and_true, false_and, and_false, not_true_eq_false, not_false_eq_true, true_imp_iff, false_imp_iff, if_true, if_false, ite_true, ite_false, ↓reduceIte, Nat.reduceAdd, Nat.reduceEqDiff, Nat.reduceLeDiff, Nat.reduceLT, Nat.reduceBEq, Nat.reduceBNe, Int.reduceAdd, Int.reduceNeg, Int.reduceSub, Int.reduceLE, Int.reduceLT, Int.reduceToNat, Int.reduceEq, Int.reduceMul, Int.cast_ofNat_Int, Nat.zero_add, Nat.add_zero, Nat.le_refl, eq_self, ne_eq, reduceCtorEq, or_true, true_or, or_false, false_or, Bool.or_true, Bool.or_false, Bool.true_or, Bool.false_or, Nat.zero_le, Int.le_refl, Int.ofNat_zero, Int.ofNat_one, Bool.false_eq_true]
      try simp only [ab_in]
      (repeat' (first | intro _ | refine And.intro ?_ ?_)) <;> (first | exact hk2 | contradiction | omega | (exfalso; omega))
    have hx1 : ∀ q : Nat, K (some (.inl 1)) h → V 13 [some (.inr (.inl (some x))), some (.inl days), some (.inl what), some (.inr (.inl (some o))), none] [.inr (.inl (some q))] h 1 6 := by
      intro q hk
      refine hV (fun _ => false) 80 _ _ _ _ _ _ ?_
      simp only [ae_astore, ae_iconst, ae_ireturn, dL_foresee_13, dL_foresee_15, dL_foresee_16, dL_foresee_17, dL_foresee_19, dL_foresee_20, dL_foresee_21, dL_foresee_22, ab_wp0, ab_wps, ab_stp, ab_g, ab_st, ab_k2, ab_cl, ab_pop, ab_sz, ab_2, ab_ret, ab_f4, ab_tg, ab_I, ab_II, ab_A, ab_Rf, ab_VR, ab_IR, ab_VIR, ab_1, ab_LL, ab_DD, ab_ob, ab_pr, ab_qr, ab_ln, ab_so, ab_vI, ab_vA, ab_vD, ab_vL, ab_v2, ab_c, ab_fit, ab_rv, ab_tsw, ab_lsw, ab_up_eq, Fin.isValue, ab_f0, ab_f1, ab_f2, ab_f3, List.getElem?_cons_zero, List.getElem?_cons_succ, List.set_cons_zero, List.set_cons_succ, List.length_cons, List.length_nil, List.size_toArray, List.head?_cons, List.tail_cons, Option.map_some, cond_true, cond_false, true_and, and_true, false_and, and_false, not_true_eq_false, not_false_eq_true, true_imp_iff, false_imp_iff, if_true, if_false, ite_true, ite_false, ↓reduceIte, Nat.reduceAdd, Nat.reduceEqDiff, Nat.reduceLeDiff, Nat.reduceLT, Nat.reduceBEq, Nat.reduceBNe, Int.reduceAdd, Int.reduceNeg, Int.reduceSub, Int.reduceLE, Int.reduceLT, Int.reduceToNat, Int.reduceEq, Int.reduceMul, Int.cast_ofNat_Int, Nat.zero_add, Nat.add_zero, Nat.le_refl, eq_self, ne_eq, reduceCtorEq, or_true, true_or, or_false, false_or, Bool.or_true, Bool.or_false, Bool.true_or, Bool.false_or, Nat.zero_le, Int.le_refl, Int.ofNat_zero, Int.ofNat_one, Bool.false_eq_true]
      exact hk
    have hx3 : ∀ q : Nat, K (some (.inl 2)) h → V 17 [some (.inr (.inl (some x))), some (.inl days), some (.inl what), some (.inr (.inl (some o))), none] [.inr (.inl (some q))] h 1 6 := by
      intro q hk
      refine hV (fun _ => false) 80 _ _ _ _ _ _ ?_
      simp only [ae_astore, ae_iconst, ae_ireturn, dL_foresee_17, dL_foresee_19, dL_foresee_20, dL_foresee_21, dL_foresee_22, ab_wp0, ab_wps, ab_stp, ab_g, ab_st, ab_k2, ab_cl, ab_pop, ab_sz, ab_2, ab_ret, ab_f4, ab_tg, ab_I, ab_II, ab_A, ab_Rf, ab_VR, ab_IR, ab_VIR, ab_1, ab_LL, ab_DD, ab_ob, ab_pr, ab_qr, ab_ln, ab_so, ab_vI, ab_vA, ab_vD, ab_vL, ab_v2, ab_c, ab_fit, ab_rv, ab_tsw, ab_lsw, ab_up_eq, Fin.isValue, ab_f0, ab_f1, ab_f2, ab_f3, List.getElem?_cons_zero, List.getElem?_cons_succ, List.set_cons_zero, List.set_cons_succ, List.length_cons, List.length_nil, List.size_toArray, List.head?_cons, List.tail_cons, Option.map_some, cond_true, cond_false, true_and, and_true, false_and, and_false, not_true_eq_false, not_false_eq_true, true_imp_iff, false_imp_iff, if_true, if_false, ite_true, ite_false, ↓reduceIte, Nat.reduceAdd, Nat.reduceEqDiff, Nat.reduceLeDiff, Nat.reduceLT, Nat.reduceBEq, Nat.reduceBNe, Int.reduceAdd, Int.reduceNeg, Int.reduceSub, Int.reduceLE, Int.reduceLT, Int.reduceToNat, Int.reduceEq, Int.reduceMul, Int.cast_ofNat_Int, Nat.zero_add, Nat.add_zero, Nat.le_refl, eq_self, ne_eq, reduceCtorEq, or_true, true_or, or_false, false_or, Bool.or_true, Bool.or_false, Bool.true_or, Bool.false_or, Nat.zero_le, Int.le_refl, Int.ofNat_zero, Int.ofNat_one, Bool.false_eq_true]
      exact hk
    have hcall := hC [some (.inr (.inl (some x))), some (.inl days), some (.inl what), some (.inr (.inl (some o))), none] [.inr (.inl (some x)), .inl days, .inl what] [.inl 0, .inr (.inl (some o))] h 0 0 rfl (Nat.le_of_ble_eq_true rfl) (by decide) (by decide) (by simp only [ab_rv, D, ab_ob])
    refine hV (fun p => p == 5) 80 _ _ _ _ _ _ ?_
    simp only [ae_aload_n, ae_iconst, ae_iload_n, dL_foresee_0, dL_foresee_1, dL_foresee_2, dL_foresee_3, dL_foresee_4, ab_wp0, ab_wps, ab_stp, ab_g, ab_st, ab_k2, ab_cl, ab_pop, ab_sz, ab_2, ab_ret, ab_f4, ab_tg, ab_I, ab_II, ab_A, ab_Rf, ab_VR, ab_IR, ab_VIR, ab_1, ab_LL, ab_DD, ab_ob, ab_pr, ab_qr, ab_ln, ab_so, ab_vI, ab_vA, ab_vD, ab_vL, ab_v2, ab_c, ab_fit, ab_rv, ab_tsw, ab_lsw, ab_up_eq, Fin.isValue, ab_f0, ab_f1, ab_f2, ab_f3, List.getElem?_cons_zero, List.getElem?_cons_succ, List.set_cons_zero, List.set_cons_succ, List.length_cons, List.length_nil, List.size_toArray, List.head?_cons, List.tail_cons, Option.map_some, cond_true, cond_false, true_and, and_true, false_and, and_false, not_true_eq_false, not_false_eq_true, true_imp_iff, false_imp_iff, if_true, if_false, ite_true, ite_false, ↓reduceIte, Nat.reduceAdd, Nat.reduceEqDiff, Nat.reduceLeDiff, Nat.reduceLT, Nat.reduceBEq, Nat.reduceBNe, Int.reduceAdd, Int.reduceNeg, Int.reduceSub, Int.reduceLE, Int.reduceLT, Int.reduceToNat, Int.reduceEq, Int.reduceMul, Int.cast_ofNat_Int, Nat.zero_add, Nat.add_zero, Nat.le_refl, eq_self, ne_eq, reduceCtorEq, or_true, true_or, or_false, false_or, Bool.or_true, Bool.or_false, Bool.true_or, Bool.false_or, Nat.zero_le, Int.le_refl, Int.ofNat_zero, Int.ofNat_one, Bool.false_eq_true]
    refine hcall ?_
    unfold TrX_X3_foresee
    dsimp only
    rw [hP]
    refine ab_so_mk ?_
    dsimp only
    obtain ⟨hK0, hK1, hK2⟩ := hK
    refine ⟨⟨rfl, hs⟩, ?_, ?_, ?_⟩
    · intro hl h' fr
      refine ⟨fun v hv => ?_, fun n hn => (by cases hn), fun z => (by cases z), fun r9 z => (by cases z), fun d9 z => (by cases z)⟩
      cases hv
      refine hret _ h' ?_ fr (hK2 (by simpa using hl))
      exact ⟨by decide, by decide⟩
    · intro hl
      refine ⟨fun v hv => (by cases hv), fun n hn => ?_, fun z => (by cases z), fun r9 z => (by cases z), fun d9 z => (by cases z)⟩
      have hn9 : n = 1 := by
        have := Option.some.inj hn
        simp only [Sum.inr.injEq, Sum.inl.injEq] at this
        omega
      subst hn9
      refine ⟨_, rfl, fun q => hx1 q ?_⟩
      revert hl hK0
      generalize K (some (.inl 1)) h = KK
      cases decide (1 ≤ days ∧ days ≤ 60) <;> cases isUpToF (what) 2 <;> intro hK0 hl <;> first | (exfalso; revert hl; simp; done) | (refine hK0 ?_; simp; done) | (refine hK0 trivial)
    · intro hl
      refine ⟨fun v hv => (by cases hv), fun n hn => ?_, fun z => (by cases z), fun r9 z => (by cases z), fun d9 z => (by cases z)⟩
      have hn9 : n = 3 := by
        have := Option.some.inj hn
        simp only [Sum.inr.injEq, Sum.inl.injEq] at this
        omega
      subst hn9
      refine ⟨_, rfl, fun q => hx3 q ?_⟩
      revert hl hK1
      generalize K (some (.inl 2)) h = KK
      cases decide (1 ≤ days ∧ days ≤ 60) <;> cases isUpToF (what) 2 <;> intro hK1 hl <;> first | (exfalso; revert hl; simp; done) | (refine hK1 ?_; simp; done) | (refine hK1 trivial)
  · exact hT.elim
set_option maxRecDepth 100000 in
theorem conw_L_foresee (l : Launch) (hl : l.stackTraces = false) (D : va_G) (ty : Nat → ClassId) (base : Nat) : ab_ConW l D vwCl ty lw_ts base lw_wd yL_foresee cL_foresee 5 (some .int) [(0, 10, 13, 13), (0, 10, 17, 21)] 7 163 1 6 Tr_L_foresee :=
  ab_conW_of (own := RL) (rt := 1) (tb := tbL) (pc := 5) (ci := 3) (n := 2) (i := 64) (yC := yX3_foresee) (hp := ab_lk [(1, 13), (3, 17)]) (by decide +kernel) rfl rfl lw_wd_ok wtbL lw_ar (conx_X3_foresee l hl D ty base) dL_foresee_5 rfl (lw_wi (by decide +kernel) (by decide +kernel)) (lw_wi (by decide +kernel) (by decide +kernel)) (lw_wi (by decide +kernel) (by decide +kernel)) (lw_wi (by decide +kernel) (by decide +kernel)) (lw_wi (by decide +kernel) (by decide +kernel)) (by decide +kernel) ⟨by decide, by decide⟩
    (ab_lk_all (P := fun n t => ab_hd RL lw_wd [(0, 10, 13, 13), (0, 10, 17, 21)] 5 n t) (ab_all_c (⟨[], (0, 10, 13, 13), [(0, 10, 17, 21)], rfl, fun _ h => absurd h List.not_mem_nil, ⟨by decide, by decide⟩, by decide, rfl, (lw_wi (by decide +kernel) (by decide +kernel)), (lw_wi (by decide +kernel) (by decide +kernel))⟩) (ab_all_c (⟨[(0, 10, 13, 13)], (0, 10, 17, 21), [], rfl, List.forall_mem_cons.mpr ⟨⟨by decide, 1, Or.inl rfl, by decide, (lw_wi (by decide +kernel) (by decide +kernel))⟩, fun _ h => absurd h List.not_mem_nil⟩, ⟨by decide, by decide⟩, by decide, rfl, (lw_wi (by decide +kernel) (by decide +kernel)), (lw_wi (by decide +kernel) (by decide +kernel))⟩) (ab_all_n))))
    (by intro as h K ht; unfold Tr_L_foresee at ht; split at ht <;> first | exact ht.elim | exact Nat.le_of_ble_eq_true rfl) (semw_L_foresee base)
/- -/
